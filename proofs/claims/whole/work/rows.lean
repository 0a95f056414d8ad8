section
-- ===== PART A: goes FIRST, ahead of the names: the tables' words, and 'selects' of the private methods out of them =====
/-- a private method of a class that the tables say can be made, by its rows of tables_1 -/
def lw_okq (q : MethodName × Nat) : Prop := (q.1.cls ≠ "java/lang/invoke/MethodHandle" ∧ q.1.cls ≠ "java/lang/invoke/VarHandle") ∧ Cond.instantiable q.1.cls q.2 ∈ tables_1 ∧ Cond.privateMethod q.1 ∈ tables_1 ∧ Cond.instanceMethod q.1 ∈ tables_1
theorem lw_p0 : lw_okq (⟨"StandTests$TrialReader", "readTrials", "()Z"⟩, 4) := ⟨⟨by decide +kernel, by decide +kernel⟩, List.mem_of_getElem? (i := 265) (by decide +kernel), List.mem_of_getElem? (i := 288) (by decide +kernel), List.mem_of_getElem? (i := 289) (by decide +kernel)⟩
theorem lw_p1 : lw_okq (⟨"StandTests$TrialReader", "skip", "(C)Z"⟩, 4) := ⟨⟨by decide +kernel, by decide +kernel⟩, List.mem_of_getElem? (i := 265) (by decide +kernel), List.mem_of_getElem? (i := 292) (by decide +kernel), List.mem_of_getElem? (i := 293) (by decide +kernel)⟩
theorem lw_p2 : lw_okq (⟨"StandTests$TrialReader", "readTrial", "()Z"⟩, 4) := ⟨⟨by decide +kernel, by decide +kernel⟩, List.mem_of_getElem? (i := 265) (by decide +kernel), List.mem_of_getElem? (i := 309) (by decide +kernel), List.mem_of_getElem? (i := 310) (by decide +kernel)⟩
theorem lw_p3 : lw_okq (⟨"StandTests$TrialReader", "readSigned", "()Z"⟩, 4) := ⟨⟨by decide +kernel, by decide +kernel⟩, List.mem_of_getElem? (i := 265) (by decide +kernel), List.mem_of_getElem? (i := 313) (by decide +kernel), List.mem_of_getElem? (i := 314) (by decide +kernel)⟩
theorem lw_p4 : lw_okq (⟨"StandTests$TrialReader", "readDigits", "()Z"⟩, 4) := ⟨⟨by decide +kernel, by decide +kernel⟩, List.mem_of_getElem? (i := 265) (by decide +kernel), List.mem_of_getElem? (i := 317) (by decide +kernel), List.mem_of_getElem? (i := 318) (by decide +kernel)⟩
theorem lw_p5 : lw_okq (⟨"StandTests$TrialReader", "digitHere", "()I"⟩, 4) := ⟨⟨by decide +kernel, by decide +kernel⟩, List.mem_of_getElem? (i := 265) (by decide +kernel), List.mem_of_getElem? (i := 321) (by decide +kernel), List.mem_of_getElem? (i := 322) (by decide +kernel)⟩
theorem lw_p6 : lw_okq (⟨"java/util/ArrayList", "add", "(Ljava/lang/Object;[Ljava/lang/Object;I)V"⟩, 3) := ⟨⟨by decide +kernel, by decide +kernel⟩, List.mem_of_getElem? (i := 41) (by decide +kernel), List.mem_of_getElem? (i := 346) (by decide +kernel), List.mem_of_getElem? (i := 347) (by decide +kernel)⟩
theorem lw_p7 : lw_okq (⟨"java/util/ArrayList", "grow", "()[Ljava/lang/Object;"⟩, 3) := ⟨⟨by decide +kernel, by decide +kernel⟩, List.mem_of_getElem? (i := 41) (by decide +kernel), List.mem_of_getElem? (i := 350) (by decide +kernel), List.mem_of_getElem? (i := 351) (by decide +kernel)⟩
theorem lw_p8 : lw_okq (⟨"java/util/ArrayList", "grow", "(I)[Ljava/lang/Object;"⟩, 3) := ⟨⟨by decide +kernel, by decide +kernel⟩, List.mem_of_getElem? (i := 41) (by decide +kernel), List.mem_of_getElem? (i := 354) (by decide +kernel), List.mem_of_getElem? (i := 355) (by decide +kernel)⟩
theorem lw_p9 : lw_okq (⟨"java/lang/Throwable", "fillInStackTrace", "(I)Ljava/lang/Throwable;"⟩, 6) := ⟨⟨by decide +kernel, by decide +kernel⟩, List.mem_of_getElem? (i := 545) (by decide +kernel), List.mem_of_getElem? (i := 543) (by decide +kernel), List.mem_of_getElem? (i := 544) (by decide +kernel)⟩
theorem lw_p10 : lw_okq (⟨"StandTests", "layOutSides", "(LStandTests$Foot;)V"⟩, 8) := ⟨⟨by decide +kernel, by decide +kernel⟩, List.mem_of_getElem? (i := 33) (by decide +kernel), List.mem_of_getElem? (i := 731) (by decide +kernel), List.mem_of_getElem? (i := 732) (by decide +kernel)⟩
theorem lw_p11 : lw_okq (⟨"StandTests", "firstCorner", "(LStandTests$Foot;)LStandTests$Foot;"⟩, 8) := ⟨⟨by decide +kernel, by decide +kernel⟩, List.mem_of_getElem? (i := 33) (by decide +kernel), List.mem_of_getElem? (i := 739) (by decide +kernel), List.mem_of_getElem? (i := 740) (by decide +kernel)⟩
theorem lw_p12 : lw_okq (⟨"StandTests$Foot", "isBefore", "(LStandTests$Foot;)Z"⟩, 3) := ⟨⟨by decide +kernel, by decide +kernel⟩, List.mem_of_getElem? (i := 712) (by decide +kernel), List.mem_of_getElem? (i := 755) (by decide +kernel), List.mem_of_getElem? (i := 756) (by decide +kernel)⟩
theorem lw_p13 : lw_okq (⟨"StandTests", "cornersAgainstClock", "(LStandTests$Foot;)Ljava/util/ArrayList;"⟩, 8) := ⟨⟨by decide +kernel, by decide +kernel⟩, List.mem_of_getElem? (i := 33) (by decide +kernel), List.mem_of_getElem? (i := 759) (by decide +kernel), List.mem_of_getElem? (i := 760) (by decide +kernel)⟩
theorem lw_p14 : lw_okq (⟨"StandTests", "cornerAfter", "(LStandTests$Foot;)LStandTests$Foot;"⟩, 8) := ⟨⟨by decide +kernel, by decide +kernel⟩, List.mem_of_getElem? (i := 33) (by decide +kernel), List.mem_of_getElem? (i := 763) (by decide +kernel), List.mem_of_getElem? (i := 764) (by decide +kernel)⟩
theorem lw_p15 : lw_okq (⟨"StandTests$Foot", "seesMoreRightOf", "(LStandTests$Foot;LStandTests$Foot;)Z"⟩, 3) := ⟨⟨by decide +kernel, by decide +kernel⟩, List.mem_of_getElem? (i := 712) (by decide +kernel), List.mem_of_getElem? (i := 767) (by decide +kernel), List.mem_of_getElem? (i := 768) (by decide +kernel)⟩
def lw_privs_1 : List (MethodName × Nat) := [(⟨"StandTests$TrialReader", "readTrials", "()Z"⟩, 4), (⟨"StandTests$TrialReader", "skip", "(C)Z"⟩, 4), (⟨"StandTests$TrialReader", "readTrial", "()Z"⟩, 4), (⟨"StandTests$TrialReader", "readSigned", "()Z"⟩, 4), (⟨"StandTests$TrialReader", "readDigits", "()Z"⟩, 4), (⟨"StandTests$TrialReader", "digitHere", "()I"⟩, 4), (⟨"java/util/ArrayList", "add", "(Ljava/lang/Object;[Ljava/lang/Object;I)V"⟩, 3), (⟨"java/util/ArrayList", "grow", "()[Ljava/lang/Object;"⟩, 3), (⟨"java/util/ArrayList", "grow", "(I)[Ljava/lang/Object;"⟩, 3), (⟨"java/lang/Throwable", "fillInStackTrace", "(I)Ljava/lang/Throwable;"⟩, 6), (⟨"StandTests", "layOutSides", "(LStandTests$Foot;)V"⟩, 8), (⟨"StandTests", "firstCorner", "(LStandTests$Foot;)LStandTests$Foot;"⟩, 8), (⟨"StandTests$Foot", "isBefore", "(LStandTests$Foot;)Z"⟩, 3), (⟨"StandTests", "cornersAgainstClock", "(LStandTests$Foot;)Ljava/util/ArrayList;"⟩, 8), (⟨"StandTests", "cornerAfter", "(LStandTests$Foot;)LStandTests$Foot;"⟩, 8), (⟨"StandTests$Foot", "seesMoreRightOf", "(LStandTests$Foot;LStandTests$Foot;)Z"⟩, 3)]
theorem lw_r1 : ∀ q ∈ lw_privs_1, lw_okq q := List.forall_mem_cons.mpr ⟨lw_p0, List.forall_mem_cons.mpr ⟨lw_p1, List.forall_mem_cons.mpr ⟨lw_p2, List.forall_mem_cons.mpr ⟨lw_p3, List.forall_mem_cons.mpr ⟨lw_p4, List.forall_mem_cons.mpr ⟨lw_p5, List.forall_mem_cons.mpr ⟨lw_p6, List.forall_mem_cons.mpr ⟨lw_p7, List.forall_mem_cons.mpr ⟨lw_p8, List.forall_mem_cons.mpr ⟨lw_p9, List.forall_mem_cons.mpr ⟨lw_p10, List.forall_mem_cons.mpr ⟨lw_p11, List.forall_mem_cons.mpr ⟨lw_p12, List.forall_mem_cons.mpr ⟨lw_p13, List.forall_mem_cons.mpr ⟨lw_p14, List.forall_mem_cons.mpr ⟨lw_p15, fun _ h => absurd h List.not_mem_nil⟩⟩⟩⟩⟩⟩⟩⟩⟩⟩⟩⟩⟩⟩⟩⟩
theorem lw_p16 : lw_okq (⟨"StandTests$Foot", "isAt", "(LStandTests$Foot;)Z"⟩, 3) := ⟨⟨by decide +kernel, by decide +kernel⟩, List.mem_of_getElem? (i := 712) (by decide +kernel), List.mem_of_getElem? (i := 771) (by decide +kernel), List.mem_of_getElem? (i := 772) (by decide +kernel)⟩
theorem lw_p17 : lw_okq (⟨"StandTests$Foot", "turn", "(LStandTests$Foot;LStandTests$Foot;)J"⟩, 3) := ⟨⟨by decide +kernel, by decide +kernel⟩, List.mem_of_getElem? (i := 712) (by decide +kernel), List.mem_of_getElem? (i := 775) (by decide +kernel), List.mem_of_getElem? (i := 776) (by decide +kernel)⟩
theorem lw_p18 : lw_okq (⟨"StandTests$Foot", "squareTo", "(LStandTests$Foot;)J"⟩, 3) := ⟨⟨by decide +kernel, by decide +kernel⟩, List.mem_of_getElem? (i := 712) (by decide +kernel), List.mem_of_getElem? (i := 779) (by decide +kernel), List.mem_of_getElem? (i := 780) (by decide +kernel)⟩
theorem lw_p19 : lw_okq (⟨"StandTests$Load", "placeOn", "(I)J"⟩, 6) := ⟨⟨by decide +kernel, by decide +kernel⟩, List.mem_of_getElem? (i := 100) (by decide +kernel), List.mem_of_getElem? (i := 835) (by decide +kernel), List.mem_of_getElem? (i := 836) (by decide +kernel)⟩
theorem lw_p20 : lw_okq (⟨"StandTests", "needPolygon", "()V"⟩, 8) := ⟨⟨by decide +kernel, by decide +kernel⟩, List.mem_of_getElem? (i := 33) (by decide +kernel), List.mem_of_getElem? (i := 853) (by decide +kernel), List.mem_of_getElem? (i := 854) (by decide +kernel)⟩
theorem lw_p21 : lw_okq (⟨"StandTests", "verdict", "(ILStandTests$Load;)I"⟩, 8) := ⟨⟨by decide +kernel, by decide +kernel⟩, List.mem_of_getElem? (i := 33) (by decide +kernel), List.mem_of_getElem? (i := 871) (by decide +kernel), List.mem_of_getElem? (i := 872) (by decide +kernel)⟩
theorem lw_p22 : lw_okq (⟨"StandTests", "momentOver", "(LStandTests$Side;ILStandTests$Load;)J"⟩, 8) := ⟨⟨by decide +kernel, by decide +kernel⟩, List.mem_of_getElem? (i := 33) (by decide +kernel), List.mem_of_getElem? (i := 875) (by decide +kernel), List.mem_of_getElem? (i := 876) (by decide +kernel)⟩
theorem lw_p23 : lw_okq (⟨"StandTests$Load", "momentAbout", "(LStandTests$Side;I)J"⟩, 6) := ⟨⟨by decide +kernel, by decide +kernel⟩, List.mem_of_getElem? (i := 100) (by decide +kernel), List.mem_of_getElem? (i := 879) (by decide +kernel), List.mem_of_getElem? (i := 880) (by decide +kernel)⟩
theorem lw_p24 : lw_okq (⟨"StandTests$Side", "turnTo", "(JJ)J"⟩, 2) := ⟨⟨by decide +kernel, by decide +kernel⟩, List.mem_of_getElem? (i := 783) (by decide +kernel), List.mem_of_getElem? (i := 883) (by decide +kernel), List.mem_of_getElem? (i := 884) (by decide +kernel)⟩
theorem lw_p25 : lw_okq (⟨"StandTests", "openDrawers", "(LStandTests$Trial;)I"⟩, 8) := ⟨⟨by decide +kernel, by decide +kernel⟩, List.mem_of_getElem? (i := 33) (by decide +kernel), List.mem_of_getElem? (i := 912) (by decide +kernel), List.mem_of_getElem? (i := 913) (by decide +kernel)⟩
theorem lw_p26 : lw_okq (⟨"StandTestsModel", "wind", "()V"⟩, 24) := ⟨⟨by decide +kernel, by decide +kernel⟩, List.mem_of_getElem? (i := 964) (by decide +kernel), List.mem_of_getElem? (i := 1066) (by decide +kernel), List.mem_of_getElem? (i := 1067) (by decide +kernel)⟩
theorem lw_p27 : lw_okq (⟨"StandTestsModel", "next", "(I)I"⟩, 24) := ⟨⟨by decide +kernel, by decide +kernel⟩, List.mem_of_getElem? (i := 964) (by decide +kernel), List.mem_of_getElem? (i := 1070) (by decide +kernel), List.mem_of_getElem? (i := 1071) (by decide +kernel)⟩
theorem lw_p28 : lw_okq (⟨"StandTestsModel", "isSide", "(II)Z"⟩, 24) := ⟨⟨by decide +kernel, by decide +kernel⟩, List.mem_of_getElem? (i := 964) (by decide +kernel), List.mem_of_getElem? (i := 1074) (by decide +kernel), List.mem_of_getElem? (i := 1075) (by decide +kernel)⟩
theorem lw_p29 : lw_okq (⟨"StandTestsModel", "turn", "(IIJJ)J"⟩, 24) := ⟨⟨by decide +kernel, by decide +kernel⟩, List.mem_of_getElem? (i := 964) (by decide +kernel), List.mem_of_getElem? (i := 1078) (by decide +kernel), List.mem_of_getElem? (i := 1079) (by decide +kernel)⟩
theorem lw_p30 : lw_okq (⟨"StandTestsModel", "noPolygon", "()Z"⟩, 24) := ⟨⟨by decide +kernel, by decide +kernel⟩, List.mem_of_getElem? (i := 964) (by decide +kernel), List.mem_of_getElem? (i := 1101) (by decide +kernel), List.mem_of_getElem? (i := 1102) (by decide +kernel)⟩
theorem lw_p31 : lw_okq (⟨"StandTestsModel", "tipping", "(IJJJ)I"⟩, 24) := ⟨⟨by decide +kernel, by decide +kernel⟩, List.mem_of_getElem? (i := 964) (by decide +kernel), List.mem_of_getElem? (i := 1109) (by decide +kernel), List.mem_of_getElem? (i := 1110) (by decide +kernel)⟩
def lw_privs_2 : List (MethodName × Nat) := [(⟨"StandTests$Foot", "isAt", "(LStandTests$Foot;)Z"⟩, 3), (⟨"StandTests$Foot", "turn", "(LStandTests$Foot;LStandTests$Foot;)J"⟩, 3), (⟨"StandTests$Foot", "squareTo", "(LStandTests$Foot;)J"⟩, 3), (⟨"StandTests$Load", "placeOn", "(I)J"⟩, 6), (⟨"StandTests", "needPolygon", "()V"⟩, 8), (⟨"StandTests", "verdict", "(ILStandTests$Load;)I"⟩, 8), (⟨"StandTests", "momentOver", "(LStandTests$Side;ILStandTests$Load;)J"⟩, 8), (⟨"StandTests$Load", "momentAbout", "(LStandTests$Side;I)J"⟩, 6), (⟨"StandTests$Side", "turnTo", "(JJ)J"⟩, 2), (⟨"StandTests", "openDrawers", "(LStandTests$Trial;)I"⟩, 8), (⟨"StandTestsModel", "wind", "()V"⟩, 24), (⟨"StandTestsModel", "next", "(I)I"⟩, 24), (⟨"StandTestsModel", "isSide", "(II)Z"⟩, 24), (⟨"StandTestsModel", "turn", "(IIJJ)J"⟩, 24), (⟨"StandTestsModel", "noPolygon", "()Z"⟩, 24), (⟨"StandTestsModel", "tipping", "(IJJJ)I"⟩, 24)]
theorem lw_r2 : ∀ q ∈ lw_privs_2, lw_okq q := List.forall_mem_cons.mpr ⟨lw_p16, List.forall_mem_cons.mpr ⟨lw_p17, List.forall_mem_cons.mpr ⟨lw_p18, List.forall_mem_cons.mpr ⟨lw_p19, List.forall_mem_cons.mpr ⟨lw_p20, List.forall_mem_cons.mpr ⟨lw_p21, List.forall_mem_cons.mpr ⟨lw_p22, List.forall_mem_cons.mpr ⟨lw_p23, List.forall_mem_cons.mpr ⟨lw_p24, List.forall_mem_cons.mpr ⟨lw_p25, List.forall_mem_cons.mpr ⟨lw_p26, List.forall_mem_cons.mpr ⟨lw_p27, List.forall_mem_cons.mpr ⟨lw_p28, List.forall_mem_cons.mpr ⟨lw_p29, List.forall_mem_cons.mpr ⟨lw_p30, List.forall_mem_cons.mpr ⟨lw_p31, fun _ h => absurd h List.not_mem_nil⟩⟩⟩⟩⟩⟩⟩⟩⟩⟩⟩⟩⟩⟩⟩⟩
theorem lw_p32 : lw_okq (⟨"StandTestsModel", "momentOf", "(IIJJJ)J"⟩, 24) := ⟨⟨by decide +kernel, by decide +kernel⟩, List.mem_of_getElem? (i := 964) (by decide +kernel), List.mem_of_getElem? (i := 1113) (by decide +kernel), List.mem_of_getElem? (i := 1114) (by decide +kernel)⟩
theorem lw_p33 : lw_okq (⟨"StandTestsModel", "isOut", "(II)Z"⟩, 24) := ⟨⟨by decide +kernel, by decide +kernel⟩, List.mem_of_getElem? (i := 964) (by decide +kernel), List.mem_of_getElem? (i := 1117) (by decide +kernel), List.mem_of_getElem? (i := 1118) (by decide +kernel)⟩
theorem lw_p34 : lw_okq (⟨"StandTestsModel", "readTest", "(I)V"⟩, 24) := ⟨⟨by decide +kernel, by decide +kernel⟩, List.mem_of_getElem? (i := 964) (by decide +kernel), List.mem_of_getElem? (i := 1137) (by decide +kernel), List.mem_of_getElem? (i := 1138) (by decide +kernel)⟩
theorem lw_p35 : lw_okq (⟨"StandTestsModel", "here", "()I"⟩, 24) := ⟨⟨by decide +kernel, by decide +kernel⟩, List.mem_of_getElem? (i := 964) (by decide +kernel), List.mem_of_getElem? (i := 1141) (by decide +kernel), List.mem_of_getElem? (i := 1142) (by decide +kernel)⟩
theorem lw_p36 : lw_okq (⟨"StandTestsModel", "fail", "()V"⟩, 24) := ⟨⟨by decide +kernel, by decide +kernel⟩, List.mem_of_getElem? (i := 964) (by decide +kernel), List.mem_of_getElem? (i := 1145) (by decide +kernel), List.mem_of_getElem? (i := 1146) (by decide +kernel)⟩
theorem lw_p37 : lw_okq (⟨"StandTestsModel", "readNumber", "(Z)I"⟩, 24) := ⟨⟨by decide +kernel, by decide +kernel⟩, List.mem_of_getElem? (i := 964) (by decide +kernel), List.mem_of_getElem? (i := 1149) (by decide +kernel), List.mem_of_getElem? (i := 1150) (by decide +kernel)⟩
theorem lw_p38 : lw_okq (⟨"StandTestsModel", "testAt", "(I)I"⟩, 24) := ⟨⟨by decide +kernel, by decide +kernel⟩, List.mem_of_getElem? (i := 964) (by decide +kernel), List.mem_of_getElem? (i := 1157) (by decide +kernel), List.mem_of_getElem? (i := 1158) (by decide +kernel)⟩
theorem lw_p39 : lw_okq (⟨"StandTestsModel", "openIn", "(I)I"⟩, 24) := ⟨⟨by decide +kernel, by decide +kernel⟩, List.mem_of_getElem? (i := 964) (by decide +kernel), List.mem_of_getElem? (i := 1161) (by decide +kernel), List.mem_of_getElem? (i := 1162) (by decide +kernel)⟩
theorem lw_p40 : lw_okq (⟨"StandTestsModel", "cross", "(II)J"⟩, 24) := ⟨⟨by decide +kernel, by decide +kernel⟩, List.mem_of_getElem? (i := 964) (by decide +kernel), List.mem_of_getElem? (i := 1175) (by decide +kernel), List.mem_of_getElem? (i := 1176) (by decide +kernel)⟩
def lw_privs_3 : List (MethodName × Nat) := [(⟨"StandTestsModel", "momentOf", "(IIJJJ)J"⟩, 24), (⟨"StandTestsModel", "isOut", "(II)Z"⟩, 24), (⟨"StandTestsModel", "readTest", "(I)V"⟩, 24), (⟨"StandTestsModel", "here", "()I"⟩, 24), (⟨"StandTestsModel", "fail", "()V"⟩, 24), (⟨"StandTestsModel", "readNumber", "(Z)I"⟩, 24), (⟨"StandTestsModel", "testAt", "(I)I"⟩, 24), (⟨"StandTestsModel", "openIn", "(I)I"⟩, 24), (⟨"StandTestsModel", "cross", "(II)J"⟩, 24)]
theorem lw_r3 : ∀ q ∈ lw_privs_3, lw_okq q := List.forall_mem_cons.mpr ⟨lw_p32, List.forall_mem_cons.mpr ⟨lw_p33, List.forall_mem_cons.mpr ⟨lw_p34, List.forall_mem_cons.mpr ⟨lw_p35, List.forall_mem_cons.mpr ⟨lw_p36, List.forall_mem_cons.mpr ⟨lw_p37, List.forall_mem_cons.mpr ⟨lw_p38, List.forall_mem_cons.mpr ⟨lw_p39, List.forall_mem_cons.mpr ⟨lw_p40, fun _ h => absurd h List.not_mem_nil⟩⟩⟩⟩⟩⟩⟩⟩⟩
def lw_privs : List (MethodName × Nat) := lw_privs_1 ++ (lw_privs_2 ++ (lw_privs_3))
def lw_tbl : List Cond := k2_sels lw_privs ++ tables_1
theorem lw_privs_ok : ∀ q ∈ lw_privs, lw_okq q := by
  show ∀ q ∈ lw_privs_1 ++ (lw_privs_2 ++ (lw_privs_3)), lw_okq q
  exact List.forall_mem_append.mpr ⟨lw_r1, List.forall_mem_append.mpr ⟨lw_r2, lw_r3⟩⟩
/-- the streams that the claim lets the run draw from -/
abbrev lw_cs : List Choice := [Jvm.Choice.named "NaN.bits"]
theorem lw_bits : nanBits ∈ lw_cs := by first | decide | exact List.mem_cons_self | simp [lw_cs, nanBits]
-- ===== end of PART A; then your names; then what follows =====
/-! ===== BEGIN words of one list among another's, by their places ===== -/
theorem goodIn_r {big : List Cond} (ws : List Cond) (ps : List Nat) (hp : ws = ps.filterMap (fun i => big[i]?)) (h : ws.all goodWord = true) : GoodIn big ws := by
  intro w hw
  have h1 := List.all_eq_true.mp h w hw
  rw [hp] at hw
  obtain ⟨i, -, hi⟩ := List.mem_filterMap.mp hw
  have hm : w ∈ big := by first | exact List.mem_of_getElem? hi | exact List.getElem?_mem hi
  exact ⟨hm, good_of_word h1⟩
theorem goodIn_app {big a b : List Cond} (ha : GoodIn big a) (hb : GoodIn big b) : GoodIn big (a ++ b) := fun w h => (List.mem_append.mp h).elim (ha w) (hb w)
theorem goodIn_ca {big a b : List Cond} {c : Cond} (ha : GoodIn big (c :: a)) (hb : GoodIn big b) : GoodIn big (c :: (a ++ b)) := fun w h => (List.mem_cons.mp h).elim (fun e => ha w (List.mem_cons.mpr (Or.inl e))) (fun h => (List.mem_append.mp h).elim (fun h => ha w (List.mem_cons.mpr (Or.inr h))) (hb w))
theorem goodIn_sub {big ws : List Cond} (hm : ∀ w ∈ ws, w ∈ big) (h : ws.all goodWord = true) : GoodIn big ws := fun w hw => ⟨hm w hw, good_of_word (List.all_eq_true.mp h w hw)⟩
/-! ===== END ===== -/

/-! ===== BEGIN exceptions that leave a method, and their catching by the caller (launches without stack traces) ===== -/
section VXA
/-! The laws vx_back, vx_callV, vx_callS, vx_callSW, vx_throw0, vx_throwS follow proofs of the library, with one case more: JvmDerived/Free/Laws.lean (Back.of_free), Shelf42/LK1.lean (callV, callS), Shelf/KitTraced.lean (throwNew0V, throwNewS). -/
/-- where a method has thrown q: the class by its name, the cell, what was written, the world -/
def vx_T (XC : String → State → State → Prop) (st : State) (q : Addr) (t : State) (mc ms : Nat) (free : Addr → Prop) : Prop :=
  ∃ (E : String) (ce : Cell) (L : List Loc), XC E st t ∧ t.heap[q]? = some ce ∧ ce.vm = .none ∧ st.vm.findClass E = some ce.cls ∧ st.WarmedH t.vm ∧ st.sameButNew ({ t with vm := st.vm } : State) L mc ms ∧ ∀ z ∈ L, free z.base
def vx_Q (Qc : Array Value → State → Outcome → State → Prop) (XC : String → State → State → Prop) (mc ms : Nat) (free : Addr → Prop) : Array Value → State → Outcome → State → Prop := fun a st o t =>
  (Qc a st o t ∧ ∃ L, FrameEnd st o t L mc ms ∧ ∀ q ∈ L, free q.base) ∨ ∃ q, o = .threw q ∧ vx_T XC st q t mc ms free
/-- a callee that returns or throws -/
def vx_Met (l : Launch) (y : MethodName) (ws : List Cond) (rm : Room) (Pc : Array Value → State → Prop) (Qc : Array Value → State → Outcome → State → Prop) (XC : String → State → State → Prop) (mc ms : Nat) (free : Addr → Prop) : Prop :=
  MetFree l y (headSpec ws rm) Pc (fun _ _ _ _ _ => True) (vx_Q Qc XC mc ms free)
def vx_Post (XC : String → State → State → Prop) (mc ms : Nat) (free : Addr → Prop) : Pt → Array Value → Addr → Pt → Prop := fun A a q B =>
  ∃ (g : JFrame) (mk : MethodId) (t : State) (L : List Loc) (E : String) (ce : Cell), B.U.heap = t.heap ∧ B.U.vm = t.vm ∧ XC E (A.U.calling g mk a) t ∧ t.heap[q]? = some ce ∧ ce.vm = .none ∧ A.U.vm.findClass E = some ce.cls ∧ B.locs = A.locs ++ L ∧ (∀ z ∈ L, free z.base) ∧ B.cells = A.cells + mc ∧ B.slots = A.slots + ms
def vx_Back (l : Launch) (R : Room) (p : Program) (e : Env) (below : List Frame) (s : State) (sargs : Array Value) (y : MethodName) (len W9 : Nat)
    (Pre : Pt → Array Value → Prop) (Post : Pt → Array Value → Option Value → Pt → Prop) (PostX : Pt → Array Value → Addr → Pt → Prop) : Prop :=
  ∀ (m : MethodId) (meth : Method) (c : Code) (A : Pt) (g : JFrame) (ig : Instr) (mk : MethodId) (a : Array Value),
    Stand p l e R s m sargs below meth c A.U A.locs A.cells A.slots → g.method = m → g.locals.size = c.maxLocals → decode c.code g.pc = .ok (ig, len) →
    2 * g.monitorRoom + (g.stack.map fun v => v.category).sum ≤ W9 → A.U.methodNamed? y = some mk → Pre A a →
    (∃ (v : Option Value) (B : Pt), Stand p l e R s m sargs below meth c B.U B.locs B.cells B.slots ∧ Post A a v B ∧
      Steps p.tables e below (doInvoke e (A.U.setTop g) [] mk a).1 (B.U.setTop { g with pc := g.pc + len, stack := v.toList ++ g.stack })) ∨
    (∃ (q : Addr) (B : Pt), Stand p l e R s m sargs below meth c B.U B.locs B.cells B.slots ∧ PostX A a q B ∧
      Steps p.tables e below (doInvoke e (A.U.setTop g) [] mk a).1 ((B.U.setTop g).pushFrame (.throwing q)))
section Payer
variable {l : Launch} {R : Room} {p : Program} {e : Env} {below : List Frame} {s : State} {sargs : Array Value} {y : MethodName} {len W9 : Nat}
theorem vx_back {ws : List Cond} {rm : Room} {Pc : Array Value → State → Prop} {Qc : Array Value → State → Outcome → State → Prop} {XC : String → State → State → Prop} {mc ms : Nat} {free : Addr → Prop} {bytes : ByteArray} {maxL : Nat} {ret : Option FieldType}
    (hM : vx_Met l y ws rm Pc Qc XC mc ms free) (hblind : FrameBlind Pc) (hrc : rm.cells = mc) (hrs : rm.slots = ms)
    (hframes : rm.frames + 1 ≤ R.frames) (hlocals : W9 + (maxL + 11) + rm.locals ≤ R.locals)
    (hws : ∀ w ∈ ws, ∀ a' U, s.WarmedH U.vm → w.before a' U = true) (hcode : Cond.code y bytes maxL ret ∈ ws) (hinit : ∀ a' U, s.WarmedH U.vm → (Cond.initialized y.cls).before a' U = true) :
    vx_Back l R p e below s sargs y len W9 (PreOf R mc ms Pc) (PostOf Qc mc ms free) (vx_Post XC mc ms free) := by
  intro m meth c A g ig mk a X hg hsize hdg hW hn hp
  have h1 : (headSpec ws rm).pre.before a A.U = true := atoms_intro fun w hw => hws w hw _ _ X.warmed
  have h2 : (Cond.code y bytes maxL ret).before a A.U = true := hws _ hcode _ _ X.warmed
  have h3 : (Cond.initialized y.cls).before a A.U = true := hinit _ _ X.warmed
  have h4 : A.cells + (headSpec ws rm).room.cells ≤ R.cells := by rw [show (headSpec ws rm).room.cells = mc from hrc]; exact hp.1
  have h5 : A.slots + (headSpec ws rm).room.slots ≤ R.slots := by rw [show (headSpec ws rm).room.slots = ms from hrs]; exact hp.2.1
  have hPc : Pc a (A.U.calling g mk a) := hblind _ _ _ _ hp.2.2
  obtain ⟨U, Ls, c0, s0⟩ := A
  dsimp only [Pt.U, Pt.locs, Pt.cells, Pt.slots] at h1 h2 h3 h4 h5 X hn hPc ⊢
  obtain ⟨methY, cY, hmY, hcY, -, hlY, -, -, -, -⟩ := Cond.code_spec hn h2
  obtain ⟨kY, hkY, -⟩ := className_of_methodNamed hn
  have hinitY : kY.init = .initialized := Cond.initialized_spec (findClass_of_methodNamed hn) hkY h3
  have h : At U g.method c below := by rw [hg]; exact X.here
  have hlocals9 : W9 + (maxL + 11) + (headSpec ws rm).room.locals ≤ R.locals := hlocals
  have happ : (headSpec ws rm).appliesLoose y e.platform (U.calling g mk a) = true :=
    Spec.appliesLoose_calling (g := g) h hdg hn hkY hinitY
      (X.room_calling (g := g) (R' := (headSpec ws rm).room) hsize hmY hcY hframes (by rw [hlY]; omega) h4 h5) h1
  obtain ⟨mid, hmid⟩ := h.above
  have hfr : (U.setTop g).frames = (.java g :: mid) ++ below := by rw [State.frames_setTop' g h.top, hmid]; rfl
  obtain ⟨o, s₂, hsteps, -, hend, hq⟩ := Steps.callFree hM p X.admits X.cas X.clock (acts := []) hfr happ hPc trivial
  have hq' : vx_Q Qc XC mc ms free a (U.calling g mk a) o s₂ := hq
  rw [State.frames_setTop' g h.top] at hend
  obtain ⟨g₀, hg0⟩ := Option.isSome_iff_exists.mp h.top
  obtain ⟨r, hr⟩ := State.topJava?_eq_some.mp hg0
  have hr' : (({ U with heap := s₂.heap, slotsUsed := s₂.slotsUsed } : State).setVm s₂.vm).frames = .java g₀ :: r := hr
  rcases hq' with ⟨hqc, L, hfe, hL⟩ | ⟨q, rfl, E, ce, L, hx, hce, hcv, hcl, hW₂, hsm, hL⟩
  · obtain ⟨⟨v, rfl⟩, hW₂, e2, q2, q3, q4, q5, q6⟩ := id hfe
    have e3 : s₂ = ({ (U.calling g mk a).setFrames s₂.frames with heap := s₂.heap, slotsUsed := s₂.slotsUsed } : State).setVm s₂.vm := by
      have : s₂ = ({ s₂ with vm := (U.calling g mk a).vm } : State).setVm s₂.vm := rfl
      rw [e2] at this
      exact this
    obtain ⟨c₂, i₂, len₂, hc₂, hd₂, hf₂⟩ := hend
    have hW' : U.WarmedH s₂.vm := hW₂
    have hcc : c₂ = c := by
      have h1 : s₂.code? g.method = U.code? g.method := by
        rw [State.code?_eq, State.code?_eq, hW'.alike.method?]
      exact Option.some.inj (hc₂.symm.trans (h1.trans h.code))
    subst hcc
    have hlen : len₂ = len := by rw [hdg] at hd₂; cases hd₂; rfl
    subst hlen
    have hs₂ : s₂ = (({ U with heap := s₂.heap, slotsUsed := s₂.slotsUsed } : State).setVm s₂.vm).setTop { g with pc := g.pc + len₂, stack := v.toList ++ g.stack } := by
      refine e3.trans ?_
      rw [hf₂, State.calling_eq h.top, State.setFrames_setFrames, State.setTop_of_frames _ hr', hr]
      rfl
    have hsame : U.sameButNew ({ U with heap := s₂.heap, slotsUsed := s₂.slotsUsed } : State) L mc ms := by
      refine ⟨?_, q2, q3, q4, q5, q6⟩
      obtain ⟨t, ht, -⟩ := State.frames_cons hr
      show ({ U with heap := s₂.heap, slotsUsed := s₂.slotsUsed } : State) = { U.setFrames U.frames with heap := s₂.heap, slotsUsed := s₂.slotsUsed }
      rw [State.setFrames_self ht]
    subst hg
    refine Or.inl ⟨v, ⟨(({ U with heap := s₂.heap, slotsUsed := s₂.slotsUsed } : State).setVm s₂.vm), Ls ++ L, c0 + mc, s0 + ms⟩,
      ⟨X.admits, X.cas, X.clock, X.frames, X.room, X.hears, X.method, X.code, (X.here.setHeapUsed s₂.heap s₂.slotsUsed).setVm hW'.alike, X.tail, State.WarmedH.trans X.warmed hW', X.limits, X.bytes, X.same.trans (hsame.setVm s.vm)⟩,
      ⟨g, mk, s₂, L, rfl, rfl, hqc, rfl, hL, rfl, rfl⟩, ?_⟩
    show Steps p.tables e below _ ((({ U with heap := s₂.heap, slotsUsed := s₂.slotsUsed } : State).setVm s₂.vm).setTop { g with pc := g.pc + len₂, stack := v.toList ++ g.stack })
    rw [← hs₂]
    exact hsteps
  · obtain ⟨e2, q2, q3, q4, q5, q6⟩ := id hsm
    have e3 : s₂ = ({ (U.calling g mk a).setFrames s₂.frames with heap := s₂.heap, slotsUsed := s₂.slotsUsed } : State).setVm s₂.vm := by
      have : s₂ = ({ s₂ with vm := (U.calling g mk a).vm } : State).setVm s₂.vm := rfl
      rw [e2] at this
      exact this
    have hf₂ : s₂.frames = .throwing q :: .java g :: U.frames.tail := hend
    have hW' : U.WarmedH s₂.vm := hW₂
    have hs₂ : s₂ = ((({ U with heap := s₂.heap, slotsUsed := s₂.slotsUsed } : State).setVm s₂.vm).setTop g).pushFrame (.throwing q) := by
      refine e3.trans ?_
      rw [hf₂, State.calling_eq h.top, State.setFrames_setFrames, State.pushFrame, State.frames_setTop _ hr', State.setTop_of_frames _ hr', State.setFrames_setFrames, hr]
      rfl
    have hsame : U.sameButNew ({ U with heap := s₂.heap, slotsUsed := s₂.slotsUsed } : State) L mc ms := by
      refine ⟨?_, q2, q3, q4, q5, q6⟩
      obtain ⟨t, ht, -⟩ := State.frames_cons hr
      show ({ U with heap := s₂.heap, slotsUsed := s₂.slotsUsed } : State) = { U.setFrames U.frames with heap := s₂.heap, slotsUsed := s₂.slotsUsed }
      rw [State.setFrames_self ht]
    subst hg
    refine Or.inr ⟨q, ⟨(({ U with heap := s₂.heap, slotsUsed := s₂.slotsUsed } : State).setVm s₂.vm), Ls ++ L, c0 + mc, s0 + ms⟩,
      ⟨X.admits, X.cas, X.clock, X.frames, X.room, X.hears, X.method, X.code, (X.here.setHeapUsed s₂.heap s₂.slotsUsed).setVm hW'.alike, X.tail, State.WarmedH.trans X.warmed hW', X.limits, X.bytes, X.same.trans (hsame.setVm s.vm)⟩,
      ⟨g, mk, s₂, L, E, ce, rfl, rfl, hx, hce, hcv, hcl, rfl, hL, rfl, rfl⟩, ?_⟩
    show Steps p.tables e below _ (((({ U with heap := s₂.heap, slotsUsed := s₂.slotsUsed } : State).setVm s₂.vm).setTop g).pushFrame (.throwing q))
    rw [← hs₂]
    exact hsteps
end Payer
section Calls
variable {p : Program} {l : Launch} {e : Env} {R : Room} {s : State} {m : MethodId} {args : Array Value} {below : List Frame} {meth : Method} {c : Code} {T : State} {locs : List Loc} {cells slots : Nat}
theorem vx_callV (X : Stand p l e R s m args below meth c T locs cells slots) (hexec : p.tables.exec = Jvm.exec) {own C : String} {index : Nat} {y : MethodName} {bytes : ByteArray} {maxL : Nat} {ret : Option FieldType}
    (hown : s.vm.findClass own = some m.cls) (hlink : (Cond.methodLink own index y).before args s = true) (hinst : (Cond.instanceMethod y).before args s = true) (hsel : (Cond.selects C y y).before args s = true)
    (hcode : (Cond.code y bytes maxL ret).before args s = true) (hy : y.cls ≠ "java/lang/invoke/MethodHandle" ∧ y.cls ≠ "java/lang/invoke/VarHandle")
    {W9 : Nat} {Pre : Pt → Array Value → Prop} {Post : Pt → Array Value → Option Value → Pt → Prop} {PostX : Pt → Array Value → Addr → Pt → Prop} (hK : vx_Back l R p e below s args y 3 W9 Pre Post PostX)
    {b : Addr} {cellB : Cell} (hcell : T.heap[b]? = some cellB) (hobj : cellB.vm.isStatics = false) (hcls : s.vm.findClass C = some cellB.cls)
    {g : JFrame} (hg : g.method = m) (hsize : g.locals.size = c.maxLocals) {argsL rest : List Value} (hlen : ∀ sig, parseMethodDescriptor y.desc = some sig → argsL.length = sig.parameters.length)
    (hstack : g.stack = argsL.reverse ++ .ref b :: rest) (hW : 2 * g.monitorRoom + (rest.map fun v => v.category).sum ≤ W9) (hdg : decode c.code g.pc = .ok (.invokevirtual index, 3))
    (hpre : ∀ vm₁, s.WarmedH vm₁ → Pre ⟨T.setVm vm₁, locs, cells, slots⟩ (Value.ref b :: argsL).toArray) :
    (∃ (v : Option Value) (vm₁ : Vm) (B : Pt), s.WarmedH vm₁ ∧ Stand p l e R s m args below meth c B.U B.locs B.cells B.slots ∧ Post ⟨T.setVm vm₁, locs, cells, slots⟩ (Value.ref b :: argsL).toArray v B ∧
      ∀ target, Steps p.tables e below (B.U.setTop { g with pc := g.pc + 3, stack := v.toList ++ rest }) target → Steps p.tables e below (T.setTop g) target) ∨
    (∃ (q : Addr) (vm₁ : Vm) (B : Pt), s.WarmedH vm₁ ∧ Stand p l e R s m args below meth c B.U B.locs B.cells B.slots ∧ PostX ⟨T.setVm vm₁, locs, cells, slots⟩ (Value.ref b :: argsL).toArray q B ∧
      Steps p.tables e below (T.setTop g) ((B.U.setTop { g with stack := rest }).pushFrame (.throwing q))) := by
  obtain ⟨mk, methM, hnamed, hmethM, hstM, habM⟩ := Cond.instanceMethod_spec hinst
  obtain ⟨methM', cM, hmethM', -, -, -, -, -, -, hsigM⟩ := Cond.code_spec hnamed hcode
  cases hmethM.symm.trans hmethM'
  obtain ⟨c2, r2, m2, q1, q2, q3, q4, kP, hkP, hkPi⟩ := Cond.selects_spec hsel
  cases hcls.symm.trans q1
  cases (State.methodFound?_of_named hnamed hy).symm.trans q2
  cases hnamed.symm.trans q3
  have hselP : selectMethod e.platform s.vm cellB.cls mk = .method mk := by rw [Launch.admits_selectMethod X.admits]; exact q4
  obtain ⟨vm₁, X₁, hstep₁⟩ := X.invokevirtual hexec hown hlink hnamed hmethM hstM hkP hkPi hy (a := b) (cell := cellB) hcell
    (fun z h => by rw [h] at hobj; cases hobj) hselP hmethM habM hkP hkPi (g := g) hg (argsL := argsL) (rest := rest) (hlen _ hsigM) hstack hdg
  rcases hK m meth c ⟨T.setVm vm₁, locs, cells, slots⟩ { g with stack := rest } (.invokevirtual index) mk (Value.ref b :: argsL).toArray X₁ hg hsize hdg hW (X₁.named hnamed) (hpre vm₁ X₁.warmed) with ⟨v, B, X', hpost, hsteps⟩ | ⟨q, B, X', hpost, hsteps⟩
  · exact Or.inl ⟨v, vm₁, B, X₁.warmed, X', hpost, fun target h => hstep₁ _ fun acts => by rw [doInvoke_state]; exact hsteps.trans h⟩
  · exact Or.inr ⟨q, vm₁, B, X₁.warmed, X', hpost, hstep₁ _ fun acts => by rw [doInvoke_state]; exact hsteps⟩
theorem vx_callS (X : Stand p l e R s m args below meth c T locs cells slots) (hexec : p.tables.exec = Jvm.exec) {own : String} {index : Nat} {y : MethodName} {bytes : ByteArray} {maxL : Nat} {ret : Option FieldType}
    (hown : s.vm.findClass own = some m.cls) (hlink : (Cond.methodLink own index y).before args s = true) (hstat : (Cond.static y).before args s = true) (hinit : (Cond.initialized y.cls).before args s = true)
    (hcode : (Cond.code y bytes maxL ret).before args s = true) (hy : y.cls ≠ "java/lang/invoke/MethodHandle" ∧ y.cls ≠ "java/lang/invoke/VarHandle")
    {W9 : Nat} {Pre : Pt → Array Value → Prop} {Post : Pt → Array Value → Option Value → Pt → Prop} {PostX : Pt → Array Value → Addr → Pt → Prop} (hK : vx_Back l R p e below s args y 3 W9 Pre Post PostX)
    {g : JFrame} (hg : g.method = m) (hsize : g.locals.size = c.maxLocals) {argsL rest : List Value} (hlen : ∀ sig, parseMethodDescriptor y.desc = some sig → argsL.length = sig.parameters.length)
    (hstack : g.stack = argsL.reverse ++ rest) (hW : 2 * g.monitorRoom + (rest.map fun v => v.category).sum ≤ W9) (hdg : decode c.code g.pc = .ok (.invokestatic index, 3))
    (hpre : ∀ vm₁, s.WarmedH vm₁ → Pre ⟨T.setVm vm₁, locs, cells, slots⟩ argsL.toArray) :
    (∃ (v : Option Value) (vm₁ : Vm) (B : Pt), s.WarmedH vm₁ ∧ Stand p l e R s m args below meth c B.U B.locs B.cells B.slots ∧ Post ⟨T.setVm vm₁, locs, cells, slots⟩ argsL.toArray v B ∧
      ∀ target, Steps p.tables e below (B.U.setTop { g with pc := g.pc + 3, stack := v.toList ++ rest }) target → Steps p.tables e below (T.setTop g) target) ∨
    (∃ (q : Addr) (vm₁ : Vm) (B : Pt), s.WarmedH vm₁ ∧ Stand p l e R s m args below meth c B.U B.locs B.cells B.slots ∧ PostX ⟨T.setVm vm₁, locs, cells, slots⟩ argsL.toArray q B ∧
      Steps p.tables e below (T.setTop g) ((B.U.setTop { g with stack := rest }).pushFrame (.throwing q))) := by
  obtain ⟨mk, hnamed⟩ := Cond.code_named hcode
  obtain ⟨methM, cM, hmethM, -, -, -, -, -, -, hsigM⟩ := Cond.code_spec hnamed hcode
  have hstatic : methM.isStatic = true := Cond.static_spec hnamed hmethM hstat
  obtain ⟨kP, hkP, -⟩ := className_of_methodNamed hnamed
  have hinitP : kP.init = .initialized := Cond.initialized_spec (findClass_of_methodNamed hnamed) hkP hinit
  obtain ⟨vm₁, X₁, hstep₁⟩ := X.invokestatic hexec hown hlink hnamed hmethM hstatic hkP hinitP hy (g := g) hg (argsL := argsL) (rest := rest) (hlen _ hsigM) hstack hdg
  rcases hK m meth c ⟨T.setVm vm₁, locs, cells, slots⟩ { g with stack := rest } (.invokestatic index) mk argsL.toArray X₁ hg hsize hdg hW (X₁.named hnamed) (hpre vm₁ X₁.warmed) with ⟨v, B, X', hpost, hsteps⟩ | ⟨q, B, X', hpost, hsteps⟩
  · exact Or.inl ⟨v, vm₁, B, X₁.warmed, X', hpost, fun target h => hstep₁ _ fun acts => by rw [doInvoke_state]; exact hsteps.trans h⟩
  · exact Or.inr ⟨q, vm₁, B, X₁.warmed, X', hpost, hstep₁ _ fun acts => by rw [doInvoke_state]; exact hsteps⟩
end Calls
theorem vx_cls {s : State} {T : State} {vm₁ : Vm} {E : String} {k : ClassId} (hW : s.WarmedH vm₁) (h : (T.setVm vm₁).vm.findClass E = some k) : s.vm.findClass E = some k := by
  have h1 : vm₁.findClass E = some k := h
  rw [hW.alike.findClass] at h1
  exact h1
/-- the method's frame g, with q thrown over it -/
def vx_W (p : Program) (l : Launch) (e : Env) (R : Room) (s : State) (m : MethodId) (args : Array Value) (below : List Frame) (meth : Method) (c : Code) (H : Heap) (locs : List Loc) (cells slots : Nat) (Q : State → Prop) (g : JFrame) (q : Addr) : Prop :=
  ∀ T : State, T.heap = H → Stand p l e R s m args below meth c T locs cells slots → ∃ t, Steps p.tables e below ((T.setTop g).pushFrame (.throwing q)) t ∧ Q t
def vx_Run (p : Program) (l : Launch) (e : Env) (R : Room) (s : State) (m : MethodId) (args : Array Value) (below : List Frame) (meth : Method) (c : Code) (H : Heap) (locs : List Loc) (cells slots mc ms : Nat) (g : JFrame) (rest : List Value) (Qa : State → Outcome → State → Prop) (XC : String → State → State → Prop) (free : Addr → Prop) : Prop :=
  ∀ T : State, T.heap = H → Stand p l e R s m args below meth c T locs cells slots →
    (∃ (v : Option Value) (st₀ t T' : State) (L : List Loc), st₀.heap = H ∧ Stand p l e R s m args below meth c T' (locs ++ L) (cells + mc) (slots + ms) ∧ (∀ q ∈ L, free q.base) ∧ T'.heap = t.heap ∧ T'.vm = t.vm ∧ Qa st₀ (.returned v) t ∧
      Goes p e below T g T' { g with pc := g.pc + 3, stack := v.toList ++ rest }) ∨
    (∃ (q : Addr) (st₀ t T' : State) (L : List Loc) (E : String) (ce : Cell), st₀.heap = H ∧ Stand p l e R s m args below meth c T' (locs ++ L) (cells + mc) (slots + ms) ∧ (∀ z ∈ L, free z.base) ∧ T'.heap = t.heap ∧ T'.vm = t.vm ∧ XC E st₀ t ∧ t.heap[q]? = some ce ∧ ce.vm = .none ∧ s.vm.findClass E = some ce.cls ∧
      Steps p.tables e below (T.setTop g) ((T'.setTop { g with stack := rest }).pushFrame (.throwing q)))
def vx_X {S : Type} (px : S → Prop) (B : String → S → State → Prop) (A : Nat → Prop) : String → State → State → Prop := fun E st t => ∃ u : S, px u ∧ B E u t ∧ va_F A st t
section Runs
variable {p : Program} {l : Launch} {e : Env} {R : Room} {s : State} {m : MethodId} {args : Array Value} {below : List Frame} {meth : Method} {c : Code} {H : Heap} {locs : List Loc} {cells slots : Nat}
variable {y : MethodName} {bytes cc : ByteArray} {maxL nL mc ms n index : Nat} {ret : Option FieldType} {ws : List Cond} {rm : Room} {Pc : Array Value → State → Prop} {Qc : Array Value → State → Outcome → State → Prop} {XC : String → State → State → Prop} {free : Addr → Prop} {Ts : List Cond} {own C : String} {b : Addr} {As rest : List Value} {g : JFrame}
theorem vx_callBack (cb : CallB R s args own index y bytes maxL ret ws rm mc ms n) (hM : vx_Met l y ws rm Pc Qc XC mc ms free) (hbl : FrameBlind Pc) : vx_Back l R p e below s args y 3 8 (PreOf R mc ms Pc) (PostOf Qc mc ms free) (vx_Post XC mc ms free) := by
  obtain ⟨hrc, hrs, hfr, hlo, hws, hcw, -, hini, -⟩ := cb
  exact vx_back (bytes := bytes) (maxL := maxL) (ret := ret) hM hbl hrc hrs hfr hlo hws hcw (fun a' U hW => word_at hW (Or.inl (by first | rfl | simp [Cond.onTables, Cond.keeps, Cond.steady])) hini)
theorem vx_runV (S : CallFix p m c cc nL s args Ts own) (hM : vx_Met l y ws rm Pc Qc XC mc ms free) (cw : CallW R s args own C index y bytes maxL ret ws rm mc ms n) (hp : PreV s H C b Pc As)
    (hg : g.method = m) (hn : As.length = n) (hsize : g.locals.size = nL) (hstack : g.stack = As.reverse ++ .ref b :: rest) (hW : 2 * g.monitorRoom + (rest.map fun v => v.category).sum ≤ 8) (hdg : decode cc g.pc = .ok (.invokevirtual index, 3)) (hf : cells + mc ≤ R.cells ∧ slots + ms ≤ R.slots) :
    vx_Run p l e R s m args below meth c H locs cells slots mc ms g rest (Qc (Value.ref b :: As).toArray) XC free := by
  have hK : vx_Back l R p e below s args y 3 8 (PreOf R mc ms Pc) (PostOf Qc mc ms free) (vx_Post XC mc ms free) := vx_callBack cw.1 hM hp.1
  obtain ⟨⟨-, -, -, -, -, -, hcode, -, hy, hlen, hl⟩, hin, hse⟩ := cw
  obtain ⟨hx, hb, hml, ho, -⟩ := S
  obtain ⟨-, ⟨cellB, hcB, hoB, hclB⟩, hPc⟩ := hp
  intro T hT X
  rcases vx_callV X hx (C := C) (bytes := bytes) (maxL := maxL) (ret := ret) ho hl hin hse hcode hy hK (by rw [hT]; exact hcB) hoB hclB hg (hsize.trans hml.symm) (argsL := As) (rest := rest) (fun sig h => hn.trans (hlen sig h)) hstack hW (by rw [hb]; exact hdg)
    (fun vm₁ hW₁ => ⟨hf.1, hf.2, hPc (T.setVm vm₁) hT hW₁⟩) with ⟨v, vm₁, ⟨U', l2, c2, s2⟩, hW₁, X', ⟨g', mk, t, L, e1, e2, hq, h1, hL, h2, h3⟩, st⟩ | ⟨q, vm₁, ⟨U', l2, c2, s2⟩, hW₁, X', ⟨g', mk, t, L, E, ce, e1, e2, hq, hce, hcv, hcl, h1, hL, h2, h3⟩, st⟩
  · dsimp only [Pt.U, Pt.locs, Pt.cells, Pt.slots] at X' e1 e2 h1 h2 h3 st
    subst h1; subst h2; subst h3
    exact Or.inl ⟨v, (T.setVm vm₁).calling g' mk (Value.ref b :: As).toArray, t, U', L, hT, X', hL, e1, e2, hq, st⟩
  · dsimp only [Pt.U, Pt.locs, Pt.cells, Pt.slots] at X' e1 e2 h1 h2 h3 st hcl
    subst h1; subst h2; subst h3
    exact Or.inr ⟨q, (T.setVm vm₁).calling g' mk (Value.ref b :: As).toArray, t, U', L, E, ce, hT, X', hL, e1, e2, hq, hce, hcv, vx_cls hW₁ hcl, st⟩
theorem vx_runS (S : CallFix p m c cc nL s args Ts own) (hM : vx_Met l y ws rm Pc Qc XC mc ms free) (cw : CallB R s args own index y bytes maxL ret ws rm mc ms n ∧ (Cond.static y).before args s = true) (hp : PreS s H Pc As)
    (hg : g.method = m) (hn : As.length = n) (hsize : g.locals.size = nL) (hstack : g.stack = As.reverse ++ rest) (hW : 2 * g.monitorRoom + (rest.map fun v => v.category).sum ≤ 8) (hdg : decode cc g.pc = .ok (.invokestatic index, 3)) (hf : cells + mc ≤ R.cells ∧ slots + ms ≤ R.slots) :
    vx_Run p l e R s m args below meth c H locs cells slots mc ms g rest (Qc As.toArray) XC free := by
  have hK : vx_Back l R p e below s args y 3 8 (PreOf R mc ms Pc) (PostOf Qc mc ms free) (vx_Post XC mc ms free) := vx_callBack cw.1 hM hp.1
  obtain ⟨⟨-, -, -, -, -, -, hcode, hini, hy, hlen, hl⟩, hstt⟩ := cw
  obtain ⟨hx, hb, hml, ho, -⟩ := S
  intro T hT X
  rcases vx_callS X hx (bytes := bytes) (maxL := maxL) (ret := ret) ho hl hstt hini hcode hy hK hg (hsize.trans hml.symm) (argsL := As) (rest := rest) (fun sig h => hn.trans (hlen sig h)) hstack hW (by rw [hb]; exact hdg)
    (fun vm₁ hW₁ => ⟨hf.1, hf.2, hp.2 (T.setVm vm₁) hT hW₁⟩) with ⟨v, vm₁, ⟨U', l2, c2, s2⟩, hW₁, X', ⟨g', mk, t, L, e1, e2, hq, h1, hL, h2, h3⟩, st⟩ | ⟨q, vm₁, ⟨U', l2, c2, s2⟩, hW₁, X', ⟨g', mk, t, L, E, ce, e1, e2, hq, hce, hcv, hcl, h1, hL, h2, h3⟩, st⟩
  · dsimp only [Pt.U, Pt.locs, Pt.cells, Pt.slots] at X' e1 e2 h1 h2 h3 st
    subst h1; subst h2; subst h3
    exact Or.inl ⟨v, (T.setVm vm₁).calling g' mk As.toArray, t, U', L, hT, X', hL, e1, e2, hq, st⟩
  · dsimp only [Pt.U, Pt.locs, Pt.cells, Pt.slots] at X' e1 e2 h1 h2 h3 st hcl
    subst h1; subst h2; subst h3
    exact Or.inr ⟨q, (T.setVm vm₁).calling g' mk As.toArray, t, U', L, E, ce, hT, X', hL, e1, e2, hq, hce, hcv, vx_cls hW₁ hcl, st⟩
end Runs
section Rows
variable {p : Program} {l : Launch} {e : Env} {R : Room} {s : State} {m : MethodId} {args : Array Value} {below : List Frame} {meth : Method} {c : Code} {H : Heap} {locs : List Loc} {cells slots : Nat} {Q : State → Prop}
variable {mc ms : Nat} {free : Addr → Prop} {A0 A1 : Nat → Prop} {H0 : Heap} {a : Array Value} {pc : Nat} {ls : Array Slot} {st0 rest : List Value}
theorem vx_keep {st₀ t T' : State} {L : List Loc} (h0 : st₀.heap = H) (e1 : T'.heap = t.heap) (hS : va_S A0 H0 H locs) (hA : ∀ q, q < H.size → A1 q → A0 q) (hf : ∀ q, free q → A0 q) (hL : ∀ q ∈ L, free q.base) (hF : va_F A1 st₀ t) :
    H.size ≤ T'.heap.size ∧ (∀ q : Nat, q < H.size → ¬ A1 q → T'.heap[q]? = H[q]?) ∧ va_S A0 H0 T'.heap (locs ++ L) := by
  obtain ⟨hz, hk⟩ := hF
  rw [h0] at hz hk
  exact ⟨by rw [e1]; exact hz, fun q h1 h2 => by rw [e1]; exact hk q h1 h2,
    ⟨Nat.le_trans hS.1 (by rw [e1]; exact hz), fun q h1 h2 => by rw [e1, hk q (Nat.lt_of_lt_of_le h1 hS.1) (fun z => h2 (hA q (Nat.lt_of_lt_of_le h1 hS.1) z))]; exact hS.2.1 q h1 h2, fun q hq => by
      rcases List.mem_append.mp hq with h | h
      · exact hS.2.2 q h
      · exact hf _ (hL q h)⟩⟩
theorem vx_calli {S SX : Type} {post : Int32 → S → Prop} {px : SX → Prop} {B : S → State → Prop} {BX : String → SX → State → Prop} {AX : Nat → Prop} (hr : vx_Run p l e R s m args below meth c H locs cells slots mc ms (F0 m pc ls st0) rest (va_Qi post B A1 a) (vx_X px BX AX) free) (hS : va_S A0 H0 H locs) (hA : ∀ q, q < H.size → A1 q → A0 q) (hf : ∀ q, free q → A0 q) (hAX : ∀ q, q < H.size → AX q → A0 q)
    (kx : ∀ (E : String) (ce : Cell) (q9 : Addr) (u : SX) (t : State) (H1 : Heap) (locs1 : List Loc), t.heap = H1 → s.vm.Alike t.vm → px u → BX E u t → H.size ≤ H1.size → (∀ q : Nat, q < H.size → ¬ AX q → H1[q]? = H[q]?) → va_S A0 H0 H1 locs1 → H1[q9]? = some ce → ce.vm = .none → s.vm.findClass E = some ce.cls → vx_W p l e R s m args below meth c H1 locs1 (cells + mc) (slots + ms) Q (F0 m pc ls rest) q9)
    (kk : ∀ (r : Int32) (u : S) (t : State) (H1 : Heap) (locs1 : List Loc), t.heap = H1 → s.vm.Alike t.vm → post r u → B u t → H.size ≤ H1.size → (∀ q : Nat, q < H.size → ¬ A1 q → H1[q]? = H[q]?) → va_S A0 H0 H1 locs1 → W p l e R s m args below meth c H1 locs1 (cells + mc) (slots + ms) Q (F0 m (pc + 3) ls (.int r :: rest))) : W p l e R s m args below meth c H locs cells slots Q (F0 m pc ls st0) := by
  intro T hT X
  rcases hr T hT X with ⟨v, st₀, t, T', L, h0, X', hL, e1, e2, ⟨⟨r, u, hv, hp, hb⟩, hF⟩, st⟩ | ⟨q, st₀, t, T', L, E, ce, h0, X', hL, e1, e2, ⟨u, hp, hb, hF⟩, hce, hcv, hcl, st⟩
  · cases hv
    obtain ⟨k1, k2, k3⟩ := vx_keep h0 e1 hS hA hf hL hF
    obtain ⟨t2, a1, b1⟩ := kk r u t T'.heap (locs ++ L) e1.symm (by rw [← e2]; exact X'.warmed.alike) hp hb k1 k2 k3 T' rfl X'
    exact ⟨t2, st t2 a1, b1⟩
  · obtain ⟨k1, k2, k3⟩ := vx_keep h0 e1 hS hAX hf hL hF
    obtain ⟨t2, a1, b1⟩ := kx E ce q u t T'.heap (locs ++ L) e1.symm (by rw [← e2]; exact X'.warmed.alike) hp hb k1 k2 k3 (by rw [e1]; exact hce) hcv hcl T' rfl X'
    exact ⟨t2, st.trans a1, b1⟩
theorem vx_calll {S SX : Type} {post : Int64 → S → Prop} {px : SX → Prop} {B : S → State → Prop} {BX : String → SX → State → Prop} {AX : Nat → Prop} (hr : vx_Run p l e R s m args below meth c H locs cells slots mc ms (F0 m pc ls st0) rest (va_Ql post B A1 a) (vx_X px BX AX) free) (hS : va_S A0 H0 H locs) (hA : ∀ q, q < H.size → A1 q → A0 q) (hf : ∀ q, free q → A0 q) (hAX : ∀ q, q < H.size → AX q → A0 q)
    (kx : ∀ (E : String) (ce : Cell) (q9 : Addr) (u : SX) (t : State) (H1 : Heap) (locs1 : List Loc), t.heap = H1 → s.vm.Alike t.vm → px u → BX E u t → H.size ≤ H1.size → (∀ q : Nat, q < H.size → ¬ AX q → H1[q]? = H[q]?) → va_S A0 H0 H1 locs1 → H1[q9]? = some ce → ce.vm = .none → s.vm.findClass E = some ce.cls → vx_W p l e R s m args below meth c H1 locs1 (cells + mc) (slots + ms) Q (F0 m pc ls rest) q9)
    (kk : ∀ (r : Int64) (u : S) (t : State) (H1 : Heap) (locs1 : List Loc), t.heap = H1 → s.vm.Alike t.vm → post r u → B u t → H.size ≤ H1.size → (∀ q : Nat, q < H.size → ¬ A1 q → H1[q]? = H[q]?) → va_S A0 H0 H1 locs1 → W p l e R s m args below meth c H1 locs1 (cells + mc) (slots + ms) Q (F0 m (pc + 3) ls (.long r :: rest))) : W p l e R s m args below meth c H locs cells slots Q (F0 m pc ls st0) := by
  intro T hT X
  rcases hr T hT X with ⟨v, st₀, t, T', L, h0, X', hL, e1, e2, ⟨⟨r, u, hv, hp, hb⟩, hF⟩, st⟩ | ⟨q, st₀, t, T', L, E, ce, h0, X', hL, e1, e2, ⟨u, hp, hb, hF⟩, hce, hcv, hcl, st⟩
  · cases hv
    obtain ⟨k1, k2, k3⟩ := vx_keep h0 e1 hS hA hf hL hF
    obtain ⟨t2, a1, b1⟩ := kk r u t T'.heap (locs ++ L) e1.symm (by rw [← e2]; exact X'.warmed.alike) hp hb k1 k2 k3 T' rfl X'
    exact ⟨t2, st t2 a1, b1⟩
  · obtain ⟨k1, k2, k3⟩ := vx_keep h0 e1 hS hAX hf hL hF
    obtain ⟨t2, a1, b1⟩ := kx E ce q u t T'.heap (locs ++ L) e1.symm (by rw [← e2]; exact X'.warmed.alike) hp hb k1 k2 k3 (by rw [e1]; exact hce) hcv hcl T' rfl X'
    exact ⟨t2, st.trans a1, b1⟩
theorem vx_callf {S SX : Type} {post : UInt32 → S → Prop} {px : SX → Prop} {B : S → State → Prop} {BX : String → SX → State → Prop} {AX : Nat → Prop} (hr : vx_Run p l e R s m args below meth c H locs cells slots mc ms (F0 m pc ls st0) rest (va_Qf post B A1 a) (vx_X px BX AX) free) (hS : va_S A0 H0 H locs) (hA : ∀ q, q < H.size → A1 q → A0 q) (hf : ∀ q, free q → A0 q) (hAX : ∀ q, q < H.size → AX q → A0 q)
    (kx : ∀ (E : String) (ce : Cell) (q9 : Addr) (u : SX) (t : State) (H1 : Heap) (locs1 : List Loc), t.heap = H1 → s.vm.Alike t.vm → px u → BX E u t → H.size ≤ H1.size → (∀ q : Nat, q < H.size → ¬ AX q → H1[q]? = H[q]?) → va_S A0 H0 H1 locs1 → H1[q9]? = some ce → ce.vm = .none → s.vm.findClass E = some ce.cls → vx_W p l e R s m args below meth c H1 locs1 (cells + mc) (slots + ms) Q (F0 m pc ls rest) q9)
    (kk : ∀ (r : UInt32) (u : S) (t : State) (H1 : Heap) (locs1 : List Loc), t.heap = H1 → s.vm.Alike t.vm → post r u → B u t → H.size ≤ H1.size → (∀ q : Nat, q < H.size → ¬ A1 q → H1[q]? = H[q]?) → va_S A0 H0 H1 locs1 → W p l e R s m args below meth c H1 locs1 (cells + mc) (slots + ms) Q (F0 m (pc + 3) ls (.float r :: rest))) : W p l e R s m args below meth c H locs cells slots Q (F0 m pc ls st0) := by
  intro T hT X
  rcases hr T hT X with ⟨v, st₀, t, T', L, h0, X', hL, e1, e2, ⟨⟨r, u, hv, hp, hb⟩, hF⟩, st⟩ | ⟨q, st₀, t, T', L, E, ce, h0, X', hL, e1, e2, ⟨u, hp, hb, hF⟩, hce, hcv, hcl, st⟩
  · cases hv
    obtain ⟨k1, k2, k3⟩ := vx_keep h0 e1 hS hA hf hL hF
    obtain ⟨t2, a1, b1⟩ := kk r u t T'.heap (locs ++ L) e1.symm (by rw [← e2]; exact X'.warmed.alike) hp hb k1 k2 k3 T' rfl X'
    exact ⟨t2, st t2 a1, b1⟩
  · obtain ⟨k1, k2, k3⟩ := vx_keep h0 e1 hS hAX hf hL hF
    obtain ⟨t2, a1, b1⟩ := kx E ce q u t T'.heap (locs ++ L) e1.symm (by rw [← e2]; exact X'.warmed.alike) hp hb k1 k2 k3 (by rw [e1]; exact hce) hcv hcl T' rfl X'
    exact ⟨t2, st.trans a1, b1⟩
theorem vx_calld {S SX : Type} {post : UInt64 → S → Prop} {px : SX → Prop} {B : S → State → Prop} {BX : String → SX → State → Prop} {AX : Nat → Prop} (hr : vx_Run p l e R s m args below meth c H locs cells slots mc ms (F0 m pc ls st0) rest (va_Qd post B A1 a) (vx_X px BX AX) free) (hS : va_S A0 H0 H locs) (hA : ∀ q, q < H.size → A1 q → A0 q) (hf : ∀ q, free q → A0 q) (hAX : ∀ q, q < H.size → AX q → A0 q)
    (kx : ∀ (E : String) (ce : Cell) (q9 : Addr) (u : SX) (t : State) (H1 : Heap) (locs1 : List Loc), t.heap = H1 → s.vm.Alike t.vm → px u → BX E u t → H.size ≤ H1.size → (∀ q : Nat, q < H.size → ¬ AX q → H1[q]? = H[q]?) → va_S A0 H0 H1 locs1 → H1[q9]? = some ce → ce.vm = .none → s.vm.findClass E = some ce.cls → vx_W p l e R s m args below meth c H1 locs1 (cells + mc) (slots + ms) Q (F0 m pc ls rest) q9)
    (kk : ∀ (r : UInt64) (u : S) (t : State) (H1 : Heap) (locs1 : List Loc), t.heap = H1 → s.vm.Alike t.vm → post r u → B u t → H.size ≤ H1.size → (∀ q : Nat, q < H.size → ¬ A1 q → H1[q]? = H[q]?) → va_S A0 H0 H1 locs1 → W p l e R s m args below meth c H1 locs1 (cells + mc) (slots + ms) Q (F0 m (pc + 3) ls (.double r :: rest))) : W p l e R s m args below meth c H locs cells slots Q (F0 m pc ls st0) := by
  intro T hT X
  rcases hr T hT X with ⟨v, st₀, t, T', L, h0, X', hL, e1, e2, ⟨⟨r, u, hv, hp, hb⟩, hF⟩, st⟩ | ⟨q, st₀, t, T', L, E, ce, h0, X', hL, e1, e2, ⟨u, hp, hb, hF⟩, hce, hcv, hcl, st⟩
  · cases hv
    obtain ⟨k1, k2, k3⟩ := vx_keep h0 e1 hS hA hf hL hF
    obtain ⟨t2, a1, b1⟩ := kk r u t T'.heap (locs ++ L) e1.symm (by rw [← e2]; exact X'.warmed.alike) hp hb k1 k2 k3 T' rfl X'
    exact ⟨t2, st t2 a1, b1⟩
  · obtain ⟨k1, k2, k3⟩ := vx_keep h0 e1 hS hAX hf hL hF
    obtain ⟨t2, a1, b1⟩ := kx E ce q u t T'.heap (locs ++ L) e1.symm (by rw [← e2]; exact X'.warmed.alike) hp hb k1 k2 k3 (by rw [e1]; exact hce) hcv hcl T' rfl X'
    exact ⟨t2, st.trans a1, b1⟩
theorem vx_callv {S SX : Type} {post : S → Prop} {px : SX → Prop} {B : S → State → Prop} {BX : String → SX → State → Prop} {AX : Nat → Prop} (hr : vx_Run p l e R s m args below meth c H locs cells slots mc ms (F0 m pc ls st0) rest (va_Qv post B A1 a) (vx_X px BX AX) free) (hS : va_S A0 H0 H locs) (hA : ∀ q, q < H.size → A1 q → A0 q) (hf : ∀ q, free q → A0 q) (hAX : ∀ q, q < H.size → AX q → A0 q)
    (kx : ∀ (E : String) (ce : Cell) (q9 : Addr) (u : SX) (t : State) (H1 : Heap) (locs1 : List Loc), t.heap = H1 → s.vm.Alike t.vm → px u → BX E u t → H.size ≤ H1.size → (∀ q : Nat, q < H.size → ¬ AX q → H1[q]? = H[q]?) → va_S A0 H0 H1 locs1 → H1[q9]? = some ce → ce.vm = .none → s.vm.findClass E = some ce.cls → vx_W p l e R s m args below meth c H1 locs1 (cells + mc) (slots + ms) Q (F0 m pc ls rest) q9)
    (kk : ∀ (u : S) (t : State) (H1 : Heap) (locs1 : List Loc), t.heap = H1 → s.vm.Alike t.vm → post u → B u t → H.size ≤ H1.size → (∀ q : Nat, q < H.size → ¬ A1 q → H1[q]? = H[q]?) → va_S A0 H0 H1 locs1 → W p l e R s m args below meth c H1 locs1 (cells + mc) (slots + ms) Q (F0 m (pc + 3) ls (rest))) : W p l e R s m args below meth c H locs cells slots Q (F0 m pc ls st0) := by
  intro T hT X
  rcases hr T hT X with ⟨v, st₀, t, T', L, h0, X', hL, e1, e2, ⟨⟨u, hv, hp, hb⟩, hF⟩, st⟩ | ⟨q, st₀, t, T', L, E, ce, h0, X', hL, e1, e2, ⟨u, hp, hb, hF⟩, hce, hcv, hcl, st⟩
  · cases hv
    obtain ⟨k1, k2, k3⟩ := vx_keep h0 e1 hS hA hf hL hF
    obtain ⟨t2, a1, b1⟩ := kk u t T'.heap (locs ++ L) e1.symm (by rw [← e2]; exact X'.warmed.alike) hp hb k1 k2 k3 T' rfl X'
    exact ⟨t2, st t2 a1, b1⟩
  · obtain ⟨k1, k2, k3⟩ := vx_keep h0 e1 hS hAX hf hL hF
    obtain ⟨t2, a1, b1⟩ := kx E ce q u t T'.heap (locs ++ L) e1.symm (by rw [← e2]; exact X'.warmed.alike) hp hb k1 k2 k3 (by rw [e1]; exact hce) hcv hcl T' rfl X'
    exact ⟨t2, st.trans a1, b1⟩
/-- caught by the row x of this method's table; the rows ahead don't take it -/
theorem vx_catch {own name : String} {E : String} {ce : Cell} {q : Addr} (hown : s.vm.findClass own = some m.cls) (pre : List ExceptionTableEntry) (x : ExceptionTableEntry) (suf : List ExceptionTableEntry) (hsplit : c.exceptionTable.toList = pre ++ x :: suf)
    (hpass : ∀ z ∈ pre, covers z pc = false ∨ (z.catchType ≠ 0 ∧ ∃ nm : String, (Cond.classLink own z.catchType nm).before args s = true ∧ va_Nc E nm s)) (hx : covers x pc = true) (h0 : x.catchType ≠ 0)
    (hlink : (Cond.classLink own x.catchType name).before args s = true) (hcast : (Cond.castable E name).before args s = true) (hcell : H[q]? = some ce) (hv : ce.vm = .none) (hcl : s.vm.findClass E = some ce.cls)
    (kk : W p l e R s m args below meth c H locs cells slots Q (F0 m x.handlerPc ls [.ref q])) : vx_W p l e R s m args below meth c H locs cells slots Q (F0 m pc ls rest) q := by
  intro T hT X
  have hpl : e.platform.magicAccessors = ({} : Platform).magicAccessors := by rw [X.admits.platform]
  obtain ⟨c3, c4, hc3, hc4, hasg⟩ := Cond.castable_spec hcast
  cases Option.some.inj (hc3.symm.trans hcl)
  obtain ⟨c5, hc5, hcl5⟩ := Cond.classLink_spec hown hlink e.platform hpl
  cases Option.some.inj (hc4.symm.trans hc5)
  obtain ⟨vm', X', st⟩ := X.thenCaughtThrough q (g := F0 m pc ls rest) rfl (Steps.refl _) (by rw [hT]; exact hcell) (by rw [hv]; rfl) (by obtain ⟨k9, h9, -⟩ := Vm.findClass_spec hcl; exact ⟨k9, h9⟩) pre x suf hsplit
    (fun z hz => by
      rcases hpass z hz with h | ⟨hz0, nm, hl1, hn1⟩
      · exact Or.inl h
      · obtain ⟨c6, hc6, hcl6⟩ := Cond.classLink_spec hown hl1 e.platform hpl
        obtain ⟨a8, b8, h1, h2, h3⟩ := hn1
        cases Option.some.inj (h1.symm.trans hcl)
        cases Option.some.inj (h2.symm.trans hc6)
        exact Or.inr ⟨hz0, _, hcl6, h3⟩) hx (Or.inr ⟨h0, c4, hcl5, hasg⟩)
  obtain ⟨t, a1, b1⟩ := kk (T.setVm vm') hT X'
  exact ⟨t, st.trans a1, b1⟩
end Rows
section Ends
variable {p : Program} {l : Launch} {e : Env} {R : Room} {s : State} {m : MethodId} {args : Array Value} {below : List Frame} {meth : Method} {c : Code} {H : Heap} {locs : List Loc} {cells slots : Nat} {Q : State → Prop}
variable {mc ms : Nat} {free : Addr → Prop} {A0 A1 : Nat → Prop} {H0 : Heap} {a : Array Value} {ls : Array Slot} {st0 rest : List Value}
variable {Qc : Array Value → State → Outcome → State → Prop} {XC : String → State → State → Prop}
/-- what a body that may throw owes at its end -/
def vx_MQ (below : List Frame) (Qc : Array Value → State → Outcome → State → Prop) (XC : String → State → State → Prop) (a : Array Value) (s : State) (mc ms : Nat) (free : Addr → Prop) : State → Prop := fun t =>
  ∃ o, t.status = .running ∧ Ended t below o ∧ vx_Q Qc XC mc ms free a s o t
theorem vx_ret {g : JFrame} {mc ms : Nat} (k : W p l e R s m args below meth c H locs cells slots (MQ below Qc args s mc ms free) g) : W p l e R s m args below meth c H locs cells slots (vx_MQ below Qc XC args s mc ms free) g := by
  intro T hT X
  obtain ⟨t, a1, o, b1, b2, b3, b4⟩ := k T hT X
  exact ⟨t, a1, o, b1, b2, Or.inl ⟨b3, b4⟩⟩
/-- not caught here: it goes on to the caller -/
theorem vx_widen {g : JFrame} {q : Addr} {k n : Nat} (h1 : cells ≤ k) (h2 : slots ≤ n) (kk : vx_W p l e R s m args below meth c H locs k n Q g q) : vx_W p l e R s m args below meth c H locs cells slots Q g q := fun T hT X => kk T hT (stand_widen X h1 h2)
theorem vx_out {pc : Nat} {E : String} {ce : Cell} {q : Addr} {mc ms : Nat} (hout : ∀ x ∈ c.exceptionTable.toList, covers x pc = false) (hlocks : meth.locks = false) (hcell : H[q]? = some ce) (hv : ce.vm = .none) (hcl : s.vm.findClass E = some ce.cls)
    (hx : ∀ t : State, t.heap = H → s.vm.Alike t.vm → XC E s t) (hf : ∀ z ∈ locs, free z.base) (hc : cells ≤ mc) (hs : slots ≤ ms) :
    vx_W p l e R s m args below meth c H locs cells slots (vx_MQ below Qc XC args s mc ms free) (F0 m pc ls rest) q := by
  intro T hT X
  obtain ⟨st1, hrun, hend, hW, hsm⟩ := X.leaveThrown q (g := F0 m pc ls rest) rfl rfl rfl hout hlocks
  have hcell9 : (T.setFrames (.throwing q :: below)).heap[q]? = some ce := by
    show T.heap[q]? = some ce
    rw [hT]; exact hcell
  exact ⟨_, st1, .threw q, hrun, hend, Or.inr ⟨q, rfl, E, ce, locs, hx _ hT hW.alike, hcell9, hv, hcl, hW, hsm.mono hc hs, hf⟩⟩
theorem vx_frame {U : State} {k n : Nat} (h : s.sameButNew ({ U with vm := s.vm } : State) locs k n) : s.heap.size ≤ U.heap.size ∧ ∀ q : Nat, q < s.heap.size → (∀ z ∈ locs, z.base ≠ q) → U.heap[q]? = s.heap[q]? := by
  obtain ⟨-, h2, -, -, -, h6⟩ := h
  refine ⟨h2, fun q hq hz => ?_⟩
  obtain ⟨c9, e1, e2, e3, e4⟩ := h6 q _ (Array.getElem?_eq_getElem hq)
  have hs : c9.slots = (s.heap[q]).slots := Array.ext_getElem? fun i => e4 i fun hm => hz _ hm rfl
  have h9 : c9 = s.heap[q] := by
    rw [hs] at e2
    exact e2
  have e5 : U.heap[q]? = some c9 := e1
  rw [e5, h9, Array.getElem?_eq_getElem hq]
/-- the words of a throw but the four that speak of the heap -/
def vx_no (w : Cond) : Bool := decide (w ≠ .isRef (.static Bundle.tN "UNASSIGNED_STACK" Bundle.steD)) && decide (w ≠ .isRef (.static Bundle.tN "SUPPRESSED_SENTINEL" Bundle.listD)) && decide (w ≠ .laysStatic Bundle.tN "UNASSIGNED_STACK" Bundle.steD) && decide (w ≠ .laysStatic Bundle.tN "SUPPRESSED_SENTINEL" Bundle.listD)
def vx_at0 (own : String) (ic : Nat) (X : String) (names : List String) : List Cond := (Bundle.ownAtoms0 own ic X names).filter vx_no
def vx_atS (own : String) (ic : Nat) (X : String) (names : List String) : List Cond := (Bundle.ownAtoms own ic X names).filter vx_no
/-- a word that the tables alone decide, or a good one -/
def vx_ot (w : Cond) : Bool := w.onTables || goodWord w
theorem vx_ot_at {args a' : Array Value} {s U : State} {w : Cond} (hW : s.WarmedH U.vm) (hvm : s.vm = U.vm) (hg : vx_ot w = true) (h : w.before args s = true) : w.before a' U = true := by
  simp only [vx_ot, Bool.or_eq_true] at hg
  rcases hg with hg | hg
  · exact va_tabs hg hvm h
  · exact word_at hW (good_of_word hg) h
/-- a list's words: the good ones out of the method's own list, the others by premises of their own -/
theorem vx_hat {args : Array Value} {s : State} {L B : List Cond} (h1 : ∀ w ∈ L.filter goodWord, w.before args s = true) (h2 : ∀ w ∈ L.filter (fun w => !goodWord w), w ∈ B) (h3 : ∀ w ∈ B, w.before args s = true) : ∀ w ∈ L, w.before args s = true := by
  intro w hw
  by_cases g : goodWord w = true
  · exact h1 w (List.mem_filter.mpr ⟨hw, g⟩)
  · refine h3 w (h2 w (List.mem_filter.mpr ⟨hw, ?_⟩))
    show (!goodWord w) = true
    cases hgw : goodWord w
    · rfl
    · exact absurd hgw g
theorem vx_c {args : Array Value} {s : State} {w : Cond} {B : List Cond} (h : w.before args s = true) (t : ∀ w ∈ B, w.before args s = true) : ∀ w' ∈ w :: B, w'.before args s = true := fun w' h' => (List.mem_cons.mp h').elim (fun e => by rw [e]; exact h) (t w')
theorem vx_n {args : Array Value} {s : State} : ∀ w ∈ ([] : List Cond), w.before args s = true := fun _ h => nomatch h
theorem vx_own {args : Array Value} {s : State} {L : List Cond} (h1 : ∀ w ∈ L.filter vx_no, w.before args s = true)
    (hU : (Cond.isRef (.static Bundle.tN "UNASSIGNED_STACK" Bundle.steD)).before args s = true) (hN : (Cond.isRef (.static Bundle.tN "SUPPRESSED_SENTINEL" Bundle.listD)).before args s = true)
    (lU : (Cond.laysStatic Bundle.tN "UNASSIGNED_STACK" Bundle.steD).before args s = true) (lN : (Cond.laysStatic Bundle.tN "SUPPRESSED_SENTINEL" Bundle.listD).before args s = true) : ∀ w ∈ L, w.before args s = true := by
  intro w hw
  by_cases e1 : w = .isRef (.static Bundle.tN "UNASSIGNED_STACK" Bundle.steD)
  · rw [e1]; exact hU
  · by_cases e2 : w = .isRef (.static Bundle.tN "SUPPRESSED_SENTINEL" Bundle.listD)
    · rw [e2]; exact hN
    · by_cases e3 : w = .laysStatic Bundle.tN "UNASSIGNED_STACK" Bundle.steD
      · rw [e3]; exact lU
      · by_cases e4 : w = .laysStatic Bundle.tN "SUPPRESSED_SENTINEL" Bundle.listD
        · rw [e4]; exact lN
        · exact h1 w (List.mem_filter.mpr ⟨hw, by unfold vx_no; rw [decide_eq_true e1, decide_eq_true e2, decide_eq_true e3, decide_eq_true e4]; rfl⟩)
/-- where a static field lies, its class's statics cell in H -/
def vx_L (C n d : String) (A : Nat → Prop) (U : State) (H : Heap) : Prop := ∃ (c : ClassId) (k : Class) (i : Nat) (f : Field) (a : Nat) (cell : Cell), U.vm.findClass C = some c ∧ U.fieldFound? C n d = some (c, k, i, f) ∧ f.isStatic = true ∧ k.statics = some a ∧ H[a]? = some cell ∧ cell.vm.isStatics = true ∧ cell.cls = c ∧ f.slot < cell.slots.size ∧ k.staticTypes[f.slot]? = some f.type ∧ ¬ A a
theorem vx_L.moved {C n d : String} {A : Nat → Prop} {u U : State} {H : Heap} (hvm : u.vm.Alike U.vm) (h : vx_L C n d A u H) : vx_L C n d A U H := by
  obtain ⟨c, k, i, f, a, cell, h1, h2, h3, h4, h5, h6, h7, h8, h9, h10⟩ := h
  obtain ⟨k', hi', he⟩ := State.fieldFound?_setVm hvm h2
  exact ⟨c, k', i, f, a, cell, by rw [hvm.findClass]; exact h1, hi', h3, by rw [he]; exact h4, h5, h6, h7, h8, by rw [he]; exact h9, h10⟩
theorem vx_L.kept {C n d : String} {A : Nat → Prop} {U : State} {H H1 : Heap} (h : vx_L C n d A U H) (hq : ∀ a : Nat, a < H.size → ¬ A a → H1[a]? = H[a]?) : vx_L C n d A U H1 := by
  obtain ⟨c, k, i, f, a, cell, h1, h2, h3, h4, h5, h6, h7, h8, h9, h10⟩ := h
  exact ⟨c, k, i, f, a, cell, h1, h2, h3, h4, by rw [hq a (Array.getElem?_eq_some_iff.mp h5).1 h10]; exact h5, h6, h7, h8, h9, h10⟩
theorem vx_L.narrow {C n d : String} {A B : Nat → Prop} {U : State} {H : Heap} (h : vx_L C n d A U H) (hAB : ∀ q, B q → A q) : vx_L C n d B U H := by
  obtain ⟨c, k, i, f, a, cell, h1, h2, h3, h4, h5, h6, h7, h8, h9, h10⟩ := h
  exact ⟨c, k, i, f, a, cell, h1, h2, h3, h4, h5, h6, h7, h8, h9, fun z => h10 (hAB _ z)⟩
theorem vx_L.word {C n d : String} {A : Nat → Prop} {s : State} {args : Array Value} (h : vx_L C n d A s s.heap) : (Cond.laysStatic C n d).before args s = true := by
  obtain ⟨c, k, i, f, a, cell, h1, h2, h3, h4, h5, h6, h7, h8, h9, -⟩ := h
  show (Cond.laysStatic C n d).holds args s none s [] = true
  exact Cond.laysStatic_of h1 h2 h3 h4 h5 h6 h7 h8 h9
/-- .. and what it holds: null or some reference -/
def vx_Zq (C n d : String) (A : Nat → Prop) (U : State) (H : Heap) : Prop := va_Zq C n d A U H ∧ vx_L C n d A U H
theorem vx_Zq.moved {C n d : String} {A : Nat → Prop} {u U : State} {H : Heap} (hvm : u.vm.Alike U.vm) (h : vx_Zq C n d A u H) : vx_Zq C n d A U H := ⟨va_Zq.moved hvm h.1, vx_L.moved hvm h.2⟩
theorem vx_Zq.kept {C n d : String} {A : Nat → Prop} {U : State} {H H1 : Heap} (h : vx_Zq C n d A U H) (hq : ∀ a : Nat, a < H.size → ¬ A a → H1[a]? = H[a]?) : vx_Zq C n d A U H1 := ⟨va_Zq.kept h.1 hq, vx_L.kept h.2 hq⟩
theorem vx_Zq.narrow {C n d : String} {A B : Nat → Prop} {U : State} {H : Heap} (h : vx_Zq C n d A U H) (hAB : ∀ q, B q → A q) : vx_Zq C n d B U H := ⟨va_Zq.narrow h.1 hAB, vx_L.narrow h.2 hAB⟩
theorem vx_Zqof {args : Array Value} {s : State} {C n d : String} {A : Nat → Prop} (hl : (Cond.laysStatic C n d).before args s = true) (hini : (Cond.initialized C).before args s = true) (h : (Cond.isRef (.static C n d)).before args s = true) (hA : ∀ a : Nat, a < s.heap.size → ¬ A a) : vx_Zq C n d A s s.heap := by
  refine ⟨va_Zqof hl hini h hA, ?_⟩
  obtain ⟨c, k, i, f, a, cell, h1, h2, h3, h4, h5, h6, h7, h8, h9⟩ := Cond.laysStatic_spec hl
  exact ⟨c, k, i, f, a, cell, h1, h2, h3, h4, h5, h6, h7, h8, h9, hA a (Array.getElem?_eq_some_iff.mp h5).1⟩
theorem vx_isRef {C n d : String} {v : Value} {A : Nat → Prop} {s : State} {args : Array Value} (h : va_Z C n d v A s s.heap) (hv : v.isRef = true) : (Cond.isRef (.static C n d)).before args s = true := by
  obtain ⟨cf, kf, fi, f, a, cell, h1, h2, h3, h4, h5, h6, h7, -⟩ := h
  have he : (Term.static C n d).eval args s none [] s = some v := by
    simp [Term.eval, State.fieldNamed?, h1, h2, h4, h5, h6, h7]
  simp only [Cond.before, Cond.holds, Cond.value, he]
  cases v <;> simp_all [Value.isRef]
theorem vx_isRefq {C n d : String} {A : Nat → Prop} {s : State} {args : Array Value} (h : va_Zq C n d A s s.heap) : (Cond.isRef (.static C n d)).before args s = true := by
  rcases h with h | ⟨t, h⟩
  · exact vx_isRef h rfl
  · exact vx_isRef h rfl
/-- the same frame, seen from here: as if the method were called anew in this heap -/
theorem vx_rebase {T : State} (X : Stand p l e R s m args below meth c T locs cells slots) {R' : Room} (hf : R'.frames ≤ R.frames) (hl : R'.locals ≤ R.locals) (hc : cells + R'.cells ≤ R.cells) (hs : slots + R'.slots ≤ R.slots) :
    Stand p l e R' ((T.setVm s.vm).setFrames (.invoking m args :: below)) m args below meth c T [] 0 0 := by
  have htop : (T.setVm s.vm).topJava?.isSome := X.here.top
  have hF : ((T.setVm s.vm).setFrames (.invoking m args :: below)).frames = .invoking m args :: below := State.frames_setFrames _ (State.cur_lt_of_top htop)
  obtain ⟨g₀, hg0⟩ := Option.isSome_iff_exists.mp htop
  obtain ⟨r, hr⟩ := State.topJava?_eq_some.mp hg0
  have hl9 : e.platform.stackLimits (T.setVm s.vm).me = e.platform.stackLimits s.me := X.limits
  have hb9 : (T.setVm s.vm).me.stackBytes = s.me.stackBytes := X.bytes
  refine ⟨X.admits, X.cas, X.clock, hF, ?_, X.hears, X.method, X.code, X.here, X.tail, X.warmed, ?_, ?_, ?_⟩
  · have h := X.room
    have hU : ((T.setVm s.vm).setFrames (.invoking m args :: below)).localsInUse = s.localsInUse := by
      rw [State.localsInUse_invoking hF (meth := meth) (c := c) X.method X.code, State.localsInUse_invoking X.frames X.method X.code]
    simp only [State.hasRoom, Bool.and_eq_true, decide_eq_true_eq] at h ⊢
    obtain ⟨⟨⟨⟨h1, h2, h3, h4, h5, h6⟩, h7⟩, h8⟩, h9⟩ := h
    rw [X.frames, List.length_cons] at h2 h3
    have q1 := X.heapSize
    have q2 := X.used
    simp only [hF, hU, List.length_cons, State.stackLimits_setFrames, State.stackBytes_setFrames, hl9, hb9]
    refine ⟨⟨⟨⟨by omega, by omega, by omega, by omega, by omega, h6⟩, ?_⟩, ?_⟩, X.book⟩
    · show T.heap.size + R'.cells ≤ e.platform.maxCells
      omega
    · show T.slotsUsed + R'.slots ≤ e.platform.maxSlots
      omega
  · rw [State.stackLimits_setFrames]; rfl
  · rw [State.stackBytes_setFrames]; rfl
  · refine ⟨?_, Nat.le_refl _, Nat.le_refl _, ?_, ?_, fun a c9 h9 => ⟨c9, h9, rfl, rfl, fun _ _ => rfl⟩⟩
    · obtain ⟨t, ht, -⟩ := State.frames_cons hr
      show T.setVm s.vm = { ((T.setVm s.vm).setFrames (.invoking m args :: below)).setFrames (T.setVm s.vm).frames with heap := T.heap, slotsUsed := T.slotsUsed }
      rw [State.setFrames_setFrames, State.setFrames_self ht]
      rfl
    · show T.slotsUsed = T.slotsUsed + ((T.heap.toList.drop T.heap.size).map (·.slots.size)).sum
      rw [List.drop_eq_nil_of_le (Nat.le_of_eq Array.length_toList)]
      rfl
    · show ((T.heap.toList.drop T.heap.size).map (·.slots.size)).sum ≤ 0
      rw [List.drop_eq_nil_of_le (Nat.le_of_eq Array.length_toList)]
      exact Nat.le_refl _
/-- 'throw new E()': new; dup; invokespecial; athrow -/
theorem vx_throw0 {cc : ByteArray} {pc : Nat} (hexec : p.tables.exec = Jvm.exec) (hb : c.code = cc) (hl : l.stackTraces = false) {own cls : String} {names : List String} {ik ic mc ms : Nat} {A : Nat → Prop}
    (hown : s.vm.findClass own = some m.cls) (hcls : Bundle.fit cls = true) (hnames : ∀ n ∈ names, Bundle.fit n = true)
    (hk : (Cond.classLink own ik cls).before args s = true) (hini : (Cond.initialized cls).before args s = true) (hat : ∀ w ∈ vx_at0 own ic cls names, w.before args s = true)
    (hgood : ∀ w ∈ Cond.classLink own ik cls :: Cond.initialized cls :: vx_at0 own ic cls names, vx_ot w = true)
    (hU : vx_Zq Bundle.tN "UNASSIGNED_STACK" Bundle.steD A s s.heap) (hN : vx_Zq Bundle.tN "SUPPRESSED_SENTINEL" Bundle.listD A s s.heap) (hS : va_S A s.heap H locs) (hsize : ls.size = c.maxLocals)
    (d0 : decode cc pc = .ok (.new ik, 3)) (d3 : decode cc (pc + 3) = .ok (.dup, 1)) (d4 : decode cc (pc + 4) = .ok (.invokespecial ic, 3)) (d7 : decode cc (pc + 7) = .ok (.athrow, 1))
    (hout : ∀ x ∈ c.exceptionTable.toList, covers x (pc + 7) = false)
    (hRframes : names.length + 3 < R.frames) (hRlocals : (rest.map fun v => v.category).sum + (13 * (names.length + 1) + 42) ≤ R.locals) (hRcells : cells + 1 ≤ R.cells) (hRslots : slots + 6 ≤ R.slots) (hlocks : meth.locks = false)
    (hx : ∀ t : State, s.vm.Alike t.vm → H.size ≤ t.heap.size → (∀ q : Nat, q < H.size → t.heap[q]? = H[q]?) → XC cls s t)
    (hf : ∀ z ∈ locs, free z.base) (hc : cells + 1 ≤ mc) (hs : slots + 6 ≤ ms) :
    W p l e R s m args below meth c H locs cells slots (vx_MQ below Qc XC args s mc ms free) (F0 m pc ls rest) := by
  intro T hT X
  have htr : e.platform.stackTraces = false := (show e.platform.stackTraces = l.stackTraces by rw [X.admits.platform]).trans hl
  have Y := vx_rebase X (R' := { frames := R.frames, locals := R.locals, cells := 1, slots := 6 }) (Nat.le_refl _) (Nat.le_refl _) hRcells hRslots
  obtain ⟨s', hA⟩ : ∃ z, z = (T.setVm s.vm).setFrames (.invoking m args :: below) := ⟨_, rfl⟩
  rw [← hA] at Y
  have hvm : s'.vm = s.vm := by rw [hA]; rfl
  have hhp : s'.heap = H := by rw [hA]; exact hT
  have hW0 : s.WarmedH s'.vm := by rw [hvm]; exact State.WarmedH.refl s
  have hat' : ∀ w ∈ vx_at0 own ic cls names, w.before args s' = true := fun w hw => vx_ot_at hW0 hvm.symm (hgood w (List.mem_cons_of_mem _ (List.mem_cons_of_mem _ hw))) (hat w hw)
  have hk' : (Cond.classLink own ik cls).before args s' = true := vx_ot_at hW0 hvm.symm (hgood _ List.mem_cons_self) hk
  have hini' : (Cond.initialized cls).before args s' = true := vx_ot_at hW0 hvm.symm (hgood _ (List.mem_cons_of_mem _ List.mem_cons_self)) hini
  have hU' : vx_Zq Bundle.tN "UNASSIGNED_STACK" Bundle.steD A s' s'.heap := by rw [hhp]; exact vx_Zq.moved hW0.alike (hU.kept hS.2.1)
  have hN' : vx_Zq Bundle.tN "SUPPRESSED_SENTINEL" Bundle.listD A s' s'.heap := by rw [hhp]; exact vx_Zq.moved hW0.alike (hN.kept hS.2.1)
  have h : ∀ w ∈ Bundle.ownAtoms0 own ic cls names, w.before args s' = true := vx_own hat' (vx_isRefq hU'.1) (vx_isRefq hN'.1) hU'.2.word hN'.2.word
  have hown' : s'.vm.findClass own = some m.cls := by rw [hvm]; exact hown
  have hins : (Cond.instantiable cls 6).before args s' = true := h _ (by simp [Bundle.ownAtoms0])
  obtain ⟨vm₁, cX, kX, hfX, hkX, -, -, X₁, st1⟩ := Y.newCold hexec (own := own) (C := cls) (index := ik) (n := 6) hown' hk' hins hini'
    (g := F0 m pc ls rest) rfl (by rw [hb]; exact d0) (Nat.le_refl _) (Nat.le_refl _)
  generalize hT1 : (T.setVm vm₁).pushCell { cls := cX, slots := kX.instanceTypes.map defaultValue, vm := .none } = T1 at X₁ st1
  have hcat : (Value.ref T.heap.size).category = 1 := rfl
  have hcellA : T1.heap[T.heap.size]? = some (freshCell cX kX) := by rw [← hT1]; exact State.heap_pushCell_size _ _
  have d3' : decode c.code (pc + 3) = .ok (.dup, 1) := by rw [hb]; exact d3
  obtain ⟨U, hsteps, hrun, hend, hW, hsame, ce, hce, hO⟩ := X₁.ctorThrow0 hexec htr (own := own) (cls := cls) (names := names) (ic := ic) hown' hcls hnames h (fun x hx => nomatch hx) hfX hkX hcellA (by rw [hhp, hT]; exact Nat.le_refl _)
    (g := { method := m, pc := pc + 4, locals := ls, stack := .ref T.heap.size :: .ref T.heap.size :: rest, locked := none }) rfl hsize rfl rfl (rest := rest) rfl
    (by rw [hb]; exact d4) (by rw [hb]; exact d7) hout hRframes (by simp only [List.map_cons, List.sum_cons, hcat]; omega) hlocks
  obtain ⟨f1, f2⟩ := vx_frame hsame
  rw [hhp] at f1 f2
  have hWs : s.WarmedH U.vm := State.WarmedH.trans hW0 hW
  have hcl : s.vm.findClass cls = some ce.cls := by
    have h9 := hO.cls
    rw [hvm] at h9
    exact h9
  have hall : s.sameButNew ({ U with vm := s.vm } : State) locs mc ms := by
    subst hA
    obtain ⟨e1, e2⟩ := hsame
    rw [State.setFrames_setFrames] at e1
    have h2 : (T.setVm s.vm).sameButNew ({ U with vm := s.vm } : State) [] (0 + 1) (0 + 6) := ⟨e1, e2⟩
    have h3 := X.same.trans h2
    rw [List.append_nil] at h3
    exact h3.mono hc hs
  refine ⟨U, ?_, .threw T.heap.size, hrun, hend, Or.inr ⟨T.heap.size, rfl, cls, ce, locs, hx U hWs.alike f1 (fun q hq => f2 q hq (fun z hz => nomatch hz)), hce, hO.vm, hcl, hWs, hall, hf⟩⟩
  refine st1 _ ?_
  show Steps p.tables e below (T1.setTop { method := m, pc := pc + 3, locals := ls, stack := .ref T.heap.size :: rest, locked := none }) _
  jvm_step X₁.here [X₁.here.top, hexec, d3', Value.category]
  exact hsteps
/-- 'throw new E("text")': new; dup; ldc; invokespecial; athrow -/
theorem vx_throwS {cc : ByteArray} {pc : Nat} (hexec : p.tables.exec = Jvm.exec) (hb : c.code = cc) (hl : l.stackTraces = false) {own cls text : String} {names : List String} {ik is ic mc ms sa : Nat} {A : Nat → Prop}
    (hown : s.vm.findClass own = some m.cls) (hcls : Bundle.fit cls = true) (hnames : ∀ n ∈ names, Bundle.fit n = true)
    (hk : (Cond.classLink own ik cls).before args s = true) (hini : (Cond.initialized cls).before args s = true) (hstr : vk_R own is text sa s) (hat : ∀ w ∈ vx_atS own ic cls names, w.before args s = true)
    (hgood : ∀ w ∈ Cond.classLink own ik cls :: Cond.initialized cls :: vx_atS own ic cls names, vx_ot w = true)
    (hU : vx_Zq Bundle.tN "UNASSIGNED_STACK" Bundle.steD A s s.heap) (hN : vx_Zq Bundle.tN "SUPPRESSED_SENTINEL" Bundle.listD A s s.heap) (hS : va_S A s.heap H locs) (hsize : ls.size = c.maxLocals)
    (d0 : decode cc pc = .ok (.new ik, 3)) (d3 : decode cc (pc + 3) = .ok (.dup, 1)) (d4 : decode cc (pc + 4) = .ok (.ldc is, 2)) (d6 : decode cc (pc + 6) = .ok (.invokespecial ic, 3)) (d9 : decode cc (pc + 9) = .ok (.athrow, 1))
    (hout : ∀ x ∈ c.exceptionTable.toList, covers x (pc + 9) = false)
    (hRframes : names.length + 3 < R.frames) (hRlocals : (rest.map fun v => v.category).sum + (13 * (names.length + 1) + 43) ≤ R.locals) (hRcells : cells + 1 ≤ R.cells) (hRslots : slots + 6 ≤ R.slots) (hlocks : meth.locks = false)
    (hx : ∀ t : State, s.vm.Alike t.vm → H.size ≤ t.heap.size → (∀ q : Nat, q < H.size → t.heap[q]? = H[q]?) → XC cls s t)
    (hf : ∀ z ∈ locs, free z.base) (hc : cells + 1 ≤ mc) (hs : slots + 6 ≤ ms) :
    W p l e R s m args below meth c H locs cells slots (vx_MQ below Qc XC args s mc ms free) (F0 m pc ls rest) := by
  intro T hT X
  have htr : e.platform.stackTraces = false := (show e.platform.stackTraces = l.stackTraces by rw [X.admits.platform]).trans hl
  have Y := vx_rebase X (R' := { frames := R.frames, locals := R.locals, cells := 1, slots := 6 }) (Nat.le_refl _) (Nat.le_refl _) hRcells hRslots
  obtain ⟨s', hA⟩ : ∃ z, z = (T.setVm s.vm).setFrames (.invoking m args :: below) := ⟨_, rfl⟩
  rw [← hA] at Y
  have hvm : s'.vm = s.vm := by rw [hA]; rfl
  have hhp : s'.heap = H := by rw [hA]; exact hT
  have hW0 : s.WarmedH s'.vm := by rw [hvm]; exact State.WarmedH.refl s
  have hat' : ∀ w ∈ vx_atS own ic cls names, w.before args s' = true := fun w hw => vx_ot_at hW0 hvm.symm (hgood w (List.mem_cons_of_mem _ (List.mem_cons_of_mem _ hw))) (hat w hw)
  have hk' : (Cond.classLink own ik cls).before args s' = true := vx_ot_at hW0 hvm.symm (hgood _ List.mem_cons_self) hk
  have hini' : (Cond.initialized cls).before args s' = true := vx_ot_at hW0 hvm.symm (hgood _ (List.mem_cons_of_mem _ List.mem_cons_self)) hini
  have hU' : vx_Zq Bundle.tN "UNASSIGNED_STACK" Bundle.steD A s' s'.heap := by rw [hhp]; exact vx_Zq.moved hW0.alike (hU.kept hS.2.1)
  have hN' : vx_Zq Bundle.tN "SUPPRESSED_SENTINEL" Bundle.listD A s' s'.heap := by rw [hhp]; exact vx_Zq.moved hW0.alike (hN.kept hS.2.1)
  have h : ∀ w ∈ Bundle.ownAtoms own ic cls names, w.before args s' = true := vx_own hat' (vx_isRefq hU'.1) (vx_isRefq hN'.1) hU'.2.word hN'.2.word
  have hown' : s'.vm.findClass own = some m.cls := by rw [hvm]; exact hown
  have hins : (Cond.instantiable cls 6).before args s' = true := h _ (by simp [Bundle.ownAtoms])
  obtain ⟨vm₁, cX, kX, hfX, hkX, -, -, X₁, st1⟩ := Y.newCold hexec (own := own) (C := cls) (index := ik) (n := 6) hown' hk' hins hini'
    (g := F0 m pc ls rest) rfl (by rw [hb]; exact d0) (Nat.le_refl _) (Nat.le_refl _)
  generalize hT1 : (T.setVm vm₁).pushCell { cls := cX, slots := kX.instanceTypes.map defaultValue, vm := .none } = T1 at X₁ st1
  have hcat : (Value.ref T.heap.size).category = 1 := rfl
  have hcellA : T1.heap[T.heap.size]? = some (freshCell cX kX) := by rw [← hT1]; exact State.heap_pushCell_size _ _
  have d3' : decode c.code (pc + 3) = .ok (.dup, 1) := by rw [hb]; exact d3
  have d4' : decode c.code (pc + 4) = .ok (.ldc is, 2) := by rw [hb]; exact d4
  have hstr' : vk_R own is text sa s' := vk_R.warm hW0 hstr
  obtain ⟨U, hsteps, hrun, hend, hW, hsame, ce, hce, hO⟩ := X₁.ctorThrowS hexec htr (own := own) (cls := cls) (names := names) (ic := ic) hown' hcls hnames h (fun x hx => nomatch hx) hfX hkX hcellA (by rw [hhp, hT]; exact Nat.le_refl _) (msg := .ref sa) rfl
    (g := { method := m, pc := pc + 6, locals := ls, stack := .ref sa :: .ref T.heap.size :: .ref T.heap.size :: rest, locked := none }) rfl hsize rfl rfl (rest := rest) rfl
    (by rw [hb]; exact d6) (by rw [hb]; exact d9) hout hRframes (by simp only [List.map_cons, List.sum_cons, hcat]; omega) hlocks
  obtain ⟨f1, f2⟩ := vx_frame hsame
  rw [hhp] at f1 f2
  have hWs : s.WarmedH U.vm := State.WarmedH.trans hW0 hW
  have hcl : s.vm.findClass cls = some ce.cls := by
    have h9 := hO.cls
    rw [hvm] at h9
    exact h9
  have hall : s.sameButNew ({ U with vm := s.vm } : State) locs mc ms := by
    subst hA
    obtain ⟨e1, e2⟩ := hsame
    rw [State.setFrames_setFrames] at e1
    have h2 : (T.setVm s.vm).sameButNew ({ U with vm := s.vm } : State) [] (0 + 1) (0 + 6) := ⟨e1, e2⟩
    have h3 := X.same.trans h2
    rw [List.append_nil] at h3
    exact h3.mono hc hs
  refine ⟨U, ?_, .threw T.heap.size, hrun, hend, Or.inr ⟨T.heap.size, rfl, cls, ce, locs, hx U hWs.alike f1 (fun q hq => f2 q hq (fun z hz => nomatch hz)), hce, hO.vm, hcl, hWs, hall, hf⟩⟩
  refine st1 _ ?_
  show Steps p.tables e below (T1.setTop { method := m, pc := pc + 3, locals := ls, stack := .ref T.heap.size :: rest, locked := none }) _
  jvm_step X₁.here [X₁.here.top, hexec, d3', Value.category]
  exact X₁.ldcString hexec (own := own) (text := text) (index := is) (a := sa) hown' hstr'.1 hstr'.2
    (g := { method := m, pc := pc + 4, locals := ls, stack := .ref T.heap.size :: .ref T.heap.size :: rest, locked := none }) rfl d4' _ hsteps
/-- 'throw new E("text")', the text by a wide index -/
theorem vx_throwSW {cc : ByteArray} {pc : Nat} (hexec : p.tables.exec = Jvm.exec) (hb : c.code = cc) (hl : l.stackTraces = false) {own cls text : String} {names : List String} {ik is ic mc ms sa : Nat} {A : Nat → Prop}
    (hown : s.vm.findClass own = some m.cls) (hcls : Bundle.fit cls = true) (hnames : ∀ n ∈ names, Bundle.fit n = true)
    (hk : (Cond.classLink own ik cls).before args s = true) (hini : (Cond.initialized cls).before args s = true) (hstr : vk_R own is text sa s) (hat : ∀ w ∈ vx_atS own ic cls names, w.before args s = true)
    (hgood : ∀ w ∈ Cond.classLink own ik cls :: Cond.initialized cls :: vx_atS own ic cls names, vx_ot w = true)
    (hU : vx_Zq Bundle.tN "UNASSIGNED_STACK" Bundle.steD A s s.heap) (hN : vx_Zq Bundle.tN "SUPPRESSED_SENTINEL" Bundle.listD A s s.heap) (hS : va_S A s.heap H locs) (hsize : ls.size = c.maxLocals)
    (d0 : decode cc pc = .ok (.new ik, 3)) (d3 : decode cc (pc + 3) = .ok (.dup, 1)) (d4 : decode cc (pc + 4) = .ok (.ldc_w is, 3)) (d7 : decode cc (pc + 7) = .ok (.invokespecial ic, 3)) (d10 : decode cc (pc + 10) = .ok (.athrow, 1))
    (hout : ∀ x ∈ c.exceptionTable.toList, covers x (pc + 10) = false)
    (hRframes : names.length + 3 < R.frames) (hRlocals : (rest.map fun v => v.category).sum + (13 * (names.length + 1) + 43) ≤ R.locals) (hRcells : cells + 1 ≤ R.cells) (hRslots : slots + 6 ≤ R.slots) (hlocks : meth.locks = false)
    (hx : ∀ t : State, s.vm.Alike t.vm → H.size ≤ t.heap.size → (∀ q : Nat, q < H.size → t.heap[q]? = H[q]?) → XC cls s t)
    (hf : ∀ z ∈ locs, free z.base) (hc : cells + 1 ≤ mc) (hs : slots + 6 ≤ ms) :
    W p l e R s m args below meth c H locs cells slots (vx_MQ below Qc XC args s mc ms free) (F0 m pc ls rest) := by
  intro T hT X
  have htr : e.platform.stackTraces = false := (show e.platform.stackTraces = l.stackTraces by rw [X.admits.platform]).trans hl
  have Y := vx_rebase X (R' := { frames := R.frames, locals := R.locals, cells := 1, slots := 6 }) (Nat.le_refl _) (Nat.le_refl _) hRcells hRslots
  obtain ⟨s', hA⟩ : ∃ z, z = (T.setVm s.vm).setFrames (.invoking m args :: below) := ⟨_, rfl⟩
  rw [← hA] at Y
  have hvm : s'.vm = s.vm := by rw [hA]; rfl
  have hhp : s'.heap = H := by rw [hA]; exact hT
  have hW0 : s.WarmedH s'.vm := by rw [hvm]; exact State.WarmedH.refl s
  have hat' : ∀ w ∈ vx_atS own ic cls names, w.before args s' = true := fun w hw => vx_ot_at hW0 hvm.symm (hgood w (List.mem_cons_of_mem _ (List.mem_cons_of_mem _ hw))) (hat w hw)
  have hk' : (Cond.classLink own ik cls).before args s' = true := vx_ot_at hW0 hvm.symm (hgood _ List.mem_cons_self) hk
  have hini' : (Cond.initialized cls).before args s' = true := vx_ot_at hW0 hvm.symm (hgood _ (List.mem_cons_of_mem _ List.mem_cons_self)) hini
  have hU' : vx_Zq Bundle.tN "UNASSIGNED_STACK" Bundle.steD A s' s'.heap := by rw [hhp]; exact vx_Zq.moved hW0.alike (hU.kept hS.2.1)
  have hN' : vx_Zq Bundle.tN "SUPPRESSED_SENTINEL" Bundle.listD A s' s'.heap := by rw [hhp]; exact vx_Zq.moved hW0.alike (hN.kept hS.2.1)
  have h : ∀ w ∈ Bundle.ownAtoms own ic cls names, w.before args s' = true := vx_own hat' (vx_isRefq hU'.1) (vx_isRefq hN'.1) hU'.2.word hN'.2.word
  have hown' : s'.vm.findClass own = some m.cls := by rw [hvm]; exact hown
  have hins : (Cond.instantiable cls 6).before args s' = true := h _ (by simp [Bundle.ownAtoms])
  obtain ⟨vm₁, cX, kX, hfX, hkX, -, -, X₁, st1⟩ := Y.newCold hexec (own := own) (C := cls) (index := ik) (n := 6) hown' hk' hins hini'
    (g := F0 m pc ls rest) rfl (by rw [hb]; exact d0) (Nat.le_refl _) (Nat.le_refl _)
  generalize hT1 : (T.setVm vm₁).pushCell { cls := cX, slots := kX.instanceTypes.map defaultValue, vm := .none } = T1 at X₁ st1
  have hcat : (Value.ref T.heap.size).category = 1 := rfl
  have hcellA : T1.heap[T.heap.size]? = some (freshCell cX kX) := by rw [← hT1]; exact State.heap_pushCell_size _ _
  have d3' : decode c.code (pc + 3) = .ok (.dup, 1) := by rw [hb]; exact d3
  have d4' : decode c.code (pc + 4) = .ok (.ldc_w is, 3) := by rw [hb]; exact d4
  have hstr' : vk_R own is text sa s' := vk_R.warm hW0 hstr
  obtain ⟨U, hsteps, hrun, hend, hW, hsame, ce, hce, hO⟩ := X₁.ctorThrowS hexec htr (own := own) (cls := cls) (names := names) (ic := ic) hown' hcls hnames h (fun x hx => nomatch hx) hfX hkX hcellA (by rw [hhp, hT]; exact Nat.le_refl _) (msg := .ref sa) rfl
    (g := { method := m, pc := pc + 7, locals := ls, stack := .ref sa :: .ref T.heap.size :: .ref T.heap.size :: rest, locked := none }) rfl hsize rfl rfl (rest := rest) rfl
    (by rw [hb]; exact d7) (by rw [hb]; exact d10) hout hRframes (by simp only [List.map_cons, List.sum_cons, hcat]; omega) hlocks
  obtain ⟨f1, f2⟩ := vx_frame hsame
  rw [hhp] at f1 f2
  have hWs : s.WarmedH U.vm := State.WarmedH.trans hW0 hW
  have hcl : s.vm.findClass cls = some ce.cls := by
    have h9 := hO.cls
    rw [hvm] at h9
    exact h9
  have hall : s.sameButNew ({ U with vm := s.vm } : State) locs mc ms := by
    subst hA
    obtain ⟨e1, e2⟩ := hsame
    rw [State.setFrames_setFrames] at e1
    have h2 : (T.setVm s.vm).sameButNew ({ U with vm := s.vm } : State) [] (0 + 1) (0 + 6) := ⟨e1, e2⟩
    have h3 := X.same.trans h2
    rw [List.append_nil] at h3
    exact h3.mono hc hs
  refine ⟨U, ?_, .threw T.heap.size, hrun, hend, Or.inr ⟨T.heap.size, rfl, cls, ce, locs, hx U hWs.alike f1 (fun q hq => f2 q hq (fun z hz => nomatch hz)), hce, hO.vm, hcl, hWs, hall, hf⟩⟩
  refine st1 _ ?_
  show Steps p.tables e below (T1.setTop { method := m, pc := pc + 3, locals := ls, stack := .ref T.heap.size :: rest, locked := none }) _
  jvm_step X₁.here [X₁.here.top, hexec, d3', Value.category]
  exact X₁.ldcStringW hexec (own := own) (text := text) (index := is) (a := sa) hown' hstr'.1 hstr'.2
    (g := { method := m, pc := pc + 4, locals := ls, stack := .ref T.heap.size :: .ref T.heap.size :: rest, locked := none }) rfl d4' _ hsteps
end Ends
section Bodies
variable {l : Launch}
theorem vx_ofW {y : MethodName} {ws ws' : List Cond} {rm : Room} {Pc : Array Value → State → Prop} {Qc : Array Value → State → Outcome → State → Prop} {XC : String → State → State → Prop} {mc ms : Nat} {free : Addr → Prop} {cc : ByteArray} {maxL : Nat} {ret : Option FieldType}
    (hy : plainName y.cls = true) (hw : ws = Cond.code y cc maxL ret :: ws')
    (body : ∀ p e s m args below meth c s₁, BodyLoose p l y (headSpec ws rm) cc maxL ret e s m args below meth c s₁ → c.maxLocals = maxL → (∀ x ∈ c.exceptionTable.toList, False) → Pc args s →
      W p l e (headSpec ws rm).room s m args below meth c s.heap [] 0 0 (vx_MQ below Qc XC args s mc ms free) (entryFrame m args maxL)) : vx_Met l y ws rm Pc Qc XC mc ms free := by
  refine MetFree.of_bodyS (code := cc) (maxLocals := maxL) (ret := ret) hy ?_ ?_
  · intro args s m h hn
    obtain ⟨meth, c, h1, h2, h3, h4, h5, h6, -, -⟩ := Cond.code_spec hn (atoms_spec (ws := ws) h _ (by rw [hw]; exact List.mem_cons_self))
    exact ⟨meth, c, h1, h2, h3, h4, h5, h6⟩
  · intro p e s m args below meth c s₁ B hml hP _
    have hh0 : s₁.heap = s.heap := by rw [B.state]; rfl
    have ht : ∀ x ∈ c.exceptionTable.toList, False := by
      obtain ⟨meth9, c9, h1, h2, -, -, -, -, h7, -⟩ := Cond.code_spec B.named (atoms_spec (ws := ws) B.pre _ (by rw [hw]; exact List.mem_cons_self))
      cases Option.some.inj (h1.symm.trans B.method)
      cases Option.some.inj (h2.symm.trans (Stand.of_body B).code)
      intro x hx
      rw [Array.isEmpty_iff.mp h7] at hx
      cases hx
    obtain ⟨t, a1, o, b1, b2, b3⟩ := body p e s m args below meth c s₁ B hml ht hP s₁ hh0 (Stand.of_body B)
    exact ⟨t, o, a1, b1, b2, b3⟩
/-- the table of a body with handlers -/
theorem vx_table {p : Program} {x y : MethodName} {S : Spec} {cc bytes : ByteArray} {maxL maxL' : Nat} {ret ret' : Option FieldType} {e : Env} {s s₁ : State} {m : MethodId} {args : Array Value} {below : List Frame} {meth : Method} {c : Code} {hh : List (Nat × Nat × Nat × Nat)}
    (B : BodyLoose p l y S cc maxL ret e s m args below meth c s₁) (h : (Cond.codeWith y bytes maxL' ret' hh).before args s = true) : c.exceptionTable.toList = tableOf hh := by
  obtain ⟨m9, meth9, c9, hn9, h1, h2, -, -, h6, -⟩ := Cond.codeWith_spec h
  cases Option.some.inj (hn9.symm.trans B.named)
  cases Option.some.inj (h1.symm.trans B.method)
  cases Option.some.inj (h2.symm.trans (Stand.of_body B).code)
  rw [← h6, table_eq]
end Bodies
end VXA
/-! ===== END ===== -/
/-! ===== BEGIN a static call of a method with an exception table ===== -/
section VXS
variable {p : Program} {l : Launch} {e : Env} {R : Room} {s : State} {m : MethodId} {args : Array Value} {below : List Frame} {meth : Method} {c : Code} {T : State} {H : Heap} {locs : List Loc} {cells slots : Nat}
abbrev vx_CSW (R : Room) (s : State) (args : Array Value) (own : String) (index : Nat) (y : MethodName) (bytes : ByteArray) (maxL : Nat) (ret : Option FieldType) (hh : List (Nat × Nat × Nat × Nat)) (ws : List Cond) (rm : Room) (mc ms n : Nat) : Prop :=
  (rm.cells = mc ∧ rm.slots = ms ∧ rm.frames + 1 ≤ R.frames ∧ 8 + (maxL + 11) + rm.locals ≤ R.locals ∧ (∀ w ∈ ws, ∀ (a' : Array Value) (U : State), s.WarmedH U.vm → w.before a' U = true) ∧ Cond.codeWith y bytes maxL ret hh ∈ ws) ∧
  (Cond.codeWith y bytes maxL ret hh).before args s = true ∧ (Cond.initialized y.cls).before args s = true ∧ (y.cls ≠ "java/lang/invoke/MethodHandle" ∧ y.cls ≠ "java/lang/invoke/VarHandle") ∧
  (∀ sig, parseMethodDescriptor y.desc = some sig → n = sig.parameters.length) ∧ (Cond.methodLink own index y).before args s = true ∧ (Cond.static y).before args s = true
theorem vx_cwSW {own : String} {index maxL mc ms : Nat} {y : MethodName} {bytes : ByteArray} {ret : Option FieldType} {hh : List (Nat × Nat × Nat × Nat)} {Ts ws ws' : List Cond} {rm : Room} (n : Nat) (ht : ∀ w ∈ Ts, w.before args s = true) (hT : GoodIn Ts (va_wsS own index y ws)) (hw : ws = Cond.codeWith y bytes maxL ret hh :: ws') (hrc : rm.cells = mc) (hrs : rm.slots = ms)
    (hd : y.cls ≠ "java/lang/invoke/MethodHandle" ∧ y.cls ≠ "java/lang/invoke/VarHandle" ∧ (parseMethodDescriptor y.desc).map (fun d => d.parameters.length) = some n) (hR : rm.frames + 1 ≤ R.frames ∧ 8 + (maxL + 11) + rm.locals ≤ R.locals) :
    vx_CSW R s args own index y bytes maxL ret hh ws rm mc ms n := by
  have ok : ∀ w ∈ va_wsS own index y ws, w.before args s = true := fun w h => ht w (hT w h).1
  have hG : GoodIn Ts ws := fun w h => hT w (by unfold va_wsS; exact List.mem_append_right _ h)
  have hc : Cond.codeWith y bytes maxL ret hh ∈ ws := by rw [hw]; exact List.mem_cons_self
  refine ⟨⟨hrc, hrs, hR.1, hR.2, pay_in ht hG, hc⟩, ht _ (hG _ hc).1, ok _ (by simp [va_wsS]), ⟨hd.1, hd.2.1⟩, fun sig h => ?_, ok _ (by simp [va_wsS]), ok _ (by simp [va_wsS])⟩
  have h2 := hd.2.2
  rw [h] at h2
  exact (Option.some.inj h2).symm
theorem vx_callSW (X : Stand p l e R s m args below meth c T locs cells slots) (hexec : p.tables.exec = Jvm.exec) {own : String} {index : Nat} {y : MethodName} {bytes : ByteArray} {maxL : Nat} {ret : Option FieldType} {hh : List (Nat × Nat × Nat × Nat)}
    (hown : s.vm.findClass own = some m.cls) (hlink : (Cond.methodLink own index y).before args s = true) (hstat : (Cond.static y).before args s = true) (hinit : (Cond.initialized y.cls).before args s = true)
    (hcode : (Cond.codeWith y bytes maxL ret hh).before args s = true) (hy : y.cls ≠ "java/lang/invoke/MethodHandle" ∧ y.cls ≠ "java/lang/invoke/VarHandle")
    {W9 : Nat} {Pre : Pt → Array Value → Prop} {Post : Pt → Array Value → Option Value → Pt → Prop} (hK : Back l R p e below s args y 3 W9 Pre Post)
    {g : JFrame} (hg : g.method = m) (hsize : g.locals.size = c.maxLocals) {argsL rest : List Value} (hlen : ∀ sig, parseMethodDescriptor y.desc = some sig → argsL.length = sig.parameters.length)
    (hstack : g.stack = argsL.reverse ++ rest) (hW : 2 * g.monitorRoom + (rest.map fun v => v.category).sum ≤ W9) (hdg : decode c.code g.pc = .ok (.invokestatic index, 3))
    (hpre : ∀ vm₁, s.WarmedH vm₁ → Pre ⟨T.setVm vm₁, locs, cells, slots⟩ argsL.toArray) :
    ∃ (v : Option Value) (vm₁ : Vm) (B : Pt), s.WarmedH vm₁ ∧ Stand p l e R s m args below meth c B.U B.locs B.cells B.slots ∧ Post ⟨T.setVm vm₁, locs, cells, slots⟩ argsL.toArray v B ∧
      ∀ target, Steps p.tables e below (B.U.setTop { g with pc := g.pc + 3, stack := v.toList ++ rest }) target → Steps p.tables e below (T.setTop g) target := by
  obtain ⟨mk, methM, cM, hnamed, hmethM, -, -, -, -, -, -, hsigM⟩ := Cond.codeWith_spec hcode
  have hstatic : methM.isStatic = true := Cond.static_spec hnamed hmethM hstat
  obtain ⟨kP, hkP, -⟩ := className_of_methodNamed hnamed
  have hinitP : kP.init = .initialized := Cond.initialized_spec (findClass_of_methodNamed hnamed) hkP hinit
  obtain ⟨vm₁, X₁, hstep₁⟩ := X.invokestatic hexec hown hlink hnamed hmethM hstatic hkP hinitP hy (g := g) hg (argsL := argsL) (rest := rest) (hlen _ hsigM) hstack hdg
  obtain ⟨v, B, X', hpost, hsteps⟩ := hK m meth c ⟨T.setVm vm₁, locs, cells, slots⟩ { g with stack := rest } (.invokestatic index) mk argsL.toArray X₁ hg hsize hdg hW (X₁.named hnamed) (hpre vm₁ X₁.warmed)
  exact ⟨v, vm₁, B, X₁.warmed, X', hpost, fun target h => hstep₁ _ fun acts => by rw [doInvoke_state]; exact hsteps.trans h⟩
theorem vx_runSW {y : MethodName} {bytes cc : ByteArray} {maxL nL mc ms n index : Nat} {ret : Option FieldType} {hh : List (Nat × Nat × Nat × Nat)} {ws : List Cond} {rm : Room} {Pc : Array Value → State → Prop} {Qc : Array Value → State → Outcome → State → Prop} {free : Addr → Prop} {Ts : List Cond} {own : String} {As rest : List Value} {g : JFrame}
    (S : CallFix p m c cc nL s args Ts own) (hM : Met l y ws rm Pc Qc mc ms free) (cw : vx_CSW R s args own index y bytes maxL ret hh ws rm mc ms n) (hp : PreS s H Pc As)
    (hg : g.method = m) (hn : As.length = n) (hsize : g.locals.size = nL) (hstack : g.stack = As.reverse ++ rest) (hW : 2 * g.monitorRoom + (rest.map fun v => v.category).sum ≤ 8) (hdg : decode cc g.pc = .ok (.invokestatic index, 3)) (hf : cells + mc ≤ R.cells ∧ slots + ms ≤ R.slots) :
    va_Run p l e R s m args below meth c H locs cells slots mc ms g rest (Qc As.toArray) (free) := by
  obtain ⟨⟨hrc, hrs, hfr, hlo, hws, hcw⟩, hcode, hini, hy, hlen, hl, hstt⟩ := cw
  have hK : Back l R p e below s args y 3 8 (PreOf R mc ms Pc) (PostOf Qc mc ms free) := va_backW (hh := hh) (bytes := bytes) (maxL := maxL) (ret := ret) hM hp.1 hrc hrs hfr hlo hws hcw (fun a' U hW => word_at hW (Or.inl (by first | rfl | simp [Cond.onTables, Cond.keeps, Cond.steady])) hini)
  obtain ⟨hx, hb, hml, ho, -⟩ := S
  intro T hT X
  obtain ⟨v, vm₁, ⟨U', l2, c2, s2⟩, hW₁, X', ⟨g', mk, t, L, e1, e2, hq, h1, hL, h2, h3⟩, st⟩ := vx_callSW X hx (hh := hh) (bytes := bytes) (maxL := maxL) (ret := ret) ho hl hstt hini hcode hy hK hg (hsize.trans hml.symm) (argsL := As) (rest := rest) (fun sig h => hn.trans (hlen sig h)) hstack hW (by rw [hb]; exact hdg)
    (fun vm₁ hW₁ => ⟨hf.1, hf.2, hp.2 (T.setVm vm₁) hT hW₁⟩)
  dsimp only [Pt.U, Pt.locs, Pt.cells, Pt.slots] at X' e1 e2 h1 h2 h3 st
  subst h1; subst h2; subst h3
  exact ⟨v, (T.setVm vm₁).calling g' mk As.toArray, t, U', L, hT, X', hL, e1, e2, hq, st⟩
/-- not caught here, past rows that name other classes: it goes on to the caller -/
theorem vx_outP {p : Program} {l : Launch} {e : Env} {R : Room} {s : State} {m : MethodId} {args : Array Value} {below : List Frame} {meth : Method} {c : Code} {H : Heap} {locs : List Loc} {cells slots : Nat} {free : Addr → Prop} {ls : Array Slot} {rest : List Value} {Qc : Array Value → State → Outcome → State → Prop} {XC : String → State → State → Prop}
    {pc : Nat} {own E : String} {ce : Cell} {q : Addr} {mc ms : Nat} (hown : s.vm.findClass own = some m.cls) (hlocks : meth.locks = false)
    (hpass : ∀ z ∈ c.exceptionTable.toList, covers z pc = false ∨ (z.catchType ≠ 0 ∧ ∃ nm : String, (Cond.classLink own z.catchType nm).before args s = true ∧ va_Nc E nm s)) (hcell : H[q]? = some ce) (hv : ce.vm = .none) (hcl : s.vm.findClass E = some ce.cls)
    (hx : ∀ t : State, t.heap = H → s.vm.Alike t.vm → XC E s t) (hf : ∀ z ∈ locs, free z.base) (hc : cells ≤ mc) (hs : slots ≤ ms) :
    vx_W p l e R s m args below meth c H locs cells slots (vx_MQ below Qc XC args s mc ms free) (F0 m pc ls rest) q := by
  intro T hT X
  have hpl : e.platform.magicAccessors = ({} : Platform).magicAccessors := by rw [X.admits.platform]
  obtain ⟨vm', hW', X', st⟩ := X.outThrough hlocks q (g := F0 m pc ls rest) rfl rfl rfl (cell := ce) (by rw [hT]; exact hcell) (by rw [hv]; rfl)
    (by obtain ⟨k9, h9, -⟩ := Vm.findClass_spec hcl; exact ⟨k9, h9⟩) (fun z hz => by
      rcases hpass z hz with h | ⟨hz0, nm, hl1, hn1⟩
      · exact Or.inl h
      · obtain ⟨c6, hc6, hcl6⟩ := Cond.classLink_spec hown hl1 e.platform hpl
        obtain ⟨a8, b8, h1, h2, h3⟩ := hn1
        cases Option.some.inj (h1.symm.trans hcl)
        cases Option.some.inj (h2.symm.trans hc6)
        exact Or.inr ⟨hz0, _, hcl6, h3⟩)
  obtain ⟨g₀, hfr⟩ := X'.frames_eq
  have hcell9 : ((T.setVm vm').setFrames (.throwing q :: below)).heap[q]? = some ce := by
    show T.heap[q]? = some ce
    rw [hT]; exact hcell
  have hend : Ended ((T.setVm vm').setFrames (.throwing q :: below)) below (.threw q) := State.frames_setFrames _ (State.cur_lt_of_frames hfr)
  refine ⟨(T.setVm vm').setFrames (.throwing q :: below), ?_, .threw q, X'.here.running, hend, Or.inr ⟨q, rfl, E, ce, locs, hx _ hT (X'.ends _).1.alike, hcell9, hv, hcl, (X'.ends _).1, (X'.ends _).2.mono hc hs, hf⟩⟩
  rw [X.pushThrowing_eq]
  exact st
/-- a thing of a world lies in the heap -/
theorem vx_lt {D : va_G} {cl : List vw_C} {ws : va_W} {H1 : Heap} (h : va_P D cl ws H1) {k : Nat} {q : Nat × va_E} (hk : ws[k]? = some q) : q.1 < H1.size := (h k q hk).lt
end VXS
/-! ===== END ===== -/
/-! ===== BEGIN methods with a table of their own: called by a name, returning or throwing ===== -/
section VXH
/-! vx_backW, vx_callVX, vx_callSX, vx_callVW, vx_runVW, vx_runVX, vx_runSX, vx_ofWH follow the same proofs as their sisters above (Free/Laws.lean, Shelf42/LK1.lean); vx_outP calls Shelf42/NT130.lean (outThrough). -/
section
variable {l : Launch} {R : Room} {p : Program} {e : Env} {below : List Frame} {s : State} {sargs : Array Value} {y : MethodName} {len W9 : Nat}
theorem vx_backW {ws : List Cond} {rm : Room} {Pc : Array Value → State → Prop} {Qc : Array Value → State → Outcome → State → Prop} {XC : String → State → State → Prop} {mc ms : Nat} {free : Addr → Prop} {bytes : ByteArray} {maxL : Nat} {ret : Option FieldType} {hh : List (Nat × Nat × Nat × Nat)}
    (hM : vx_Met l y ws rm Pc Qc XC mc ms free) (hblind : FrameBlind Pc) (hrc : rm.cells = mc) (hrs : rm.slots = ms)
    (hframes : rm.frames + 1 ≤ R.frames) (hlocals : W9 + (maxL + 11) + rm.locals ≤ R.locals)
    (hws : ∀ w ∈ ws, ∀ a' U, s.WarmedH U.vm → w.before a' U = true) (hcode : Cond.codeWith y bytes maxL ret hh ∈ ws) (hinit : ∀ a' U, s.WarmedH U.vm → (Cond.initialized y.cls).before a' U = true) :
    vx_Back l R p e below s sargs y len W9 (PreOf R mc ms Pc) (PostOf Qc mc ms free) (vx_Post XC mc ms free) := by
  intro m meth c A g ig mk a X hg hsize hdg hW hn hp
  have h1 : (headSpec ws rm).pre.before a A.U = true := atoms_intro fun w hw => hws w hw _ _ X.warmed
  have h2 : (Cond.codeWith y bytes maxL ret hh).before a A.U = true := hws _ hcode _ _ X.warmed
  have h3 : (Cond.initialized y.cls).before a A.U = true := hinit _ _ X.warmed
  have h4 : A.cells + (headSpec ws rm).room.cells ≤ R.cells := by rw [show (headSpec ws rm).room.cells = mc from hrc]; exact hp.1
  have h5 : A.slots + (headSpec ws rm).room.slots ≤ R.slots := by rw [show (headSpec ws rm).room.slots = ms from hrs]; exact hp.2.1
  have hPc : Pc a (A.U.calling g mk a) := hblind _ _ _ _ hp.2.2
  obtain ⟨U, Ls, c0, s0⟩ := A
  dsimp only [Pt.U, Pt.locs, Pt.cells, Pt.slots] at h1 h2 h3 h4 h5 X hn hPc ⊢
  obtain ⟨m9, methY, cY, hn9, hmY, hcY, -, hlY, -⟩ := Cond.codeWith_spec h2
  cases Option.some.inj (hn9.symm.trans hn)
  obtain ⟨kY, hkY, -⟩ := className_of_methodNamed hn
  have hinitY : kY.init = .initialized := Cond.initialized_spec (findClass_of_methodNamed hn) hkY h3
  have h : At U g.method c below := by rw [hg]; exact X.here
  have hlocals9 : W9 + (maxL + 11) + (headSpec ws rm).room.locals ≤ R.locals := hlocals
  have happ : (headSpec ws rm).appliesLoose y e.platform (U.calling g mk a) = true :=
    Spec.appliesLoose_calling (g := g) h hdg hn hkY hinitY
      (X.room_calling (g := g) (R' := (headSpec ws rm).room) hsize hmY hcY hframes (by rw [hlY]; omega) h4 h5) h1
  obtain ⟨mid, hmid⟩ := h.above
  have hfr : (U.setTop g).frames = (.java g :: mid) ++ below := by rw [State.frames_setTop' g h.top, hmid]; rfl
  obtain ⟨o, s₂, hsteps, -, hend, hq⟩ := Steps.callFree hM p X.admits X.cas X.clock (acts := []) hfr happ hPc trivial
  have hq' : vx_Q Qc XC mc ms free a (U.calling g mk a) o s₂ := hq
  rw [State.frames_setTop' g h.top] at hend
  obtain ⟨g₀, hg0⟩ := Option.isSome_iff_exists.mp h.top
  obtain ⟨r, hr⟩ := State.topJava?_eq_some.mp hg0
  have hr' : (({ U with heap := s₂.heap, slotsUsed := s₂.slotsUsed } : State).setVm s₂.vm).frames = .java g₀ :: r := hr
  rcases hq' with ⟨hqc, L, hfe, hL⟩ | ⟨q, rfl, E, ce, L, hx, hce, hcv, hcl, hW₂, hsm, hL⟩
  · obtain ⟨⟨v, rfl⟩, hW₂, e2, q2, q3, q4, q5, q6⟩ := id hfe
    have e3 : s₂ = ({ (U.calling g mk a).setFrames s₂.frames with heap := s₂.heap, slotsUsed := s₂.slotsUsed } : State).setVm s₂.vm := by
      have : s₂ = ({ s₂ with vm := (U.calling g mk a).vm } : State).setVm s₂.vm := rfl
      rw [e2] at this
      exact this
    obtain ⟨c₂, i₂, len₂, hc₂, hd₂, hf₂⟩ := hend
    have hW' : U.WarmedH s₂.vm := hW₂
    have hcc : c₂ = c := by
      have h1 : s₂.code? g.method = U.code? g.method := by
        rw [State.code?_eq, State.code?_eq, hW'.alike.method?]
      exact Option.some.inj (hc₂.symm.trans (h1.trans h.code))
    subst hcc
    have hlen : len₂ = len := by rw [hdg] at hd₂; cases hd₂; rfl
    subst hlen
    have hs₂ : s₂ = (({ U with heap := s₂.heap, slotsUsed := s₂.slotsUsed } : State).setVm s₂.vm).setTop { g with pc := g.pc + len₂, stack := v.toList ++ g.stack } := by
      refine e3.trans ?_
      rw [hf₂, State.calling_eq h.top, State.setFrames_setFrames, State.setTop_of_frames _ hr', hr]
      rfl
    have hsame : U.sameButNew ({ U with heap := s₂.heap, slotsUsed := s₂.slotsUsed } : State) L mc ms := by
      refine ⟨?_, q2, q3, q4, q5, q6⟩
      obtain ⟨t, ht, -⟩ := State.frames_cons hr
      show ({ U with heap := s₂.heap, slotsUsed := s₂.slotsUsed } : State) = { U.setFrames U.frames with heap := s₂.heap, slotsUsed := s₂.slotsUsed }
      rw [State.setFrames_self ht]
    subst hg
    refine Or.inl ⟨v, ⟨(({ U with heap := s₂.heap, slotsUsed := s₂.slotsUsed } : State).setVm s₂.vm), Ls ++ L, c0 + mc, s0 + ms⟩,
      ⟨X.admits, X.cas, X.clock, X.frames, X.room, X.hears, X.method, X.code, (X.here.setHeapUsed s₂.heap s₂.slotsUsed).setVm hW'.alike, X.tail, State.WarmedH.trans X.warmed hW', X.limits, X.bytes, X.same.trans (hsame.setVm s.vm)⟩,
      ⟨g, mk, s₂, L, rfl, rfl, hqc, rfl, hL, rfl, rfl⟩, ?_⟩
    show Steps p.tables e below _ ((({ U with heap := s₂.heap, slotsUsed := s₂.slotsUsed } : State).setVm s₂.vm).setTop { g with pc := g.pc + len₂, stack := v.toList ++ g.stack })
    rw [← hs₂]
    exact hsteps
  · obtain ⟨e2, q2, q3, q4, q5, q6⟩ := id hsm
    have e3 : s₂ = ({ (U.calling g mk a).setFrames s₂.frames with heap := s₂.heap, slotsUsed := s₂.slotsUsed } : State).setVm s₂.vm := by
      have : s₂ = ({ s₂ with vm := (U.calling g mk a).vm } : State).setVm s₂.vm := rfl
      rw [e2] at this
      exact this
    have hf₂ : s₂.frames = .throwing q :: .java g :: U.frames.tail := hend
    have hW' : U.WarmedH s₂.vm := hW₂
    have hs₂ : s₂ = ((({ U with heap := s₂.heap, slotsUsed := s₂.slotsUsed } : State).setVm s₂.vm).setTop g).pushFrame (.throwing q) := by
      refine e3.trans ?_
      rw [hf₂, State.calling_eq h.top, State.setFrames_setFrames, State.pushFrame, State.frames_setTop _ hr', State.setTop_of_frames _ hr', State.setFrames_setFrames, hr]
      rfl
    have hsame : U.sameButNew ({ U with heap := s₂.heap, slotsUsed := s₂.slotsUsed } : State) L mc ms := by
      refine ⟨?_, q2, q3, q4, q5, q6⟩
      obtain ⟨t, ht, -⟩ := State.frames_cons hr
      show ({ U with heap := s₂.heap, slotsUsed := s₂.slotsUsed } : State) = { U.setFrames U.frames with heap := s₂.heap, slotsUsed := s₂.slotsUsed }
      rw [State.setFrames_self ht]
    subst hg
    refine Or.inr ⟨q, ⟨(({ U with heap := s₂.heap, slotsUsed := s₂.slotsUsed } : State).setVm s₂.vm), Ls ++ L, c0 + mc, s0 + ms⟩,
      ⟨X.admits, X.cas, X.clock, X.frames, X.room, X.hears, X.method, X.code, (X.here.setHeapUsed s₂.heap s₂.slotsUsed).setVm hW'.alike, X.tail, State.WarmedH.trans X.warmed hW', X.limits, X.bytes, X.same.trans (hsame.setVm s.vm)⟩,
      ⟨g, mk, s₂, L, E, ce, rfl, rfl, hx, hce, hcv, hcl, rfl, hL, rfl, rfl⟩, ?_⟩
    show Steps p.tables e below _ (((({ U with heap := s₂.heap, slotsUsed := s₂.slotsUsed } : State).setVm s₂.vm).setTop g).pushFrame (.throwing q))
    rw [← hs₂]
    exact hsteps
end
variable {p : Program} {l : Launch} {e : Env} {R : Room} {s : State} {m : MethodId} {args : Array Value} {below : List Frame} {meth : Method} {c : Code} {T : State} {H : Heap} {locs : List Loc} {cells slots : Nat}
theorem vx_callVX (X : Stand p l e R s m args below meth c T locs cells slots) (hexec : p.tables.exec = Jvm.exec) {own C : String} {index : Nat} {y : MethodName} {bytes : ByteArray} {maxL : Nat} {ret : Option FieldType} {hh : List (Nat × Nat × Nat × Nat)}
    (hown : s.vm.findClass own = some m.cls) (hlink : (Cond.methodLink own index y).before args s = true) (hinst : (Cond.instanceMethod y).before args s = true) (hsel : (Cond.selects C y y).before args s = true)
    (hcode : (Cond.codeWith y bytes maxL ret hh).before args s = true) (hy : y.cls ≠ "java/lang/invoke/MethodHandle" ∧ y.cls ≠ "java/lang/invoke/VarHandle")
    {W9 : Nat} {Pre : Pt → Array Value → Prop} {Post : Pt → Array Value → Option Value → Pt → Prop} {PostX : Pt → Array Value → Addr → Pt → Prop} (hK : vx_Back l R p e below s args y 3 W9 Pre Post PostX)
    {b : Addr} {cellB : Cell} (hcell : T.heap[b]? = some cellB) (hobj : cellB.vm.isStatics = false) (hcls : s.vm.findClass C = some cellB.cls)
    {g : JFrame} (hg : g.method = m) (hsize : g.locals.size = c.maxLocals) {argsL rest : List Value} (hlen : ∀ sig, parseMethodDescriptor y.desc = some sig → argsL.length = sig.parameters.length)
    (hstack : g.stack = argsL.reverse ++ .ref b :: rest) (hW : 2 * g.monitorRoom + (rest.map fun v => v.category).sum ≤ W9) (hdg : decode c.code g.pc = .ok (.invokevirtual index, 3))
    (hpre : ∀ vm₁, s.WarmedH vm₁ → Pre ⟨T.setVm vm₁, locs, cells, slots⟩ (Value.ref b :: argsL).toArray) :
    (∃ (v : Option Value) (vm₁ : Vm) (B : Pt), s.WarmedH vm₁ ∧ Stand p l e R s m args below meth c B.U B.locs B.cells B.slots ∧ Post ⟨T.setVm vm₁, locs, cells, slots⟩ (Value.ref b :: argsL).toArray v B ∧
      ∀ target, Steps p.tables e below (B.U.setTop { g with pc := g.pc + 3, stack := v.toList ++ rest }) target → Steps p.tables e below (T.setTop g) target) ∨
    (∃ (q : Addr) (vm₁ : Vm) (B : Pt), s.WarmedH vm₁ ∧ Stand p l e R s m args below meth c B.U B.locs B.cells B.slots ∧ PostX ⟨T.setVm vm₁, locs, cells, slots⟩ (Value.ref b :: argsL).toArray q B ∧
      Steps p.tables e below (T.setTop g) ((B.U.setTop { g with stack := rest }).pushFrame (.throwing q))) := by
  obtain ⟨mk, methM, hnamed, hmethM, hstM, habM⟩ := Cond.instanceMethod_spec hinst
  obtain ⟨m8, methM', cM, hn8, hmethM', -, -, -, -, -, -, hsigM⟩ := Cond.codeWith_spec hcode
  cases Option.some.inj (hn8.symm.trans hnamed)
  cases hmethM.symm.trans hmethM'
  obtain ⟨c2, r2, m2, q1, q2, q3, q4, kP, hkP, hkPi⟩ := Cond.selects_spec hsel
  cases hcls.symm.trans q1
  cases (State.methodFound?_of_named hnamed hy).symm.trans q2
  cases hnamed.symm.trans q3
  have hselP : selectMethod e.platform s.vm cellB.cls mk = .method mk := by rw [Launch.admits_selectMethod X.admits]; exact q4
  obtain ⟨vm₁, X₁, hstep₁⟩ := X.invokevirtual hexec hown hlink hnamed hmethM hstM hkP hkPi hy (a := b) (cell := cellB) hcell
    (fun z h => by rw [h] at hobj; cases hobj) hselP hmethM habM hkP hkPi (g := g) hg (argsL := argsL) (rest := rest) (hlen _ hsigM) hstack hdg
  rcases hK m meth c ⟨T.setVm vm₁, locs, cells, slots⟩ { g with stack := rest } (.invokevirtual index) mk (Value.ref b :: argsL).toArray X₁ hg hsize hdg hW (X₁.named hnamed) (hpre vm₁ X₁.warmed) with ⟨v, B, X', hpost, hsteps⟩ | ⟨q, B, X', hpost, hsteps⟩
  · exact Or.inl ⟨v, vm₁, B, X₁.warmed, X', hpost, fun target h => hstep₁ _ fun acts => by rw [doInvoke_state]; exact hsteps.trans h⟩
  · exact Or.inr ⟨q, vm₁, B, X₁.warmed, X', hpost, hstep₁ _ fun acts => by rw [doInvoke_state]; exact hsteps⟩
theorem vx_callSX (X : Stand p l e R s m args below meth c T locs cells slots) (hexec : p.tables.exec = Jvm.exec) {own : String} {index : Nat} {y : MethodName} {bytes : ByteArray} {maxL : Nat} {ret : Option FieldType} {hh : List (Nat × Nat × Nat × Nat)}
    (hown : s.vm.findClass own = some m.cls) (hlink : (Cond.methodLink own index y).before args s = true) (hstat : (Cond.static y).before args s = true) (hinit : (Cond.initialized y.cls).before args s = true)
    (hcode : (Cond.codeWith y bytes maxL ret hh).before args s = true) (hy : y.cls ≠ "java/lang/invoke/MethodHandle" ∧ y.cls ≠ "java/lang/invoke/VarHandle")
    {W9 : Nat} {Pre : Pt → Array Value → Prop} {Post : Pt → Array Value → Option Value → Pt → Prop} {PostX : Pt → Array Value → Addr → Pt → Prop} (hK : vx_Back l R p e below s args y 3 W9 Pre Post PostX)
    {g : JFrame} (hg : g.method = m) (hsize : g.locals.size = c.maxLocals) {argsL rest : List Value} (hlen : ∀ sig, parseMethodDescriptor y.desc = some sig → argsL.length = sig.parameters.length)
    (hstack : g.stack = argsL.reverse ++ rest) (hW : 2 * g.monitorRoom + (rest.map fun v => v.category).sum ≤ W9) (hdg : decode c.code g.pc = .ok (.invokestatic index, 3))
    (hpre : ∀ vm₁, s.WarmedH vm₁ → Pre ⟨T.setVm vm₁, locs, cells, slots⟩ argsL.toArray) :
    (∃ (v : Option Value) (vm₁ : Vm) (B : Pt), s.WarmedH vm₁ ∧ Stand p l e R s m args below meth c B.U B.locs B.cells B.slots ∧ Post ⟨T.setVm vm₁, locs, cells, slots⟩ argsL.toArray v B ∧
      ∀ target, Steps p.tables e below (B.U.setTop { g with pc := g.pc + 3, stack := v.toList ++ rest }) target → Steps p.tables e below (T.setTop g) target) ∨
    (∃ (q : Addr) (vm₁ : Vm) (B : Pt), s.WarmedH vm₁ ∧ Stand p l e R s m args below meth c B.U B.locs B.cells B.slots ∧ PostX ⟨T.setVm vm₁, locs, cells, slots⟩ argsL.toArray q B ∧
      Steps p.tables e below (T.setTop g) ((B.U.setTop { g with stack := rest }).pushFrame (.throwing q))) := by
  obtain ⟨mk, methM, cM, hnamed, hmethM, -, -, -, -, -, -, hsigM⟩ := Cond.codeWith_spec hcode
  have hstatic : methM.isStatic = true := Cond.static_spec hnamed hmethM hstat
  obtain ⟨kP, hkP, -⟩ := className_of_methodNamed hnamed
  have hinitP : kP.init = .initialized := Cond.initialized_spec (findClass_of_methodNamed hnamed) hkP hinit
  obtain ⟨vm₁, X₁, hstep₁⟩ := X.invokestatic hexec hown hlink hnamed hmethM hstatic hkP hinitP hy (g := g) hg (argsL := argsL) (rest := rest) (hlen _ hsigM) hstack hdg
  rcases hK m meth c ⟨T.setVm vm₁, locs, cells, slots⟩ { g with stack := rest } (.invokestatic index) mk argsL.toArray X₁ hg hsize hdg hW (X₁.named hnamed) (hpre vm₁ X₁.warmed) with ⟨v, B, X', hpost, hsteps⟩ | ⟨q, B, X', hpost, hsteps⟩
  · exact Or.inl ⟨v, vm₁, B, X₁.warmed, X', hpost, fun target h => hstep₁ _ fun acts => by rw [doInvoke_state]; exact hsteps.trans h⟩
  · exact Or.inr ⟨q, vm₁, B, X₁.warmed, X', hpost, hstep₁ _ fun acts => by rw [doInvoke_state]; exact hsteps⟩
theorem vx_callVW (X : Stand p l e R s m args below meth c T locs cells slots) (hexec : p.tables.exec = Jvm.exec) {own C : String} {index : Nat} {y : MethodName} {bytes : ByteArray} {maxL : Nat} {ret : Option FieldType} {hh : List (Nat × Nat × Nat × Nat)}
    (hown : s.vm.findClass own = some m.cls) (hlink : (Cond.methodLink own index y).before args s = true) (hinst : (Cond.instanceMethod y).before args s = true) (hsel : (Cond.selects C y y).before args s = true)
    (hcode : (Cond.codeWith y bytes maxL ret hh).before args s = true) (hy : y.cls ≠ "java/lang/invoke/MethodHandle" ∧ y.cls ≠ "java/lang/invoke/VarHandle")
    {W9 : Nat} {Pre : Pt → Array Value → Prop} {Post : Pt → Array Value → Option Value → Pt → Prop} (hK : Back l R p e below s args y 3 W9 Pre Post)
    {b : Addr} {cellB : Cell} (hcell : T.heap[b]? = some cellB) (hobj : cellB.vm.isStatics = false) (hcls : s.vm.findClass C = some cellB.cls)
    {g : JFrame} (hg : g.method = m) (hsize : g.locals.size = c.maxLocals) {argsL rest : List Value} (hlen : ∀ sig, parseMethodDescriptor y.desc = some sig → argsL.length = sig.parameters.length)
    (hstack : g.stack = argsL.reverse ++ .ref b :: rest) (hW : 2 * g.monitorRoom + (rest.map fun v => v.category).sum ≤ W9) (hdg : decode c.code g.pc = .ok (.invokevirtual index, 3))
    (hpre : ∀ vm₁, s.WarmedH vm₁ → Pre ⟨T.setVm vm₁, locs, cells, slots⟩ (Value.ref b :: argsL).toArray) :
    ∃ (v : Option Value) (vm₁ : Vm) (B : Pt), s.WarmedH vm₁ ∧ Stand p l e R s m args below meth c B.U B.locs B.cells B.slots ∧ Post ⟨T.setVm vm₁, locs, cells, slots⟩ (Value.ref b :: argsL).toArray v B ∧
      ∀ target, Steps p.tables e below (B.U.setTop { g with pc := g.pc + 3, stack := v.toList ++ rest }) target → Steps p.tables e below (T.setTop g) target := by
  obtain ⟨mk, methM, hnamed, hmethM, hstM, habM⟩ := Cond.instanceMethod_spec hinst
  obtain ⟨m8, methM', cM, hn8, hmethM', -, -, -, -, -, -, hsigM⟩ := Cond.codeWith_spec hcode
  cases Option.some.inj (hn8.symm.trans hnamed)
  cases hmethM.symm.trans hmethM'
  obtain ⟨c2, r2, m2, q1, q2, q3, q4, kP, hkP, hkPi⟩ := Cond.selects_spec hsel
  cases hcls.symm.trans q1
  cases (State.methodFound?_of_named hnamed hy).symm.trans q2
  cases hnamed.symm.trans q3
  have hselP : selectMethod e.platform s.vm cellB.cls mk = .method mk := by rw [Launch.admits_selectMethod X.admits]; exact q4
  obtain ⟨vm₁, X₁, hstep₁⟩ := X.invokevirtual hexec hown hlink hnamed hmethM hstM hkP hkPi hy (a := b) (cell := cellB) hcell
    (fun z h => by rw [h] at hobj; cases hobj) hselP hmethM habM hkP hkPi (g := g) hg (argsL := argsL) (rest := rest) (hlen _ hsigM) hstack hdg
  obtain ⟨v, B, X', hpost, hsteps⟩ := hK m meth c ⟨T.setVm vm₁, locs, cells, slots⟩ { g with stack := rest } (.invokevirtual index) mk (Value.ref b :: argsL).toArray X₁ hg hsize hdg hW (X₁.named hnamed) (hpre vm₁ X₁.warmed)
  exact ⟨v, vm₁, B, X₁.warmed, X', hpost, fun target h => hstep₁ _ fun acts => by rw [doInvoke_state]; exact hsteps.trans h⟩
abbrev vx_CVW (R : Room) (s : State) (args : Array Value) (own C : String) (index : Nat) (y : MethodName) (bytes : ByteArray) (maxL : Nat) (ret : Option FieldType) (hh : List (Nat × Nat × Nat × Nat)) (ws : List Cond) (rm : Room) (mc ms n : Nat) : Prop :=
  (rm.cells = mc ∧ rm.slots = ms ∧ rm.frames + 1 ≤ R.frames ∧ 8 + (maxL + 11) + rm.locals ≤ R.locals ∧ (∀ w ∈ ws, ∀ (a' : Array Value) (U : State), s.WarmedH U.vm → w.before a' U = true) ∧ Cond.codeWith y bytes maxL ret hh ∈ ws) ∧
  (Cond.codeWith y bytes maxL ret hh).before args s = true ∧ (Cond.initialized y.cls).before args s = true ∧ (y.cls ≠ "java/lang/invoke/MethodHandle" ∧ y.cls ≠ "java/lang/invoke/VarHandle") ∧
  (∀ sig, parseMethodDescriptor y.desc = some sig → n = sig.parameters.length) ∧ (Cond.methodLink own index y).before args s = true ∧ (Cond.instanceMethod y).before args s = true ∧ (Cond.selects C y y).before args s = true
theorem vx_cwVW {own C : String} {index maxL mc ms : Nat} {y : MethodName} {bytes : ByteArray} {ret : Option FieldType} {hh : List (Nat × Nat × Nat × Nat)} {Ts ws ws' : List Cond} {rm : Room} (n : Nat) (ht : ∀ w ∈ Ts, w.before args s = true) (hT : GoodIn Ts (wsV own index C y ws)) (hw : ws = Cond.codeWith y bytes maxL ret hh :: ws') (hrc : rm.cells = mc) (hrs : rm.slots = ms)
    (hd : y.cls = C ∧ y.cls ≠ "java/lang/invoke/MethodHandle" ∧ y.cls ≠ "java/lang/invoke/VarHandle" ∧ (parseMethodDescriptor y.desc).map (fun d => d.parameters.length) = some n) (hR : rm.frames + 1 ≤ R.frames ∧ 8 + (maxL + 11) + rm.locals ≤ R.locals) :
    vx_CVW R s args own C index y bytes maxL ret hh ws rm mc ms n := by
  obtain ⟨hC, hd⟩ := hd
  subst hC
  have ok : ∀ w ∈ wsV own index y.cls y ws, w.before args s = true := fun w h => ht w (hT w h).1
  have hG : GoodIn Ts ws := fun w h => hT w (by unfold wsV; exact List.mem_append_right _ h)
  have hc : Cond.codeWith y bytes maxL ret hh ∈ ws := by rw [hw]; exact List.mem_cons_self
  refine ⟨⟨hrc, hrs, hR.1, hR.2, pay_in ht hG, hc⟩, ht _ (hG _ hc).1, ok _ (by simp [wsV]), ⟨hd.1, hd.2.1⟩, fun sig h => ?_, ok _ (by simp [wsV]), ok _ (by simp [wsV]), ok _ (by simp [wsV])⟩
  have h2 := hd.2.2
  rw [h] at h2
  exact (Option.some.inj h2).symm
theorem vx_runVW {y : MethodName} {bytes cc : ByteArray} {maxL nL mc ms n index : Nat} {ret : Option FieldType} {hh : List (Nat × Nat × Nat × Nat)} {ws : List Cond} {rm : Room} {Pc : Array Value → State → Prop} {Qc : Array Value → State → Outcome → State → Prop} {free : Addr → Prop} {Ts : List Cond} {own C : String} {b : Addr} {As rest : List Value} {g : JFrame}
    (S : CallFix p m c cc nL s args Ts own) (hM : Met l y ws rm Pc Qc mc ms free) (cw : vx_CVW R s args own C index y bytes maxL ret hh ws rm mc ms n) (hp : PreV s H C b Pc As)
    (hg : g.method = m) (hn : As.length = n) (hsize : g.locals.size = nL) (hstack : g.stack = As.reverse ++ .ref b :: rest) (hW : 2 * g.monitorRoom + (rest.map fun v => v.category).sum ≤ 8) (hdg : decode cc g.pc = .ok (.invokevirtual index, 3)) (hf : cells + mc ≤ R.cells ∧ slots + ms ≤ R.slots) :
    va_Run p l e R s m args below meth c H locs cells slots mc ms g rest (Qc (Value.ref b :: As).toArray) free := by
  obtain ⟨⟨hrc, hrs, hfr, hlo, hws, hcw⟩, hcode, hini, hy, hlen, hl, hin, hse⟩ := cw
  have hK : Back l R p e below s args y 3 8 (PreOf R mc ms Pc) (PostOf Qc mc ms free) := va_backW (hh := hh) (bytes := bytes) (maxL := maxL) (ret := ret) hM hp.1 hrc hrs hfr hlo hws hcw (fun a' U hW => word_at hW (Or.inl (by first | rfl | simp [Cond.onTables, Cond.keeps, Cond.steady])) hini)
  obtain ⟨hx, hb, hml, ho, -⟩ := S
  obtain ⟨-, ⟨cellB, hcB, hoB, hclB⟩, hPc⟩ := hp
  intro T hT X
  obtain ⟨v, vm₁, ⟨U', l2, c2, s2⟩, hW₁, X', ⟨g', mk, t, L, e1, e2, hq, h1, hL, h2, h3⟩, st⟩ := vx_callVW X hx (C := C) (hh := hh) (bytes := bytes) (maxL := maxL) (ret := ret) ho hl hin hse hcode hy hK (by rw [hT]; exact hcB) hoB hclB hg (hsize.trans hml.symm) (argsL := As) (rest := rest) (fun sig h => hn.trans (hlen sig h)) hstack hW (by rw [hb]; exact hdg)
    (fun vm₁ hW₁ => ⟨hf.1, hf.2, hPc (T.setVm vm₁) hT hW₁⟩)
  dsimp only [Pt.U, Pt.locs, Pt.cells, Pt.slots] at X' e1 e2 h1 h2 h3 st
  subst h1; subst h2; subst h3
  exact ⟨v, (T.setVm vm₁).calling g' mk (Value.ref b :: As).toArray, t, U', L, hT, X', hL, e1, e2, hq, st⟩
section
variable {y : MethodName} {bytes cc : ByteArray} {maxL nL mc ms n index : Nat} {ret : Option FieldType} {ws : List Cond} {rm : Room} {Pc : Array Value → State → Prop} {Qc : Array Value → State → Outcome → State → Prop} {XC : String → State → State → Prop} {free : Addr → Prop} {Ts : List Cond} {own C : String} {b : Addr} {As rest : List Value} {g : JFrame}
theorem vx_runVX {hh : List (Nat × Nat × Nat × Nat)} (S : CallFix p m c cc nL s args Ts own) (hM : vx_Met l y ws rm Pc Qc XC mc ms free) (cw : vx_CVW R s args own C index y bytes maxL ret hh ws rm mc ms n) (hp : PreV s H C b Pc As)
    (hg : g.method = m) (hn : As.length = n) (hsize : g.locals.size = nL) (hstack : g.stack = As.reverse ++ .ref b :: rest) (hW : 2 * g.monitorRoom + (rest.map fun v => v.category).sum ≤ 8) (hdg : decode cc g.pc = .ok (.invokevirtual index, 3)) (hf : cells + mc ≤ R.cells ∧ slots + ms ≤ R.slots) :
    vx_Run p l e R s m args below meth c H locs cells slots mc ms g rest (Qc (Value.ref b :: As).toArray) XC free := by
  obtain ⟨⟨hrc, hrs, hfr, hlo, hws, hcw⟩, hcode, hini, hy, hlen, hl, hin, hse⟩ := cw
  have hK : vx_Back l R p e below s args y 3 8 (PreOf R mc ms Pc) (PostOf Qc mc ms free) (vx_Post XC mc ms free) := vx_backW (hh := hh) (bytes := bytes) (maxL := maxL) (ret := ret) hM hp.1 hrc hrs hfr hlo hws hcw (fun a' U hW => word_at hW (Or.inl (by first | rfl | simp [Cond.onTables, Cond.keeps, Cond.steady])) hini)
  obtain ⟨hx, hb, hml, ho, -⟩ := S
  obtain ⟨-, ⟨cellB, hcB, hoB, hclB⟩, hPc⟩ := hp
  intro T hT X
  rcases vx_callVX X hx (C := C) (hh := hh) (bytes := bytes) (maxL := maxL) (ret := ret) ho hl hin hse hcode hy hK (by rw [hT]; exact hcB) hoB hclB hg (hsize.trans hml.symm) (argsL := As) (rest := rest) (fun sig h => hn.trans (hlen sig h)) hstack hW (by rw [hb]; exact hdg)
    (fun vm₁ hW₁ => ⟨hf.1, hf.2, hPc (T.setVm vm₁) hT hW₁⟩) with ⟨v, vm₁, ⟨U', l2, c2, s2⟩, hW₁, X', ⟨g', mk, t, L, e1, e2, hq, h1, hL, h2, h3⟩, st⟩ | ⟨q, vm₁, ⟨U', l2, c2, s2⟩, hW₁, X', ⟨g', mk, t, L, E, ce, e1, e2, hq, hce, hcv, hcl, h1, hL, h2, h3⟩, st⟩
  · dsimp only [Pt.U, Pt.locs, Pt.cells, Pt.slots] at X' e1 e2 h1 h2 h3 st
    subst h1; subst h2; subst h3
    exact Or.inl ⟨v, (T.setVm vm₁).calling g' mk (Value.ref b :: As).toArray, t, U', L, hT, X', hL, e1, e2, hq, st⟩
  · dsimp only [Pt.U, Pt.locs, Pt.cells, Pt.slots] at X' e1 e2 h1 h2 h3 st hcl
    subst h1; subst h2; subst h3
    exact Or.inr ⟨q, (T.setVm vm₁).calling g' mk (Value.ref b :: As).toArray, t, U', L, E, ce, hT, X', hL, e1, e2, hq, hce, hcv, vx_cls hW₁ hcl, st⟩
theorem vx_runSX {hh : List (Nat × Nat × Nat × Nat)} (S : CallFix p m c cc nL s args Ts own) (hM : vx_Met l y ws rm Pc Qc XC mc ms free) (cw : vx_CSW R s args own index y bytes maxL ret hh ws rm mc ms n) (hp : PreS s H Pc As)
    (hg : g.method = m) (hn : As.length = n) (hsize : g.locals.size = nL) (hstack : g.stack = As.reverse ++ rest) (hW : 2 * g.monitorRoom + (rest.map fun v => v.category).sum ≤ 8) (hdg : decode cc g.pc = .ok (.invokestatic index, 3)) (hf : cells + mc ≤ R.cells ∧ slots + ms ≤ R.slots) :
    vx_Run p l e R s m args below meth c H locs cells slots mc ms g rest (Qc As.toArray) XC free := by
  obtain ⟨⟨hrc, hrs, hfr, hlo, hws, hcw⟩, hcode, hini, hy, hlen, hl, hstt⟩ := cw
  have hK : vx_Back l R p e below s args y 3 8 (PreOf R mc ms Pc) (PostOf Qc mc ms free) (vx_Post XC mc ms free) := vx_backW (hh := hh) (bytes := bytes) (maxL := maxL) (ret := ret) hM hp.1 hrc hrs hfr hlo hws hcw (fun a' U hW => word_at hW (Or.inl (by first | rfl | simp [Cond.onTables, Cond.keeps, Cond.steady])) hini)
  obtain ⟨hx, hb, hml, ho, -⟩ := S
  intro T hT X
  rcases vx_callSX X hx (hh := hh) (bytes := bytes) (maxL := maxL) (ret := ret) ho hl hstt hini hcode hy hK hg (hsize.trans hml.symm) (argsL := As) (rest := rest) (fun sig h => hn.trans (hlen sig h)) hstack hW (by rw [hb]; exact hdg)
    (fun vm₁ hW₁ => ⟨hf.1, hf.2, hp.2 (T.setVm vm₁) hT hW₁⟩) with ⟨v, vm₁, ⟨U', l2, c2, s2⟩, hW₁, X', ⟨g', mk, t, L, e1, e2, hq, h1, hL, h2, h3⟩, st⟩ | ⟨q, vm₁, ⟨U', l2, c2, s2⟩, hW₁, X', ⟨g', mk, t, L, E, ce, e1, e2, hq, hce, hcv, hcl, h1, hL, h2, h3⟩, st⟩
  · dsimp only [Pt.U, Pt.locs, Pt.cells, Pt.slots] at X' e1 e2 h1 h2 h3 st
    subst h1; subst h2; subst h3
    exact Or.inl ⟨v, (T.setVm vm₁).calling g' mk As.toArray, t, U', L, hT, X', hL, e1, e2, hq, st⟩
  · dsimp only [Pt.U, Pt.locs, Pt.cells, Pt.slots] at X' e1 e2 h1 h2 h3 st hcl
    subst h1; subst h2; subst h3
    exact Or.inr ⟨q, (T.setVm vm₁).calling g' mk As.toArray, t, U', L, E, ce, hT, X', hL, e1, e2, hq, hce, hcv, vx_cls hW₁ hcl, st⟩
end
end VXH
theorem vx_ofWH {l : Launch} {y : MethodName} {ws ws' : List Cond} {rm : Room} {Pc : Array Value → State → Prop} {Qc : Array Value → State → Outcome → State → Prop} {XC : String → State → State → Prop} {mc ms : Nat} {free : Addr → Prop} {cc : ByteArray} {maxL : Nat} {ret : Option FieldType} {hh : List (Nat × Nat × Nat × Nat)}
    (hy : plainName y.cls = true) (hw : ws = Cond.codeWith y cc maxL ret hh :: ws')
    (body : ∀ p e s m args below meth c s₁, BodyLoose p l y (headSpec ws rm) cc maxL ret e s m args below meth c s₁ → c.maxLocals = maxL → Pc args s →
      W p l e (headSpec ws rm).room s m args below meth c s.heap [] 0 0 (vx_MQ below Qc XC args s mc ms free) (entryFrame m args maxL)) : vx_Met l y ws rm Pc Qc XC mc ms free := by
  refine MetFree.of_bodyS (code := cc) (maxLocals := maxL) (ret := ret) hy ?_ ?_
  · intro args s m h hn
    obtain ⟨m9, meth, c, hn9, h1, h2, h3, h4, -, h5, h6, -⟩ := Cond.codeWith_spec (atoms_spec (ws := ws) h _ (by rw [hw]; exact List.mem_cons_self))
    cases hn.symm.trans hn9
    exact ⟨meth, c, h1, h2, h3, h4, h5, h6⟩
  · intro p e s m args below meth c s₁ B hml hP _
    have hh0 : s₁.heap = s.heap := by rw [B.state]; rfl
    obtain ⟨t, a1, o, b1, b2, b3⟩ := body p e s m args below meth c s₁ B hml hP s₁ hh0 (Stand.of_body B)
    exact ⟨t, o, a1, b1, b2, b3⟩
/-! ===== END ===== -/

def vx_atN (n : Nat) : List Cond := (Bundle.npeArmAtoms n).filter vx_no
def vx_atM (X : String) (names : List String) : List Cond := (Bundle.messageArmAtoms X names).filter vx_no
end
section
def RX0 : String := "StandTests$Foot"
def TX0 : u_T := fun k => match k with
  | 0 => ("StandTests$Foot", "number", "I", true)
  | 1 => ("StandTests$Foot", "x", "J", true)
  | _ => ("StandTests$Foot", "y", "J", true)
def tyX0 : Nat → FieldType := fun k => match k with
  | 0 => .int
  | 1 => .long
  | _ => .long
abbrev wsX00 : List Cond := u_ws RX0 TX0 3
theorem nmX0 : ∀ a, a < 3 → ∀ b, b < 3 → a ≠ b → (TX0 a).2.1 ≠ (TX0 b).2.1 := by decide +kernel
theorem tyX0_ok : ∀ k, k < 3 → parseFieldDescriptor (TX0 k).2.2.1 = some (tyX0 k) := by decide +kernel
abbrev cX0_init : ByteArray := prog_2_method_1_code
def yX0_init : MethodName := ⟨RX0, "<init>", "(IJJ)V"⟩
abbrev cX0_isBefore : ByteArray := prog_2_method_2_code
def yX0_isBefore : MethodName := ⟨RX0, "isBefore", "(LStandTests$Foot;)Z"⟩
abbrev cX0_isAt : ByteArray := prog_2_method_3_code
def yX0_isAt : MethodName := ⟨RX0, "isAt", "(LStandTests$Foot;)Z"⟩
abbrev cX0_turn : ByteArray := prog_2_method_4_code
def yX0_turn : MethodName := ⟨RX0, "turn", "(LStandTests$Foot;LStandTests$Foot;)J"⟩
abbrev cX0_squareTo : ByteArray := prog_2_method_5_code
def yX0_squareTo : MethodName := ⟨RX0, "squareTo", "(LStandTests$Foot;)J"⟩
abbrev cX0_seesMoreRightOf : ByteArray := prog_2_method_6_code
def yX0_seesMoreRightOf : MethodName := ⟨RX0, "seesMoreRightOf", "(LStandTests$Foot;LStandTests$Foot;)Z"⟩
def RX1 : String := "StandTests$Load"
def TX1 : u_T := fun k => match k with
  | 0 => ("StandTests$Load", "x", "J", true)
  | 1 => ("StandTests$Load", "y", "J", true)
  | 2 => ("StandTests$Load", "z", "J", true)
  | 3 => ("StandTests$Load", "grams", "J", true)
  | 4 => ("StandTests$Load", "drawer", "I", false)
  | _ => ("StandTests$Load", "out", "J", false)
def tyX1 : Nat → FieldType := fun k => match k with
  | 0 => .long
  | 1 => .long
  | 2 => .long
  | 3 => .long
  | 4 => .int
  | _ => .long
abbrev wsX10 : List Cond := u_ws RX1 TX1 6
theorem nmX1 : ∀ a, a < 6 → ∀ b, b < 6 → a ≠ b → (TX1 a).2.1 ≠ (TX1 b).2.1 := by decide +kernel
theorem tyX1_ok : ∀ k, k < 6 → parseFieldDescriptor (TX1 k).2.2.1 = some (tyX1 k) := by decide +kernel
abbrev cX1_init : ByteArray := prog_3_method_1_code
def yX1_init : MethodName := ⟨RX1, "<init>", "(JJJJ)V"⟩
abbrev cX1_placeOn : ByteArray := prog_3_method_2_code
def yX1_placeOn : MethodName := ⟨RX1, "placeOn", "(I)J"⟩
abbrev cX1_momentAbout : ByteArray := prog_3_method_3_code
def yX1_momentAbout : MethodName := ⟨RX1, "momentAbout", "(LStandTests$Side;I)J"⟩
def RX2 : String := "StandTests$Side"
def TX2 : u_T := fun k => match k with
  | 0 => ("StandTests$Side", "from", "LStandTests$Foot;", true)
  | _ => ("StandTests$Side", "to", "LStandTests$Foot;", true)
def tyX2 : Nat → FieldType := fun k => match k with
  | 0 => .object "StandTests$Foot"
  | _ => .object "StandTests$Foot"
abbrev wsX20 : List Cond := u_ws RX2 TX2 2
theorem nmX2 : ∀ a, a < 2 → ∀ b, b < 2 → a ≠ b → (TX2 a).2.1 ≠ (TX2 b).2.1 := by decide +kernel
theorem tyX2_ok : ∀ k, k < 2 → parseFieldDescriptor (TX2 k).2.2.1 = some (tyX2 k) := by decide +kernel
abbrev cX2_init : ByteArray := prog_4_method_1_code
def yX2_init : MethodName := ⟨RX2, "<init>", "(LStandTests$Foot;LStandTests$Foot;)V"⟩
abbrev cX2_turnTo : ByteArray := prog_4_method_2_code
def yX2_turnTo : MethodName := ⟨RX2, "turnTo", "(JJ)J"⟩
def RX3 : String := "StandTests$Trial"
def TX3 : u_T := fun k => match k with
  | 0 => ("StandTests$Trial", "person", "LStandTests$Load;", true)
  | _ => ("StandTests$Trial", "drawersTold", "I", true)
def tyX3 : Nat → FieldType := fun k => match k with
  | 0 => .object "StandTests$Load"
  | _ => .int
abbrev wsX30 : List Cond := u_ws RX3 TX3 2
theorem nmX3 : ∀ a, a < 2 → ∀ b, b < 2 → a ≠ b → (TX3 a).2.1 ≠ (TX3 b).2.1 := by decide +kernel
theorem tyX3_ok : ∀ k, k < 2 → parseFieldDescriptor (TX3 k).2.2.1 = some (tyX3 k) := by decide +kernel
abbrev cX3_init : ByteArray := prog_5_method_1_code
def yX3_init : MethodName := ⟨RX3, "<init>", "(LStandTests$Load;I)V"⟩
def RX4 : String := "StandTests$TrialReader"
def TX4 : u_T := fun k => match k with
  | 0 => ("StandTests$TrialReader", "text", "Ljava/lang/StringBuilder;", true)
  | 1 => ("StandTests$TrialReader", "trials", "Ljava/util/ArrayList;", true)
  | 2 => ("StandTests$TrialReader", "place", "I", false)
  | _ => ("StandTests$TrialReader", "number", "I", false)
def tyX4 : Nat → FieldType := fun k => match k with
  | 0 => .object "java/lang/StringBuilder"
  | 1 => .object "java/util/ArrayList"
  | 2 => .int
  | _ => .int
abbrev wsX40 : List Cond := u_ws RX4 TX4 4
theorem nmX4 : ∀ a, a < 4 → ∀ b, b < 4 → a ≠ b → (TX4 a).2.1 ≠ (TX4 b).2.1 := by decide +kernel
theorem tyX4_ok : ∀ k, k < 4 → parseFieldDescriptor (TX4 k).2.2.1 = some (tyX4 k) := by decide +kernel
abbrev cX4_init : ByteArray := prog_6_method_1_code
def yX4_init : MethodName := ⟨RX4, "<init>", "(Ljava/lang/StringBuilder;)V"⟩
abbrev cX4_readTrials : ByteArray := prog_6_method_2_code
def yX4_readTrials : MethodName := ⟨RX4, "readTrials", "()Z"⟩
abbrev cX4_readTrial : ByteArray := prog_6_method_3_code
def yX4_readTrial : MethodName := ⟨RX4, "readTrial", "()Z"⟩
abbrev cX4_readSigned : ByteArray := prog_6_method_4_code
def yX4_readSigned : MethodName := ⟨RX4, "readSigned", "()Z"⟩
abbrev cX4_readDigits : ByteArray := prog_6_method_5_code
def yX4_readDigits : MethodName := ⟨RX4, "readDigits", "()Z"⟩
abbrev cX4_digitHere : ByteArray := prog_6_method_6_code
def yX4_digitHere : MethodName := ⟨RX4, "digitHere", "()I"⟩
abbrev cX4_skip : ByteArray := prog_6_method_7_code
def yX4_skip : MethodName := ⟨RX4, "skip", "(C)Z"⟩
def RX5 : String := "StandTests"
def TX5 : u_T := fun k => match k with
  | 0 => ("StandTests", "parts", "Ljava/util/ArrayList;", true)
  | 1 => ("StandTests", "feet", "Ljava/util/ArrayList;", true)
  | 2 => ("StandTests", "sides", "Ljava/util/ArrayList;", true)
  | 3 => ("StandTests", "text", "Ljava/lang/StringBuilder;", true)
  | 4 => ("StandTests", "nobody", "LStandTests$Load;", true)
  | 5 => ("StandTests", "trials", "Ljava/util/ArrayList;", false)
  | 6 => ("StandTests", "leaning", "LStandTests$Load;", false)
  | _ => ("StandTests", "drawerCount", "I", false)
def tyX5 : Nat → FieldType := fun k => match k with
  | 0 => .object "java/util/ArrayList"
  | 1 => .object "java/util/ArrayList"
  | 2 => .object "java/util/ArrayList"
  | 3 => .object "java/lang/StringBuilder"
  | 4 => .object "StandTests$Load"
  | 5 => .object "java/util/ArrayList"
  | 6 => .object "StandTests$Load"
  | _ => .int
abbrev wsX50 : List Cond := u_ws RX5 TX5 8
theorem nmX5 : ∀ a, a < 8 → ∀ b, b < 8 → a ≠ b → (TX5 a).2.1 ≠ (TX5 b).2.1 := by decide +kernel
theorem tyX5_ok : ∀ k, k < 8 → parseFieldDescriptor (TX5 k).2.2.1 = some (tyX5 k) := by decide +kernel
abbrev cX5_init : ByteArray := prog_1_method_1_code
def yX5_init : MethodName := ⟨RX5, "<init>", "()V"⟩
abbrev cX5_part : ByteArray := prog_1_method_2_code
def yX5_part : MethodName := ⟨RX5, "part", "(JJJJ)I"⟩
abbrev cX5_foot : ByteArray := prog_1_method_3_code
def yX5_foot : MethodName := ⟨RX5, "foot", "(JJ)Z"⟩
abbrev cX5_drawer : ByteArray := prog_1_method_4_code
def yX5_drawer : MethodName := ⟨RX5, "drawer", "(IJ)Z"⟩
abbrev cX5_person : ByteArray := prog_1_method_5_code
def yX5_person : MethodName := ⟨RX5, "person", "(JJJ)Z"⟩
abbrev cX5_centre : ByteArray := prog_1_method_6_code
def yX5_centre : MethodName := ⟨RX5, "centre", "(II)J"⟩
abbrev cX5_side : ByteArray := prog_1_method_7_code
def yX5_side : MethodName := ⟨RX5, "side", "(I)I"⟩
abbrev cX5_tips : ByteArray := prog_1_method_8_code
def yX5_tips : MethodName := ⟨RX5, "tips", "(I)I"⟩
abbrev cX5_moment : ByteArray := prog_1_method_9_code
def yX5_moment : MethodName := ⟨RX5, "moment", "(II)J"⟩
abbrev cX5_most : ByteArray := prog_1_method_10_code
def yX5_most : MethodName := ⟨RX5, "most", "()I"⟩
abbrev cX5_unit : ByteArray := prog_1_method_11_code
def yX5_unit : MethodName := ⟨RX5, "unit", "(I)Z"⟩
abbrev cX5_rules : ByteArray := prog_1_method_12_code
def yX5_rules : MethodName := ⟨RX5, "rules", "()I"⟩
abbrev cX5_test : ByteArray := prog_1_method_13_code
def yX5_test : MethodName := ⟨RX5, "test", "(II)I"⟩
abbrev cX5_anchor : ByteArray := prog_1_method_14_code
def yX5_anchor : MethodName := ⟨RX5, "anchor", "()Z"⟩
abbrev cX5_wobble : ByteArray := prog_1_method_15_code
def yX5_wobble : MethodName := ⟨RX5, "wobble", "(JJJJ)D"⟩
abbrev cX5_bend : ByteArray := prog_1_method_16_code
def yX5_bend : MethodName := ⟨RX5, "bend", "(DDDD)D"⟩
abbrev cX5_creep : ByteArray := prog_1_method_17_code
def yX5_creep : MethodName := ⟨RX5, "creep", "(I)D"⟩
abbrev cX5_gap : ByteArray := prog_1_method_18_code
def yX5_gap : MethodName := ⟨RX5, "gap", "(J)I"⟩
abbrev cX5_isWithin : ByteArray := prog_1_method_19_code
def yX5_isWithin : MethodName := ⟨RX5, "isWithin", "(JJJ)Z"⟩
abbrev cX5_isSize : ByteArray := prog_1_method_20_code
def yX5_isSize : MethodName := ⟨RX5, "isSize", "(DDD)Z"⟩
abbrev cX5_needPlace : ByteArray := prog_1_method_21_code
def yX5_needPlace : MethodName := ⟨RX5, "needPlace", "(J)V"⟩
abbrev cX5_needGrams : ByteArray := prog_1_method_22_code
def yX5_needGrams : MethodName := ⟨RX5, "needGrams", "(J)V"⟩
abbrev cX5_needHeight : ByteArray := prog_1_method_23_code
def yX5_needHeight : MethodName := ⟨RX5, "needHeight", "(J)V"⟩
abbrev cX5_needPolygon : ByteArray := prog_1_method_24_code
def yX5_needPolygon : MethodName := ⟨RX5, "needPolygon", "()V"⟩
abbrev cX5_commonDivisor : ByteArray := prog_1_method_25_code
def yX5_commonDivisor : MethodName := ⟨RX5, "commonDivisor", "(JJ)J"⟩
abbrev cX5_openDrawers : ByteArray := prog_1_method_26_code
def yX5_openDrawers : MethodName := ⟨RX5, "openDrawers", "(LStandTests$Trial;)I"⟩
abbrev cX5_verdict : ByteArray := prog_1_method_27_code
def yX5_verdict : MethodName := ⟨RX5, "verdict", "(ILStandTests$Load;)I"⟩
abbrev cX5_momentOver : ByteArray := prog_1_method_28_code
def yX5_momentOver : MethodName := ⟨RX5, "momentOver", "(LStandTests$Side;ILStandTests$Load;)J"⟩
abbrev cX5_layOutSides : ByteArray := prog_1_method_29_code
def yX5_layOutSides : MethodName := ⟨RX5, "layOutSides", "(LStandTests$Foot;)V"⟩
abbrev cX5_firstCorner : ByteArray := prog_1_method_30_code
def yX5_firstCorner : MethodName := ⟨RX5, "firstCorner", "(LStandTests$Foot;)LStandTests$Foot;"⟩
abbrev cX5_cornersAgainstClock : ByteArray := prog_1_method_31_code
def yX5_cornersAgainstClock : MethodName := ⟨RX5, "cornersAgainstClock", "(LStandTests$Foot;)Ljava/util/ArrayList;"⟩
abbrev cX5_cornerAfter : ByteArray := prog_1_method_32_code
def yX5_cornerAfter : MethodName := ⟨RX5, "cornerAfter", "(LStandTests$Foot;)LStandTests$Foot;"⟩
def RX6 : String := "StandTestsModel"
def TX6 : u_T := fun k => match k with
  | 0 => ("StandTestsModel", "code", "I", false)
  | 1 => ("StandTestsModel", "parts", "I", false)
  | 2 => ("StandTestsModel", "px", "[J", true)
  | 3 => ("StandTestsModel", "py", "[J", true)
  | 4 => ("StandTestsModel", "pz", "[J", true)
  | 5 => ("StandTestsModel", "grams", "[J", true)
  | 6 => ("StandTestsModel", "outs", "[J", true)
  | 7 => ("StandTestsModel", "feet", "I", false)
  | 8 => ("StandTestsModel", "fx", "[J", true)
  | 9 => ("StandTestsModel", "fy", "[J", true)
  | 10 => ("StandTestsModel", "drawers", "I", false)
  | 11 => ("StandTestsModel", "order", "[I", true)
  | 12 => ("StandTestsModel", "personX", "J", false)
  | 13 => ("StandTestsModel", "personY", "J", false)
  | 14 => ("StandTestsModel", "personGrams", "J", false)
  | 15 => ("StandTestsModel", "corners", "I", false)
  | 16 => ("StandTestsModel", "corner", "[I", true)
  | 17 => ("StandTestsModel", "typed", "[I", true)
  | 18 => ("StandTestsModel", "size", "I", false)
  | 19 => ("StandTestsModel", "at", "I", false)
  | 20 => ("StandTestsModel", "failed", "I", false)
  | 21 => ("StandTestsModel", "tests", "I", false)
  | 22 => ("StandTestsModel", "told", "[I", true)
  | _ => ("StandTestsModel", "draft", "[I", true)
def tyX6 : Nat → FieldType := fun k => match k with
  | 0 => .int
  | 1 => .int
  | 2 => .array .long
  | 3 => .array .long
  | 4 => .array .long
  | 5 => .array .long
  | 6 => .array .long
  | 7 => .int
  | 8 => .array .long
  | 9 => .array .long
  | 10 => .int
  | 11 => .array .int
  | 12 => .long
  | 13 => .long
  | 14 => .long
  | 15 => .int
  | 16 => .array .int
  | 17 => .array .int
  | 18 => .int
  | 19 => .int
  | 20 => .int
  | 21 => .int
  | 22 => .array .int
  | _ => .array .int
abbrev wsX60 : List Cond := u_ws RX6 TX6 24
theorem nmX6 : ∀ a, a < 24 → ∀ b, b < 24 → a ≠ b → (TX6 a).2.1 ≠ (TX6 b).2.1 := by decide +kernel
theorem tyX6_ok : ∀ k, k < 24 → parseFieldDescriptor (TX6 k).2.2.1 = some (tyX6 k) := by decide +kernel
abbrev cX6_init : ByteArray := prog_8_method_1_code
def yX6_init : MethodName := ⟨RX6, "<init>", "()V"⟩
abbrev cX6_thrown : ByteArray := prog_8_method_2_code
def yX6_thrown : MethodName := ⟨RX6, "thrown", "()I"⟩
abbrev cX6_isIn : ByteArray := prog_8_method_3_code
def yX6_isIn : MethodName := ⟨RX6, "isIn", "(JJJ)Z"⟩
abbrev cX6_isPlace : ByteArray := prog_8_method_4_code
def yX6_isPlace : MethodName := ⟨RX6, "isPlace", "(J)Z"⟩
abbrev cX6_part : ByteArray := prog_8_method_5_code
def yX6_part : MethodName := ⟨RX6, "part", "(JJJJ)I"⟩
abbrev cX6_foot : ByteArray := prog_8_method_6_code
def yX6_foot : MethodName := ⟨RX6, "foot", "(JJ)Z"⟩
abbrev cX6_drawer : ByteArray := prog_8_method_7_code
def yX6_drawer : MethodName := ⟨RX6, "drawer", "(IJ)Z"⟩
abbrev cX6_person : ByteArray := prog_8_method_8_code
def yX6_person : MethodName := ⟨RX6, "person", "(JJJ)Z"⟩
abbrev cX6_turn : ByteArray := prog_8_method_9_code
def yX6_turn : MethodName := ⟨RX6, "turn", "(IIJJ)J"⟩
abbrev cX6_isSide : ByteArray := prog_8_method_10_code
def yX6_isSide : MethodName := ⟨RX6, "isSide", "(II)Z"⟩
abbrev cX6_next : ByteArray := prog_8_method_11_code
def yX6_next : MethodName := ⟨RX6, "next", "(I)I"⟩
abbrev cX6_wind : ByteArray := prog_8_method_12_code
def yX6_wind : MethodName := ⟨RX6, "wind", "()V"⟩
abbrev cX6_noPolygon : ByteArray := prog_8_method_13_code
def yX6_noPolygon : MethodName := ⟨RX6, "noPolygon", "()Z"⟩
abbrev cX6_common : ByteArray := prog_8_method_14_code
def yX6_common : MethodName := ⟨RX6, "common", "(JJ)J"⟩
abbrev cX6_centre : ByteArray := prog_8_method_15_code
def yX6_centre : MethodName := ⟨RX6, "centre", "(II)J"⟩
abbrev cX6_isOut : ByteArray := prog_8_method_16_code
def yX6_isOut : MethodName := ⟨RX6, "isOut", "(II)Z"⟩
abbrev cX6_momentOf : ByteArray := prog_8_method_17_code
def yX6_momentOf : MethodName := ⟨RX6, "momentOf", "(IIJJJ)J"⟩
abbrev cX6_tipping : ByteArray := prog_8_method_18_code
def yX6_tipping : MethodName := ⟨RX6, "tipping", "(IJJJ)I"⟩
abbrev cX6_side : ByteArray := prog_8_method_19_code
def yX6_side : MethodName := ⟨RX6, "side", "(I)I"⟩
abbrev cX6_tips : ByteArray := prog_8_method_20_code
def yX6_tips : MethodName := ⟨RX6, "tips", "(I)I"⟩
abbrev cX6_moment : ByteArray := prog_8_method_21_code
def yX6_moment : MethodName := ⟨RX6, "moment", "(II)J"⟩
abbrev cX6_most : ByteArray := prog_8_method_22_code
def yX6_most : MethodName := ⟨RX6, "most", "()I"⟩
abbrev cX6_unit : ByteArray := prog_8_method_23_code
def yX6_unit : MethodName := ⟨RX6, "unit", "(I)Z"⟩
abbrev cX6_here : ByteArray := prog_8_method_24_code
def yX6_here : MethodName := ⟨RX6, "here", "()I"⟩
abbrev cX6_fail : ByteArray := prog_8_method_25_code
def yX6_fail : MethodName := ⟨RX6, "fail", "()V"⟩
abbrev cX6_readNumber : ByteArray := prog_8_method_26_code
def yX6_readNumber : MethodName := ⟨RX6, "readNumber", "(Z)I"⟩
abbrev cX6_readTest : ByteArray := prog_8_method_27_code
def yX6_readTest : MethodName := ⟨RX6, "readTest", "(I)V"⟩
abbrev cX6_rules : ByteArray := prog_8_method_28_code
def yX6_rules : MethodName := ⟨RX6, "rules", "()I"⟩
abbrev cX6_openIn : ByteArray := prog_8_method_29_code
def yX6_openIn : MethodName := ⟨RX6, "openIn", "(I)I"⟩
abbrev cX6_testAt : ByteArray := prog_8_method_30_code
def yX6_testAt : MethodName := ⟨RX6, "testAt", "(I)I"⟩
abbrev cX6_test : ByteArray := prog_8_method_31_code
def yX6_test : MethodName := ⟨RX6, "test", "(II)I"⟩
abbrev cX6_anchor : ByteArray := prog_8_method_32_code
def yX6_anchor : MethodName := ⟨RX6, "anchor", "()Z"⟩
abbrev cX6_cross : ByteArray := prog_8_method_33_code
def yX6_cross : MethodName := ⟨RX6, "cross", "(II)J"⟩
abbrev cX6_wobble : ByteArray := prog_8_method_34_code
def yX6_wobble : MethodName := ⟨RX6, "wobble", "(JJJJ)D"⟩
abbrev cX6_isNumber : ByteArray := prog_8_method_35_code
def yX6_isNumber : MethodName := ⟨RX6, "isNumber", "(DDD)Z"⟩
abbrev cX6_bend : ByteArray := prog_8_method_36_code
def yX6_bend : MethodName := ⟨RX6, "bend", "(DDDD)D"⟩
abbrev cX6_creep : ByteArray := prog_8_method_37_code
def yX6_creep : MethodName := ⟨RX6, "creep", "(I)D"⟩
abbrev cX6_gap : ByteArray := prog_8_method_38_code
def yX6_gap : MethodName := ⟨RX6, "gap", "(J)I"⟩
def RJx145de : String := "java/io/Serializable"
def TJx145de : u_T := fun k => match k with
  | _ => ("", "", "", false)
def tyJx145de : Nat → FieldType := fun k => match k with
  | _ => .int
abbrev wsJx145de0 : List Cond := u_ws RJx145de TJx145de 0
theorem nmJx145de : ∀ a, a < 0 → ∀ b, b < 0 → a ≠ b → (TJx145de a).2.1 ≠ (TJx145de b).2.1 := by decide +kernel
theorem tyJx145de_ok : ∀ k, k < 0 → parseFieldDescriptor (TJx145de k).2.2.1 = some (tyJx145de k) := by decide +kernel
def RJ5 : String := "java/lang/AbstractStringBuilder"
def TJ5 : u_T := fun k => match k with
  | _ => ("", "", "", false)
def tyJ5 : Nat → FieldType := fun k => match k with
  | _ => .int
abbrev wsJ50 : List Cond := u_ws RJ5 TJ5 0
theorem nmJ5 : ∀ a, a < 0 → ∀ b, b < 0 → a ≠ b → (TJ5 a).2.1 ≠ (TJ5 b).2.1 := by decide +kernel
theorem tyJ5_ok : ∀ k, k < 0 → parseFieldDescriptor (TJ5 k).2.2.1 = some (tyJ5 k) := by decide +kernel
abbrev cJ5_init_d00df : ByteArray := prog_10_method_2_code
def yJ5_init_d00df : MethodName := ⟨RJ5, "<init>", "(I)V"⟩
abbrev cJ5_length_8abf5 : ByteArray := prog_10_method_6_code
def yJ5_length_8abf5 : MethodName := ⟨RJ5, "length", "()I"⟩
abbrev cJ5_ensureCapacityInternal_d00df : ByteArray := prog_10_method_9_code
def yJ5_ensureCapacityInternal_d00df : MethodName := ⟨RJ5, "ensureCapacityInternal", "(I)V"⟩
abbrev cJ5_newCapacity_0f7a4 : ByteArray := prog_10_method_10_code
def yJ5_newCapacity_0f7a4 : MethodName := ⟨RJ5, "newCapacity", "(I)I"⟩
abbrev cJ5_inflate_da8c8 : ByteArray := prog_10_method_11_code
def yJ5_inflate_da8c8 : MethodName := ⟨RJ5, "inflate", "()V"⟩
abbrev cJ5_setLength_d00df : ByteArray := prog_10_method_13_code
def yJ5_setLength_d00df : MethodName := ⟨RJ5, "setLength", "(I)V"⟩
abbrev cJ5_charAt_5068e : ByteArray := prog_10_method_14_code
def yJ5_charAt_5068e : MethodName := ⟨RJ5, "charAt", "(I)C"⟩
abbrev cJ5_append_cf1ce : ByteArray := prog_10_method_22_code
def yJ5_append_cf1ce : MethodName := ⟨RJ5, "append", "(Ljava/lang/String;)Ljava/lang/AbstractStringBuilder;"⟩
abbrev cJ5_appendNull_278bc : ByteArray := prog_10_method_26_code
def yJ5_appendNull_278bc : MethodName := ⟨RJ5, "appendNull", "()Ljava/lang/AbstractStringBuilder;"⟩
abbrev cJ5_append_3fe6f : ByteArray := prog_10_method_31_code
def yJ5_append_3fe6f : MethodName := ⟨RJ5, "append", "(C)Ljava/lang/AbstractStringBuilder;"⟩
abbrev cJ5_append_c97b9 : ByteArray := prog_10_method_32_code
def yJ5_append_c97b9 : MethodName := ⟨RJ5, "append", "(I)Ljava/lang/AbstractStringBuilder;"⟩
abbrev cJ5_getValue_6d5f1 : ByteArray := prog_10_method_64_code
def yJ5_getValue_6d5f1 : MethodName := ⟨RJ5, "getValue", "()[B"⟩
abbrev cJ5_isLatin1_aae02 : ByteArray := prog_10_method_68_code
def yJ5_isLatin1_aae02 : MethodName := ⟨RJ5, "isLatin1", "()Z"⟩
abbrev cJ5_inflateIfNeededFor_a7421 : ByteArray := prog_10_method_71_code
def yJ5_inflateIfNeededFor_a7421 : MethodName := ⟨RJ5, "inflateIfNeededFor", "(Ljava/lang/String;)V"⟩
abbrev cJ5_putStringAt_47b60 : ByteArray := prog_10_method_73_code
def yJ5_putStringAt_47b60 : MethodName := ⟨RJ5, "putStringAt", "(ILjava/lang/String;)V"⟩
def RJx2cfe8 : String := "java/lang/Appendable"
def TJx2cfe8 : u_T := fun k => match k with
  | _ => ("", "", "", false)
def tyJx2cfe8 : Nat → FieldType := fun k => match k with
  | _ => .int
abbrev wsJx2cfe80 : List Cond := u_ws RJx2cfe8 TJx2cfe8 0
theorem nmJx2cfe8 : ∀ a, a < 0 → ∀ b, b < 0 → a ≠ b → (TJx2cfe8 a).2.1 ≠ (TJx2cfe8 b).2.1 := by decide +kernel
theorem tyJx2cfe8_ok : ∀ k, k < 0 → parseFieldDescriptor (TJx2cfe8 k).2.2.1 = some (tyJx2cfe8 k) := by decide +kernel
def RJx00060 : String := "java/lang/ArrayIndexOutOfBoundsException"
def TJx00060 : u_T := fun k => match k with
  | 0 => ("java/lang/Throwable", "cause", "Ljava/lang/Throwable;", false)
  | 1 => ("java/lang/Throwable", "stackTrace", "[Ljava/lang/StackTraceElement;", false)
  | 2 => ("java/lang/Throwable", "suppressedExceptions", "Ljava/util/List;", false)
  | 3 => ("java/lang/Throwable", "detailMessage", "Ljava/lang/String;", false)
  | 4 => ("java/lang/Throwable", "backtrace", "Ljava/lang/Object;", false)
  | _ => ("java/lang/Throwable", "depth", "I", false)
def tyJx00060 : Nat → FieldType := fun k => match k with
  | 0 => .object "java/lang/Throwable"
  | 1 => .array (.object "java/lang/StackTraceElement")
  | 2 => .object "java/util/List"
  | 3 => .object "java/lang/String"
  | 4 => .object "java/lang/Object"
  | _ => .int
abbrev wsJx000600 : List Cond := u_ws RJx00060 TJx00060 6
theorem nmJx00060 : ∀ a, a < 6 → ∀ b, b < 6 → a ≠ b → (TJx00060 a).2.1 ≠ (TJx00060 b).2.1 := by decide +kernel
theorem tyJx00060_ok : ∀ k, k < 6 → parseFieldDescriptor (TJx00060 k).2.2.1 = some (tyJx00060 k) := by decide +kernel
abbrev cJx00060_init_d00df : ByteArray := prog_12_method_3_code
def yJx00060_init_d00df : MethodName := ⟨RJx00060, "<init>", "(I)V"⟩
def RJx9f9b0 : String := "java/lang/CharSequence"
def TJx9f9b0 : u_T := fun k => match k with
  | _ => ("", "", "", false)
def tyJx9f9b0 : Nat → FieldType := fun k => match k with
  | _ => .int
abbrev wsJx9f9b00 : List Cond := u_ws RJx9f9b0 TJx9f9b0 0
theorem nmJx9f9b0 : ∀ a, a < 0 → ∀ b, b < 0 → a ≠ b → (TJx9f9b0 a).2.1 ≠ (TJx9f9b0 b).2.1 := by decide +kernel
theorem tyJx9f9b0_ok : ∀ k, k < 0 → parseFieldDescriptor (TJx9f9b0 k).2.2.1 = some (tyJx9f9b0 k) := by decide +kernel
def RJx8e188 : String := "java/lang/Cloneable"
def TJx8e188 : u_T := fun k => match k with
  | _ => ("", "", "", false)
def tyJx8e188 : Nat → FieldType := fun k => match k with
  | _ => .int
abbrev wsJx8e1880 : List Cond := u_ws RJx8e188 TJx8e188 0
theorem nmJx8e188 : ∀ a, a < 0 → ∀ b, b < 0 → a ≠ b → (TJx8e188 a).2.1 ≠ (TJx8e188 b).2.1 := by decide +kernel
theorem tyJx8e188_ok : ∀ k, k < 0 → parseFieldDescriptor (TJx8e188 k).2.2.1 = some (tyJx8e188 k) := by decide +kernel
def RJxb160c : String := "java/lang/Comparable"
def TJxb160c : u_T := fun k => match k with
  | _ => ("", "", "", false)
def tyJxb160c : Nat → FieldType := fun k => match k with
  | _ => .int
abbrev wsJxb160c0 : List Cond := u_ws RJxb160c TJxb160c 0
theorem nmJxb160c : ∀ a, a < 0 → ∀ b, b < 0 → a ≠ b → (TJxb160c a).2.1 ≠ (TJxb160c b).2.1 := by decide +kernel
theorem tyJxb160c_ok : ∀ k, k < 0 → parseFieldDescriptor (TJxb160c k).2.2.1 = some (tyJxb160c k) := by decide +kernel
def RJ6 : String := "java/lang/Integer"
def TJ6 : u_T := fun k => match k with
  | _ => ("", "", "", false)
def tyJ6 : Nat → FieldType := fun k => match k with
  | _ => .int
abbrev wsJ60 : List Cond := u_ws RJ6 TJ6 0
theorem nmJ6 : ∀ a, a < 0 → ∀ b, b < 0 → a ≠ b → (TJ6 a).2.1 ≠ (TJ6 b).2.1 := by decide +kernel
theorem tyJ6_ok : ∀ k, k < 0 → parseFieldDescriptor (TJ6 k).2.2.1 = some (tyJ6 k) := by decide +kernel
abbrev cJ6_getChars_ba4f3 : ByteArray := prog_20_method_12_code
def yJ6_getChars_ba4f3 : MethodName := ⟨RJ6, "getChars", "(II[B)I"⟩
abbrev cJ6_stringSize_0f7a4 : ByteArray := prog_20_method_13_code
def yJ6_stringSize_0f7a4 : MethodName := ⟨RJ6, "stringSize", "(I)I"⟩
def RJxab1ab : String := "java/lang/Iterable"
def TJxab1ab : u_T := fun k => match k with
  | _ => ("", "", "", false)
def tyJxab1ab : Nat → FieldType := fun k => match k with
  | _ => .int
abbrev wsJxab1ab0 : List Cond := u_ws RJxab1ab TJxab1ab 0
theorem nmJxab1ab : ∀ a, a < 0 → ∀ b, b < 0 → a ≠ b → (TJxab1ab a).2.1 ≠ (TJxab1ab b).2.1 := by decide +kernel
theorem tyJxab1ab_ok : ∀ k, k < 0 → parseFieldDescriptor (TJxab1ab k).2.2.1 = some (tyJxab1ab k) := by decide +kernel
def RJ9 : String := "java/lang/Math"
def TJ9 : u_T := fun k => match k with
  | _ => ("", "", "", false)
def tyJ9 : Nat → FieldType := fun k => match k with
  | _ => .int
abbrev wsJ90 : List Cond := u_ws RJ9 TJ9 0
theorem nmJ9 : ∀ a, a < 0 → ∀ b, b < 0 → a ≠ b → (TJ9 a).2.1 ≠ (TJ9 b).2.1 := by decide +kernel
theorem tyJ9_ok : ∀ k, k < 0 → parseFieldDescriptor (TJ9 k).2.2.1 = some (tyJ9 k) := by decide +kernel
abbrev cJ9_abs_067f4 : ByteArray := prog_22_method_61_code
def yJ9_abs_067f4 : MethodName := ⟨RJ9, "abs", "(J)J"⟩
abbrev cJ9_max_7cf53 : ByteArray := prog_22_method_65_code
def yJ9_max_7cf53 : MethodName := ⟨RJ9, "max", "(II)I"⟩
abbrev cJ9_min_7cf53 : ByteArray := prog_22_method_69_code
def yJ9_min_7cf53 : MethodName := ⟨RJ9, "min", "(II)I"⟩
def RJxd2413 : String := "java/lang/Number"
def TJxd2413 : u_T := fun k => match k with
  | _ => ("", "", "", false)
def tyJxd2413 : Nat → FieldType := fun k => match k with
  | _ => .int
abbrev wsJxd24130 : List Cond := u_ws RJxd2413 TJxd2413 0
theorem nmJxd2413 : ∀ a, a < 0 → ∀ b, b < 0 → a ≠ b → (TJxd2413 a).2.1 ≠ (TJxd2413 b).2.1 := by decide +kernel
theorem tyJxd2413_ok : ∀ k, k < 0 → parseFieldDescriptor (TJxd2413 k).2.2.1 = some (tyJxd2413 k) := by decide +kernel
def RJ0 : String := "java/lang/String"
def TJ0 : u_T := fun k => match k with
  | 0 => ("java/lang/String", "value", "[B", true)
  | 1 => ("java/lang/String", "coder", "B", true)
  | 2 => ("java/lang/String", "hash", "I", false)
  | _ => ("java/lang/String", "hashIsZero", "Z", false)
def tyJ0 : Nat → FieldType := fun k => match k with
  | 0 => .array .byte
  | 1 => .byte
  | 2 => .int
  | _ => .boolean
abbrev wsJ00 : List Cond := u_ws RJ0 TJ0 4
theorem nmJ0 : ∀ a, a < 4 → ∀ b, b < 4 → a ≠ b → (TJ0 a).2.1 ≠ (TJ0 b).2.1 := by decide +kernel
theorem tyJ0_ok : ∀ k, k < 4 → parseFieldDescriptor (TJ0 k).2.2.1 = some (tyJ0 k) := by decide +kernel
abbrev cJ0_init_81219 : ByteArray := prog_25_method_53_code
def yJ0_init_81219 : MethodName := ⟨RJ0, "<init>", "(Ljava/lang/StringBuilder;)V"⟩
abbrev cJ0_length_8abf5 : ByteArray := prog_25_method_54_code
def yJ0_length_8abf5 : MethodName := ⟨RJ0, "length", "()I"⟩
abbrev cJ0_getBytes_840e7 : ByteArray := prog_25_method_147_code
def yJ0_getBytes_840e7 : MethodName := ⟨RJ0, "getBytes", "([BIB)V"⟩
abbrev cJ0_init_db425 : ByteArray := prog_25_method_150_code
def yJ0_init_db425 : MethodName := ⟨RJ0, "<init>", "(Ljava/lang/AbstractStringBuilder;Ljava/lang/Void;)V"⟩
abbrev cJ0_coder_7d493 : ByteArray := prog_25_method_152_code
def yJ0_coder_7d493 : MethodName := ⟨RJ0, "coder", "()B"⟩
abbrev cJ0_checkIndex_df160 : ByteArray := prog_25_method_155_code
def yJ0_checkIndex_df160 : MethodName := ⟨RJ0, "checkIndex", "(II)V"⟩
abbrev cJ0_checkBoundsOffCount_cabcc : ByteArray := prog_25_method_157_code
def yJ0_checkBoundsOffCount_cabcc : MethodName := ⟨RJ0, "checkBoundsOffCount", "(III)I"⟩
abbrev cJ0_checkBoundsBeginEnd_23922 : ByteArray := prog_25_method_158_code
def yJ0_checkBoundsBeginEnd_23922 : MethodName := ⟨RJ0, "checkBoundsBeginEnd", "(III)V"⟩
def RJ4 : String := "java/lang/StringBuilder"
def TJ4 : u_T := fun k => match k with
  | 0 => ("java/lang/AbstractStringBuilder", "value", "[B", false)
  | 1 => ("java/lang/AbstractStringBuilder", "coder", "B", false)
  | 2 => ("java/lang/AbstractStringBuilder", "maybeLatin1", "Z", false)
  | _ => ("java/lang/AbstractStringBuilder", "count", "I", false)
def tyJ4 : Nat → FieldType := fun k => match k with
  | 0 => .array .byte
  | 1 => .byte
  | 2 => .boolean
  | _ => .int
abbrev wsJ40 : List Cond := u_ws RJ4 TJ4 4
theorem nmJ4 : ∀ a, a < 4 → ∀ b, b < 4 → a ≠ b → (TJ4 a).2.1 ≠ (TJ4 b).2.1 := by decide +kernel
theorem tyJ4_ok : ∀ k, k < 4 → parseFieldDescriptor (TJ4 k).2.2.1 = some (tyJ4 k) := by decide +kernel
abbrev cJ4_init_da8c8 : ByteArray := prog_26_method_1_code
def yJ4_init_da8c8 : MethodName := ⟨RJ4, "<init>", "()V"⟩
abbrev cJ4_append_15ec4 : ByteArray := prog_26_method_7_code
def yJ4_append_15ec4 : MethodName := ⟨RJ4, "append", "(Ljava/lang/String;)Ljava/lang/StringBuilder;"⟩
abbrev cJ4_append_cf468 : ByteArray := prog_26_method_14_code
def yJ4_append_cf468 : MethodName := ⟨RJ4, "append", "(C)Ljava/lang/StringBuilder;"⟩
abbrev cJ4_append_bf812 : ByteArray := prog_26_method_15_code
def yJ4_append_bf812 : MethodName := ⟨RJ4, "append", "(I)Ljava/lang/StringBuilder;"⟩
abbrev cJ4_toString_0e30d : ByteArray := prog_26_method_42_code
def yJ4_toString_0e30d : MethodName := ⟨RJ4, "toString", "()Ljava/lang/String;"⟩
abbrev cJ4_charAt_5068e : ByteArray := prog_26_method_88_code
def yJ4_charAt_5068e : MethodName := ⟨RJ4, "charAt", "(I)C"⟩
abbrev cJ4_setLength_d00df : ByteArray := prog_26_method_89_code
def yJ4_setLength_d00df : MethodName := ⟨RJ4, "setLength", "(I)V"⟩
abbrev cJ4_length_8abf5 : ByteArray := prog_26_method_93_code
def yJ4_length_8abf5 : MethodName := ⟨RJ4, "length", "()I"⟩
def RJx7c733 : String := "java/lang/StringIndexOutOfBoundsException"
def TJx7c733 : u_T := fun k => match k with
  | 0 => ("java/lang/Throwable", "backtrace", "Ljava/lang/Object;", false)
  | 1 => ("java/lang/Throwable", "detailMessage", "Ljava/lang/String;", false)
  | 2 => ("java/lang/Throwable", "cause", "Ljava/lang/Throwable;", false)
  | 3 => ("java/lang/Throwable", "stackTrace", "[Ljava/lang/StackTraceElement;", false)
  | 4 => ("java/lang/Throwable", "depth", "I", false)
  | _ => ("java/lang/Throwable", "suppressedExceptions", "Ljava/util/List;", false)
def tyJx7c733 : Nat → FieldType := fun k => match k with
  | 0 => .object "java/lang/Object"
  | 1 => .object "java/lang/String"
  | 2 => .object "java/lang/Throwable"
  | 3 => .array (.object "java/lang/StackTraceElement")
  | 4 => .int
  | _ => .object "java/util/List"
abbrev wsJx7c7330 : List Cond := u_ws RJx7c733 TJx7c733 6
theorem nmJx7c733 : ∀ a, a < 6 → ∀ b, b < 6 → a ≠ b → (TJx7c733 a).2.1 ≠ (TJx7c733 b).2.1 := by decide +kernel
theorem tyJx7c733_ok : ∀ k, k < 6 → parseFieldDescriptor (TJx7c733 k).2.2.1 = some (tyJx7c733 k) := by decide +kernel
abbrev cJx7c733_init_d00df : ByteArray := prog_27_method_3_code
def yJx7c733_init_d00df : MethodName := ⟨RJx7c733, "<init>", "(I)V"⟩
def RJ1 : String := "java/lang/StringLatin1"
def TJ1 : u_T := fun k => match k with
  | _ => ("", "", "", false)
def tyJ1 : Nat → FieldType := fun k => match k with
  | _ => .int
abbrev wsJ10 : List Cond := u_ws RJ1 TJ1 0
theorem nmJ1 : ∀ a, a < 0 → ∀ b, b < 0 → a ≠ b → (TJ1 a).2.1 ≠ (TJ1 b).2.1 := by decide +kernel
theorem tyJ1_ok : ∀ k, k < 0 → parseFieldDescriptor (TJ1 k).2.2.1 = some (tyJ1 k) := by decide +kernel
abbrev cJ1_canEncode_fc78d : ByteArray := prog_28_method_3_code
def yJ1_canEncode_fc78d : MethodName := ⟨RJ1, "canEncode", "(C)Z"⟩
abbrev cJ1_fillNull_b72d1 : ByteArray := prog_28_method_48_code
def yJ1_fillNull_b72d1 : MethodName := ⟨RJ1, "fillNull", "([BII)V"⟩
abbrev cJ1_inflate_0e8fd : ByteArray := prog_28_method_50_code
def yJ1_inflate_0e8fd : MethodName := ⟨RJ1, "inflate", "([BI[BII)V"⟩
def RJ2 : String := "java/lang/StringUTF16"
def TJ2 : u_T := fun k => match k with
  | _ => ("", "", "", false)
def tyJ2 : Nat → FieldType := fun k => match k with
  | _ => .int
abbrev wsJ20 : List Cond := u_ws RJ2 TJ2 0
theorem nmJ2 : ∀ a, a < 0 → ∀ b, b < 0 → a ≠ b → (TJ2 a).2.1 ≠ (TJ2 b).2.1 := by decide +kernel
theorem tyJ2_ok : ∀ k, k < 0 → parseFieldDescriptor (TJ2 k).2.2.1 = some (tyJ2 k) := by decide +kernel
abbrev cJ2_newBytesFor_77867 : ByteArray := prog_29_method_2_code
def yJ2_newBytesFor_77867 : MethodName := ⟨RJ2, "newBytesFor", "(I)[B"⟩
abbrev cJ2_newBytesLength_0f7a4 : ByteArray := prog_29_method_3_code
def yJ2_newBytesLength_0f7a4 : MethodName := ⟨RJ2, "newBytesLength", "(I)I"⟩
abbrev cJ2_putChar_b72d1 : ByteArray := prog_29_method_4_code
def yJ2_putChar_b72d1 : MethodName := ⟨RJ2, "putChar", "([BII)V"⟩
abbrev cJ2_getChar_3b067 : ByteArray := prog_29_method_5_code
def yJ2_getChar_3b067 : MethodName := ⟨RJ2, "getChar", "([BI)C"⟩
abbrev cJ2_length_9d52b : ByteArray := prog_29_method_6_code
def yJ2_length_9d52b : MethodName := ⟨RJ2, "length", "([B)I"⟩
abbrev cJ2_coderFromArrayLen_85cad : ByteArray := prog_29_method_15_code
def yJ2_coderFromArrayLen_85cad : MethodName := ⟨RJ2, "coderFromArrayLen", "([BI)B"⟩
abbrev cJ2_compress_39247 : ByteArray := prog_29_method_17_code
def yJ2_compress_39247 : MethodName := ⟨RJ2, "compress", "([BII)[B"⟩
abbrev cJ2_compress_5af95 : ByteArray := prog_29_method_22_code
def yJ2_compress_5af95 : MethodName := ⟨RJ2, "compress", "([BI[BII)I"⟩
abbrev cJ2_fillNull_b72d1 : ByteArray := prog_29_method_70_code
def yJ2_fillNull_b72d1 : MethodName := ⟨RJ2, "fillNull", "([BII)V"⟩
abbrev cJ2_putCharSB_b72d1 : ByteArray := prog_29_method_71_code
def yJ2_putCharSB_b72d1 : MethodName := ⟨RJ2, "putCharSB", "([BII)V"⟩
abbrev cJ2_getChars_46870 : ByteArray := prog_29_method_77_code
def yJ2_getChars_46870 : MethodName := ⟨RJ2, "getChars", "(III[B)I"⟩
abbrev cJ2_putCharsAt_cd4e5 : ByteArray := prog_29_method_81_code
def yJ2_putCharsAt_cd4e5 : MethodName := ⟨RJ2, "putCharsAt", "([BICCCC)I"⟩
abbrev cJ2_inflate_0e8fd : ByteArray := prog_29_method_86_code
def yJ2_inflate_0e8fd : MethodName := ⟨RJ2, "inflate", "([BI[BII)V"⟩
abbrev cJ2_getChars_ba4f3 : ByteArray := prog_29_method_89_code
def yJ2_getChars_ba4f3 : MethodName := ⟨RJ2, "getChars", "(II[B)I"⟩
abbrev cJ2_checkIndex_2214a : ByteArray := prog_29_method_91_code
def yJ2_checkIndex_2214a : MethodName := ⟨RJ2, "checkIndex", "(I[B)V"⟩
abbrev cJ2_checkBoundsBeginEnd_d044e : ByteArray := prog_29_method_93_code
def yJ2_checkBoundsBeginEnd_d044e : MethodName := ⟨RJ2, "checkBoundsBeginEnd", "(II[B)V"⟩
abbrev cJ2_checkBoundsOffCount_d044e : ByteArray := prog_29_method_94_code
def yJ2_checkBoundsOffCount_d044e : MethodName := ⟨RJ2, "checkBoundsOffCount", "(II[B)V"⟩
def RJ10 : String := "java/lang/System"
def TJ10 : u_T := fun k => match k with
  | _ => ("", "", "", false)
def tyJ10 : Nat → FieldType := fun k => match k with
  | _ => .int
abbrev wsJ100 : List Cond := u_ws RJ10 TJ10 0
theorem nmJ10 : ∀ a, a < 0 → ∀ b, b < 0 → a ≠ b → (TJ10 a).2.1 ≠ (TJ10 b).2.1 := by decide +kernel
theorem tyJ10_ok : ∀ k, k < 0 → parseFieldDescriptor (TJ10 k).2.2.1 = some (tyJ10 k) := by decide +kernel
def RJxfd54e : String := "java/lang/constant/Constable"
def TJxfd54e : u_T := fun k => match k with
  | _ => ("", "", "", false)
def tyJxfd54e : Nat → FieldType := fun k => match k with
  | _ => .int
abbrev wsJxfd54e0 : List Cond := u_ws RJxfd54e TJxfd54e 0
theorem nmJxfd54e : ∀ a, a < 0 → ∀ b, b < 0 → a ≠ b → (TJxfd54e a).2.1 ≠ (TJxfd54e b).2.1 := by decide +kernel
theorem tyJxfd54e_ok : ∀ k, k < 0 → parseFieldDescriptor (TJxfd54e k).2.2.1 = some (tyJxfd54e k) := by decide +kernel
def RJx3cf43 : String := "java/lang/constant/ConstantDesc"
def TJx3cf43 : u_T := fun k => match k with
  | _ => ("", "", "", false)
def tyJx3cf43 : Nat → FieldType := fun k => match k with
  | _ => .int
abbrev wsJx3cf430 : List Cond := u_ws RJx3cf43 TJx3cf43 0
theorem nmJx3cf43 : ∀ a, a < 0 → ∀ b, b < 0 → a ≠ b → (TJx3cf43 a).2.1 ≠ (TJx3cf43 b).2.1 := by decide +kernel
theorem tyJx3cf43_ok : ∀ k, k < 0 → parseFieldDescriptor (TJx3cf43 k).2.2.1 = some (tyJx3cf43 k) := by decide +kernel
def RJxa1e45 : String := "java/util/AbstractCollection"
def TJxa1e45 : u_T := fun k => match k with
  | _ => ("", "", "", false)
def tyJxa1e45 : Nat → FieldType := fun k => match k with
  | _ => .int
abbrev wsJxa1e450 : List Cond := u_ws RJxa1e45 TJxa1e45 0
theorem nmJxa1e45 : ∀ a, a < 0 → ∀ b, b < 0 → a ≠ b → (TJxa1e45 a).2.1 ≠ (TJxa1e45 b).2.1 := by decide +kernel
theorem tyJxa1e45_ok : ∀ k, k < 0 → parseFieldDescriptor (TJxa1e45 k).2.2.1 = some (tyJxa1e45 k) := by decide +kernel
abbrev cJxa1e45_init_da8c8 : ByteArray := prog_34_method_1_code
def yJxa1e45_init_da8c8 : MethodName := ⟨RJxa1e45, "<init>", "()V"⟩
def RJxc12de : String := "java/util/AbstractList"
def TJxc12de : u_T := fun k => match k with
  | _ => ("", "", "", false)
def tyJxc12de : Nat → FieldType := fun k => match k with
  | _ => .int
abbrev wsJxc12de0 : List Cond := u_ws RJxc12de TJxc12de 0
theorem nmJxc12de : ∀ a, a < 0 → ∀ b, b < 0 → a ≠ b → (TJxc12de a).2.1 ≠ (TJxc12de b).2.1 := by decide +kernel
theorem tyJxc12de_ok : ∀ k, k < 0 → parseFieldDescriptor (TJxc12de k).2.2.1 = some (tyJxc12de k) := by decide +kernel
abbrev cJxc12de_init_da8c8 : ByteArray := prog_35_method_1_code
def yJxc12de_init_da8c8 : MethodName := ⟨RJxc12de, "<init>", "()V"⟩
def RJx4a65c : String := "java/util/ArrayList"
def TJx4a65c : u_T := fun k => match k with
  | 0 => ("java/util/AbstractList", "modCount", "I", false)
  | 1 => ("java/util/ArrayList", "elementData", "[Ljava/lang/Object;", false)
  | _ => ("java/util/ArrayList", "size", "I", false)
def tyJx4a65c : Nat → FieldType := fun k => match k with
  | 0 => .int
  | 1 => .array (.object "java/lang/Object")
  | _ => .int
abbrev wsJx4a65c0 : List Cond := u_ws RJx4a65c TJx4a65c 3
theorem nmJx4a65c : ∀ a, a < 3 → ∀ b, b < 3 → a ≠ b → (TJx4a65c a).2.1 ≠ (TJx4a65c b).2.1 := by decide +kernel
theorem tyJx4a65c_ok : ∀ k, k < 3 → parseFieldDescriptor (TJx4a65c k).2.2.1 = some (tyJx4a65c k) := by decide +kernel
abbrev cJx4a65c_init_da8c8 : ByteArray := prog_36_method_2_code
def yJx4a65c_init_da8c8 : MethodName := ⟨RJx4a65c, "<init>", "()V"⟩
abbrev cJx4a65c_grow_92f84 : ByteArray := prog_36_method_6_code
def yJx4a65c_grow_92f84 : MethodName := ⟨RJx4a65c, "grow", "(I)[Ljava/lang/Object;"⟩
abbrev cJx4a65c_grow_d5877 : ByteArray := prog_36_method_7_code
def yJx4a65c_grow_d5877 : MethodName := ⟨RJx4a65c, "grow", "()[Ljava/lang/Object;"⟩
abbrev cJx4a65c_size_8abf5 : ByteArray := prog_36_method_8_code
def yJx4a65c_size_8abf5 : MethodName := ⟨RJx4a65c, "size", "()I"⟩
abbrev cJx4a65c_isEmpty_aae02 : ByteArray := prog_36_method_9_code
def yJx4a65c_isEmpty_aae02 : MethodName := ⟨RJx4a65c, "isEmpty", "()Z"⟩
abbrev cJx4a65c_elementData_915e3 : ByteArray := prog_36_method_18_code
def yJx4a65c_elementData_915e3 : MethodName := ⟨RJx4a65c, "elementData", "(I)Ljava/lang/Object;"⟩
abbrev cJx4a65c_get_915e3 : ByteArray := prog_36_method_20_code
def yJx4a65c_get_915e3 : MethodName := ⟨RJx4a65c, "get", "(I)Ljava/lang/Object;"⟩
abbrev cJx4a65c_add_72be8 : ByteArray := prog_36_method_24_code
def yJx4a65c_add_72be8 : MethodName := ⟨RJx4a65c, "add", "(Ljava/lang/Object;[Ljava/lang/Object;I)V"⟩
abbrev cJx4a65c_add_9ea2d : ByteArray := prog_36_method_25_code
def yJx4a65c_add_9ea2d : MethodName := ⟨RJx4a65c, "add", "(Ljava/lang/Object;)Z"⟩
abbrev cJx4a65c_clear_da8c8 : ByteArray := prog_36_method_40_code
def yJx4a65c_clear_da8c8 : MethodName := ⟨RJx4a65c, "clear", "()V"⟩
def RJ7 : String := "java/util/Arrays"
def TJ7 : u_T := fun k => match k with
  | _ => ("", "", "", false)
def tyJ7 : Nat → FieldType := fun k => match k with
  | _ => .int
abbrev wsJ70 : List Cond := u_ws RJ7 TJ7 0
theorem nmJ7 : ∀ a, a < 0 → ∀ b, b < 0 → a ≠ b → (TJ7 a).2.1 ≠ (TJ7 b).2.1 := by decide +kernel
theorem tyJ7_ok : ∀ k, k < 0 → parseFieldDescriptor (TJ7 k).2.2.1 = some (tyJ7 k) := by decide +kernel
abbrev cJ7_rangeCheck_23922 : ByteArray := prog_37_method_30_code
def yJ7_rangeCheck_23922 : MethodName := ⟨RJ7, "rangeCheck", "(III)V"⟩
abbrev cJ7_fill_eb02e : ByteArray := prog_37_method_110_code
def yJ7_fill_eb02e : MethodName := ⟨RJ7, "fill", "([BIIB)V"⟩
abbrev cJ7_copyOf_1904c : ByteArray := prog_37_method_119_code
def yJ7_copyOf_1904c : MethodName := ⟨RJ7, "copyOf", "([Ljava/lang/Object;I)[Ljava/lang/Object;"⟩
abbrev cJ7_copyOf_6403c : ByteArray := prog_37_method_120_code
def yJ7_copyOf_6403c : MethodName := ⟨RJ7, "copyOf", "([Ljava/lang/Object;ILjava/lang/Class;)[Ljava/lang/Object;"⟩
abbrev cJ7_copyOf_9075b : ByteArray := prog_37_method_121_code
def yJ7_copyOf_9075b : MethodName := ⟨RJ7, "copyOf", "([BI)[B"⟩
abbrev cJ7_checkLength_df160 : ByteArray := prog_37_method_131_code
def yJ7_checkLength_df160 : MethodName := ⟨RJ7, "checkLength", "(II)V"⟩
abbrev cJ7_copyOfRange_39247 : ByteArray := prog_37_method_132_code
def yJ7_copyOfRange_39247 : MethodName := ⟨RJ7, "copyOfRange", "([BII)[B"⟩
abbrev cJ7_copyOfRangeByte_39247 : ByteArray := prog_37_method_133_code
def yJ7_copyOfRangeByte_39247 : MethodName := ⟨RJ7, "copyOfRangeByte", "([BII)[B"⟩
def RJx5ef63 : String := "java/util/Collection"
def TJx5ef63 : u_T := fun k => match k with
  | _ => ("", "", "", false)
def tyJx5ef63 : Nat → FieldType := fun k => match k with
  | _ => .int
abbrev wsJx5ef630 : List Cond := u_ws RJx5ef63 TJx5ef63 0
theorem nmJx5ef63 : ∀ a, a < 0 → ∀ b, b < 0 → a ≠ b → (TJx5ef63 a).2.1 ≠ (TJx5ef63 b).2.1 := by decide +kernel
theorem tyJx5ef63_ok : ∀ k, k < 0 → parseFieldDescriptor (TJx5ef63 k).2.2.1 = some (tyJx5ef63 k) := by decide +kernel
def RJxbd725 : String := "java/util/List"
def TJxbd725 : u_T := fun k => match k with
  | _ => ("", "", "", false)
def tyJxbd725 : Nat → FieldType := fun k => match k with
  | _ => .int
abbrev wsJxbd7250 : List Cond := u_ws RJxbd725 TJxbd725 0
theorem nmJxbd725 : ∀ a, a < 0 → ∀ b, b < 0 → a ≠ b → (TJxbd725 a).2.1 ≠ (TJxbd725 b).2.1 := by decide +kernel
theorem tyJxbd725_ok : ∀ k, k < 0 → parseFieldDescriptor (TJxbd725 k).2.2.1 = some (tyJxbd725 k) := by decide +kernel
def RJ15 : String := "java/util/Objects"
def TJ15 : u_T := fun k => match k with
  | _ => ("", "", "", false)
def tyJ15 : Nat → FieldType := fun k => match k with
  | _ => .int
abbrev wsJ150 : List Cond := u_ws RJ15 TJ15 0
theorem nmJ15 : ∀ a, a < 0 → ∀ b, b < 0 → a ≠ b → (TJ15 a).2.1 ≠ (TJ15 b).2.1 := by decide +kernel
theorem tyJ15_ok : ∀ k, k < 0 → parseFieldDescriptor (TJ15 k).2.2.1 = some (tyJ15 k) := by decide +kernel
abbrev cJ15_checkIndex_7cf53 : ByteArray := prog_40_method_17_code
def yJ15_checkIndex_7cf53 : MethodName := ⟨RJ15, "checkIndex", "(II)I"⟩
def RJxf0a74 : String := "java/util/RandomAccess"
def TJxf0a74 : u_T := fun k => match k with
  | _ => ("", "", "", false)
def tyJxf0a74 : Nat → FieldType := fun k => match k with
  | _ => .int
abbrev wsJxf0a740 : List Cond := u_ws RJxf0a74 TJxf0a74 0
theorem nmJxf0a74 : ∀ a, a < 0 → ∀ b, b < 0 → a ≠ b → (TJxf0a74 a).2.1 ≠ (TJxf0a74 b).2.1 := by decide +kernel
theorem tyJxf0a74_ok : ∀ k, k < 0 → parseFieldDescriptor (TJxf0a74 k).2.2.1 = some (tyJxf0a74 k) := by decide +kernel
def RJxa66e6 : String := "java/util/SequencedCollection"
def TJxa66e6 : u_T := fun k => match k with
  | _ => ("", "", "", false)
def tyJxa66e6 : Nat → FieldType := fun k => match k with
  | _ => .int
abbrev wsJxa66e60 : List Cond := u_ws RJxa66e6 TJxa66e6 0
theorem nmJxa66e6 : ∀ a, a < 0 → ∀ b, b < 0 → a ≠ b → (TJxa66e6 a).2.1 ≠ (TJxa66e6 b).2.1 := by decide +kernel
theorem tyJxa66e6_ok : ∀ k, k < 0 → parseFieldDescriptor (TJxa66e6 k).2.2.1 = some (tyJxa66e6 k) := by decide +kernel
def RJ8 : String := "jdk/internal/util/ArraysSupport"
def TJ8 : u_T := fun k => match k with
  | _ => ("", "", "", false)
def tyJ8 : Nat → FieldType := fun k => match k with
  | _ => .int
abbrev wsJ80 : List Cond := u_ws RJ8 TJ8 0
theorem nmJ8 : ∀ a, a < 0 → ∀ b, b < 0 → a ≠ b → (TJ8 a).2.1 ≠ (TJ8 b).2.1 := by decide +kernel
theorem tyJ8_ok : ∀ k, k < 0 → parseFieldDescriptor (TJ8 k).2.2.1 = some (tyJ8 k) := by decide +kernel
abbrev cJ8_newLength_cabcc : ByteArray := prog_43_method_27_code
def yJ8_newLength_cabcc : MethodName := ⟨RJ8, "newLength", "(III)I"⟩
abbrev cJ8_hugeLength_7cf53 : ByteArray := prog_43_method_28_code
def yJ8_hugeLength_7cf53 : MethodName := ⟨RJ8, "hugeLength", "(II)I"⟩
def RJ3 : String := "jdk/internal/util/Preconditions"
def TJ3 : u_T := fun k => match k with
  | _ => ("", "", "", false)
def tyJ3 : Nat → FieldType := fun k => match k with
  | _ => .int
abbrev wsJ30 : List Cond := u_ws RJ3 TJ3 0
theorem nmJ3 : ∀ a, a < 0 → ∀ b, b < 0 → a ≠ b → (TJ3 a).2.1 ≠ (TJ3 b).2.1 := by decide +kernel
theorem tyJ3_ok : ∀ k, k < 0 → parseFieldDescriptor (TJ3 k).2.2.1 = some (tyJ3 k) := by decide +kernel
abbrev cJ3_checkIndex_8e157 : ByteArray := prog_44_method_11_code
def yJ3_checkIndex_8e157 : MethodName := ⟨RJ3, "checkIndex", "(IILjava/util/function/BiFunction;)I"⟩
abbrev cJ3_checkFromToIndex_8c36e : ByteArray := prog_44_method_12_code
def yJ3_checkFromToIndex_8c36e : MethodName := ⟨RJ3, "checkFromToIndex", "(IIILjava/util/function/BiFunction;)I"⟩
abbrev cJ3_checkFromIndexSize_8c36e : ByteArray := prog_44_method_13_code
def yJ3_checkFromIndexSize_8c36e : MethodName := ⟨RJ3, "checkFromIndexSize", "(IIILjava/util/function/BiFunction;)I"⟩
def RL : String := "StandTestsLaw"
abbrev cL_part : ByteArray := method_3_code
def yL_part : MethodName := ⟨RL, "part", "(LStandTests;JJJJ[J)I"⟩
abbrev cL_foot : ByteArray := method_4_code
def yL_foot : MethodName := ⟨RL, "foot", "(LStandTests;JJ[J)I"⟩
abbrev cL_drawer : ByteArray := method_5_code
def yL_drawer : MethodName := ⟨RL, "drawer", "(LStandTests;IJ[J)I"⟩
abbrev cL_person : ByteArray := method_6_code
def yL_person : MethodName := ⟨RL, "person", "(LStandTests;JJJ[J)I"⟩
abbrev cL_centre : ByteArray := method_7_code
def yL_centre : MethodName := ⟨RL, "centre", "(LStandTests;II[J)I"⟩
abbrev cL_side : ByteArray := method_8_code
def yL_side : MethodName := ⟨RL, "side", "(LStandTests;I[J)I"⟩
abbrev cL_tips : ByteArray := method_9_code
def yL_tips : MethodName := ⟨RL, "tips", "(LStandTests;I[J)I"⟩
abbrev cL_moment : ByteArray := method_10_code
def yL_moment : MethodName := ⟨RL, "moment", "(LStandTests;II[J)I"⟩
abbrev cL_most : ByteArray := method_11_code
def yL_most : MethodName := ⟨RL, "most", "(LStandTests;[J)I"⟩
abbrev cL_test : ByteArray := method_12_code
def yL_test : MethodName := ⟨RL, "test", "(LStandTests;II[J)I"⟩
abbrev cL_anchor : ByteArray := method_13_code
def yL_anchor : MethodName := ⟨RL, "anchor", "(LStandTests;[J)I"⟩
abbrev cL_wobble : ByteArray := method_14_code
def yL_wobble : MethodName := ⟨RL, "wobble", "(LStandTests;JJJJ[D)I"⟩
abbrev cL_bend : ByteArray := method_15_code
def yL_bend : MethodName := ⟨RL, "bend", "(LStandTests;DDDD[D)I"⟩
abbrev cL_creep : ByteArray := method_16_code
def yL_creep : MethodName := ⟨RL, "creep", "(LStandTests;I[D)I"⟩
abbrev cL_law : ByteArray := code
def yL_law : MethodName := ⟨RL, "law", "([I)Z"⟩
abbrev vwCl : List vw_C := [(RJ0, TJ0, 4), (RJ4, TJ4, 4), (RJx00060, TJx00060, 6), (RJx7c733, TJx7c733, 6), (RJx4a65c, TJx4a65c, 3), (RX0, TX0, 3), (RX1, TX1, 6), (RX2, TX2, 2), (RX3, TX3, 2), (RX4, TX4, 4), (RX5, TX5, 8), (RX6, TX6, 24)]
end
section
theorem dX0_init_0 : decode cX0_init 0 = .ok (.aload_n 0, 1) := by decide +kernel
theorem dX0_init_1 : decode cX0_init 1 = .ok (.invokespecial 1, 3) := by decide +kernel
theorem dX0_init_4 : decode cX0_init 4 = .ok (.aload_n 0, 1) := by decide +kernel
theorem dX0_init_5 : decode cX0_init 5 = .ok (.iload_n 1, 1) := by decide +kernel
theorem dX0_init_6 : decode cX0_init 6 = .ok (.putfield 7, 3) := by decide +kernel
theorem dX0_init_9 : decode cX0_init 9 = .ok (.aload_n 0, 1) := by decide +kernel
theorem dX0_init_10 : decode cX0_init 10 = .ok (.lload_n 2, 1) := by decide +kernel
theorem dX0_init_11 : decode cX0_init 11 = .ok (.putfield 13, 3) := by decide +kernel
theorem dX0_init_14 : decode cX0_init 14 = .ok (.aload_n 0, 1) := by decide +kernel
theorem dX0_init_15 : decode cX0_init 15 = .ok (.lload 4, 2) := by decide +kernel
theorem dX0_init_17 : decode cX0_init 17 = .ok (.putfield 17, 3) := by decide +kernel
theorem dX0_init_20 : decode cX0_init 20 = .ok (.return_, 1) := by decide +kernel
theorem dX0_isBefore_0 : decode cX0_isBefore 0 = .ok (.aload_n 0, 1) := by decide +kernel
theorem dX0_isBefore_1 : decode cX0_isBefore 1 = .ok (.getfield 13, 3) := by decide +kernel
theorem dX0_isBefore_4 : decode cX0_isBefore 4 = .ok (.aload_n 1, 1) := by decide +kernel
theorem dX0_isBefore_5 : decode cX0_isBefore 5 = .ok (.getfield 13, 3) := by decide +kernel
theorem dX0_isBefore_8 : decode cX0_isBefore 8 = .ok (.lcmp, 1) := by decide +kernel
theorem dX0_isBefore_9 : decode cX0_isBefore 9 = .ok (.ifCond .eq 21, 3) := by decide +kernel
theorem dX0_isBefore_12 : decode cX0_isBefore 12 = .ok (.aload_n 0, 1) := by decide +kernel
theorem dX0_isBefore_13 : decode cX0_isBefore 13 = .ok (.getfield 13, 3) := by decide +kernel
theorem dX0_isBefore_16 : decode cX0_isBefore 16 = .ok (.aload_n 1, 1) := by decide +kernel
theorem dX0_isBefore_17 : decode cX0_isBefore 17 = .ok (.getfield 13, 3) := by decide +kernel
theorem dX0_isBefore_20 : decode cX0_isBefore 20 = .ok (.lcmp, 1) := by decide +kernel
theorem dX0_isBefore_21 : decode cX0_isBefore 21 = .ok (.ifCond .ge 7, 3) := by decide +kernel
theorem dX0_isBefore_24 : decode cX0_isBefore 24 = .ok (.iconst 1, 1) := by decide +kernel
theorem dX0_isBefore_25 : decode cX0_isBefore 25 = .ok (.goto 4, 3) := by decide +kernel
theorem dX0_isBefore_28 : decode cX0_isBefore 28 = .ok (.iconst 0, 1) := by decide +kernel
theorem dX0_isBefore_29 : decode cX0_isBefore 29 = .ok (.ireturn, 1) := by decide +kernel
theorem dX0_isBefore_30 : decode cX0_isBefore 30 = .ok (.aload_n 0, 1) := by decide +kernel
theorem dX0_isBefore_31 : decode cX0_isBefore 31 = .ok (.getfield 17, 3) := by decide +kernel
theorem dX0_isBefore_34 : decode cX0_isBefore 34 = .ok (.aload_n 1, 1) := by decide +kernel
theorem dX0_isBefore_35 : decode cX0_isBefore 35 = .ok (.getfield 17, 3) := by decide +kernel
theorem dX0_isBefore_38 : decode cX0_isBefore 38 = .ok (.lcmp, 1) := by decide +kernel
theorem dX0_isBefore_39 : decode cX0_isBefore 39 = .ok (.ifCond .eq 23, 3) := by decide +kernel
theorem dX0_isBefore_42 : decode cX0_isBefore 42 = .ok (.aload_n 0, 1) := by decide +kernel
theorem dX0_isBefore_43 : decode cX0_isBefore 43 = .ok (.getfield 17, 3) := by decide +kernel
theorem dX0_isBefore_46 : decode cX0_isBefore 46 = .ok (.aload_n 1, 1) := by decide +kernel
theorem dX0_isBefore_47 : decode cX0_isBefore 47 = .ok (.getfield 17, 3) := by decide +kernel
theorem dX0_isBefore_50 : decode cX0_isBefore 50 = .ok (.lcmp, 1) := by decide +kernel
theorem dX0_isBefore_51 : decode cX0_isBefore 51 = .ok (.ifCond .ge 7, 3) := by decide +kernel
theorem dX0_isBefore_54 : decode cX0_isBefore 54 = .ok (.iconst 1, 1) := by decide +kernel
theorem dX0_isBefore_55 : decode cX0_isBefore 55 = .ok (.goto 23, 3) := by decide +kernel
theorem dX0_isBefore_58 : decode cX0_isBefore 58 = .ok (.iconst 0, 1) := by decide +kernel
theorem dX0_isBefore_59 : decode cX0_isBefore 59 = .ok (.goto 19, 3) := by decide +kernel
theorem dX0_isBefore_62 : decode cX0_isBefore 62 = .ok (.aload_n 0, 1) := by decide +kernel
theorem dX0_isBefore_63 : decode cX0_isBefore 63 = .ok (.getfield 7, 3) := by decide +kernel
theorem dX0_isBefore_66 : decode cX0_isBefore 66 = .ok (.aload_n 1, 1) := by decide +kernel
theorem dX0_isBefore_67 : decode cX0_isBefore 67 = .ok (.getfield 7, 3) := by decide +kernel
theorem dX0_isBefore_70 : decode cX0_isBefore 70 = .ok (.if_icmp .ge 7, 3) := by decide +kernel
theorem dX0_isBefore_73 : decode cX0_isBefore 73 = .ok (.iconst 1, 1) := by decide +kernel
theorem dX0_isBefore_74 : decode cX0_isBefore 74 = .ok (.goto 4, 3) := by decide +kernel
theorem dX0_isBefore_77 : decode cX0_isBefore 77 = .ok (.iconst 0, 1) := by decide +kernel
theorem dX0_isBefore_78 : decode cX0_isBefore 78 = .ok (.ireturn, 1) := by decide +kernel
theorem dX0_isAt_0 : decode cX0_isAt 0 = .ok (.aload_n 0, 1) := by decide +kernel
theorem dX0_isAt_1 : decode cX0_isAt 1 = .ok (.getfield 13, 3) := by decide +kernel
theorem dX0_isAt_4 : decode cX0_isAt 4 = .ok (.aload_n 1, 1) := by decide +kernel
theorem dX0_isAt_5 : decode cX0_isAt 5 = .ok (.getfield 13, 3) := by decide +kernel
theorem dX0_isAt_8 : decode cX0_isAt 8 = .ok (.lcmp, 1) := by decide +kernel
theorem dX0_isAt_9 : decode cX0_isAt 9 = .ok (.ifCond .ne 19, 3) := by decide +kernel
theorem dX0_isAt_12 : decode cX0_isAt 12 = .ok (.aload_n 0, 1) := by decide +kernel
theorem dX0_isAt_13 : decode cX0_isAt 13 = .ok (.getfield 17, 3) := by decide +kernel
theorem dX0_isAt_16 : decode cX0_isAt 16 = .ok (.aload_n 1, 1) := by decide +kernel
theorem dX0_isAt_17 : decode cX0_isAt 17 = .ok (.getfield 17, 3) := by decide +kernel
theorem dX0_isAt_20 : decode cX0_isAt 20 = .ok (.lcmp, 1) := by decide +kernel
theorem dX0_isAt_21 : decode cX0_isAt 21 = .ok (.ifCond .ne 7, 3) := by decide +kernel
theorem dX0_isAt_24 : decode cX0_isAt 24 = .ok (.iconst 1, 1) := by decide +kernel
theorem dX0_isAt_25 : decode cX0_isAt 25 = .ok (.goto 4, 3) := by decide +kernel
theorem dX0_isAt_28 : decode cX0_isAt 28 = .ok (.iconst 0, 1) := by decide +kernel
theorem dX0_isAt_29 : decode cX0_isAt 29 = .ok (.ireturn, 1) := by decide +kernel
theorem dX0_turn_0 : decode cX0_turn 0 = .ok (.aload_n 1, 1) := by decide +kernel
theorem dX0_turn_1 : decode cX0_turn 1 = .ok (.getfield 13, 3) := by decide +kernel
theorem dX0_turn_4 : decode cX0_turn 4 = .ok (.aload_n 0, 1) := by decide +kernel
theorem dX0_turn_5 : decode cX0_turn 5 = .ok (.getfield 13, 3) := by decide +kernel
theorem dX0_turn_8 : decode cX0_turn 8 = .ok (.lsub, 1) := by decide +kernel
theorem dX0_turn_9 : decode cX0_turn 9 = .ok (.aload_n 2, 1) := by decide +kernel
theorem dX0_turn_10 : decode cX0_turn 10 = .ok (.getfield 17, 3) := by decide +kernel
theorem dX0_turn_13 : decode cX0_turn 13 = .ok (.aload_n 0, 1) := by decide +kernel
theorem dX0_turn_14 : decode cX0_turn 14 = .ok (.getfield 17, 3) := by decide +kernel
theorem dX0_turn_17 : decode cX0_turn 17 = .ok (.lsub, 1) := by decide +kernel
theorem dX0_turn_18 : decode cX0_turn 18 = .ok (.lmul, 1) := by decide +kernel
theorem dX0_turn_19 : decode cX0_turn 19 = .ok (.aload_n 1, 1) := by decide +kernel
theorem dX0_turn_20 : decode cX0_turn 20 = .ok (.getfield 17, 3) := by decide +kernel
theorem dX0_turn_23 : decode cX0_turn 23 = .ok (.aload_n 0, 1) := by decide +kernel
theorem dX0_turn_24 : decode cX0_turn 24 = .ok (.getfield 17, 3) := by decide +kernel
theorem dX0_turn_27 : decode cX0_turn 27 = .ok (.lsub, 1) := by decide +kernel
theorem dX0_turn_28 : decode cX0_turn 28 = .ok (.aload_n 2, 1) := by decide +kernel
theorem dX0_turn_29 : decode cX0_turn 29 = .ok (.getfield 13, 3) := by decide +kernel
theorem dX0_turn_32 : decode cX0_turn 32 = .ok (.aload_n 0, 1) := by decide +kernel
theorem dX0_turn_33 : decode cX0_turn 33 = .ok (.getfield 13, 3) := by decide +kernel
theorem dX0_turn_36 : decode cX0_turn 36 = .ok (.lsub, 1) := by decide +kernel
theorem dX0_turn_37 : decode cX0_turn 37 = .ok (.lmul, 1) := by decide +kernel
theorem dX0_turn_38 : decode cX0_turn 38 = .ok (.lsub, 1) := by decide +kernel
theorem dX0_turn_39 : decode cX0_turn 39 = .ok (.lreturn, 1) := by decide +kernel
theorem dX0_squareTo_0 : decode cX0_squareTo 0 = .ok (.aload_n 1, 1) := by decide +kernel
theorem dX0_squareTo_1 : decode cX0_squareTo 1 = .ok (.getfield 13, 3) := by decide +kernel
theorem dX0_squareTo_4 : decode cX0_squareTo 4 = .ok (.aload_n 0, 1) := by decide +kernel
theorem dX0_squareTo_5 : decode cX0_squareTo 5 = .ok (.getfield 13, 3) := by decide +kernel
theorem dX0_squareTo_8 : decode cX0_squareTo 8 = .ok (.lsub, 1) := by decide +kernel
theorem dX0_squareTo_9 : decode cX0_squareTo 9 = .ok (.aload_n 1, 1) := by decide +kernel
theorem dX0_squareTo_10 : decode cX0_squareTo 10 = .ok (.getfield 13, 3) := by decide +kernel
theorem dX0_squareTo_13 : decode cX0_squareTo 13 = .ok (.aload_n 0, 1) := by decide +kernel
theorem dX0_squareTo_14 : decode cX0_squareTo 14 = .ok (.getfield 13, 3) := by decide +kernel
theorem dX0_squareTo_17 : decode cX0_squareTo 17 = .ok (.lsub, 1) := by decide +kernel
theorem dX0_squareTo_18 : decode cX0_squareTo 18 = .ok (.lmul, 1) := by decide +kernel
theorem dX0_squareTo_19 : decode cX0_squareTo 19 = .ok (.aload_n 1, 1) := by decide +kernel
theorem dX0_squareTo_20 : decode cX0_squareTo 20 = .ok (.getfield 17, 3) := by decide +kernel
theorem dX0_squareTo_23 : decode cX0_squareTo 23 = .ok (.aload_n 0, 1) := by decide +kernel
theorem dX0_squareTo_24 : decode cX0_squareTo 24 = .ok (.getfield 17, 3) := by decide +kernel
theorem dX0_squareTo_27 : decode cX0_squareTo 27 = .ok (.lsub, 1) := by decide +kernel
theorem dX0_squareTo_28 : decode cX0_squareTo 28 = .ok (.aload_n 1, 1) := by decide +kernel
theorem dX0_squareTo_29 : decode cX0_squareTo 29 = .ok (.getfield 17, 3) := by decide +kernel
theorem dX0_squareTo_32 : decode cX0_squareTo 32 = .ok (.aload_n 0, 1) := by decide +kernel
theorem dX0_squareTo_33 : decode cX0_squareTo 33 = .ok (.getfield 17, 3) := by decide +kernel
theorem dX0_squareTo_36 : decode cX0_squareTo 36 = .ok (.lsub, 1) := by decide +kernel
theorem dX0_squareTo_37 : decode cX0_squareTo 37 = .ok (.lmul, 1) := by decide +kernel
theorem dX0_squareTo_38 : decode cX0_squareTo 38 = .ok (.ladd, 1) := by decide +kernel
theorem dX0_squareTo_39 : decode cX0_squareTo 39 = .ok (.lreturn, 1) := by decide +kernel
theorem dX0_seesMoreRightOf_0 : decode cX0_seesMoreRightOf 0 = .ok (.aload_n 0, 1) := by decide +kernel
theorem dX0_seesMoreRightOf_1 : decode cX0_seesMoreRightOf 1 = .ok (.aload_n 2, 1) := by decide +kernel
theorem dX0_seesMoreRightOf_2 : decode cX0_seesMoreRightOf 2 = .ok (.invokevirtual 20, 3) := by decide +kernel
theorem dX0_seesMoreRightOf_5 : decode cX0_seesMoreRightOf 5 = .ok (.ifCond .eq 5, 3) := by decide +kernel
theorem dX0_seesMoreRightOf_8 : decode cX0_seesMoreRightOf 8 = .ok (.iconst 0, 1) := by decide +kernel
theorem dX0_seesMoreRightOf_9 : decode cX0_seesMoreRightOf 9 = .ok (.ireturn, 1) := by decide +kernel
theorem dX0_seesMoreRightOf_10 : decode cX0_seesMoreRightOf 10 = .ok (.aload_n 0, 1) := by decide +kernel
theorem dX0_seesMoreRightOf_11 : decode cX0_seesMoreRightOf 11 = .ok (.aload_n 1, 1) := by decide +kernel
theorem dX0_seesMoreRightOf_12 : decode cX0_seesMoreRightOf 12 = .ok (.invokevirtual 20, 3) := by decide +kernel
theorem dX0_seesMoreRightOf_15 : decode cX0_seesMoreRightOf 15 = .ok (.ifCond .eq 5, 3) := by decide +kernel
theorem dX0_seesMoreRightOf_18 : decode cX0_seesMoreRightOf 18 = .ok (.iconst 1, 1) := by decide +kernel
theorem dX0_seesMoreRightOf_19 : decode cX0_seesMoreRightOf 19 = .ok (.ireturn, 1) := by decide +kernel
theorem dX0_seesMoreRightOf_20 : decode cX0_seesMoreRightOf 20 = .ok (.aload_n 0, 1) := by decide +kernel
theorem dX0_seesMoreRightOf_21 : decode cX0_seesMoreRightOf 21 = .ok (.aload_n 1, 1) := by decide +kernel
theorem dX0_seesMoreRightOf_22 : decode cX0_seesMoreRightOf 22 = .ok (.aload_n 2, 1) := by decide +kernel
theorem dX0_seesMoreRightOf_23 : decode cX0_seesMoreRightOf 23 = .ok (.invokevirtual 24, 3) := by decide +kernel
theorem dX0_seesMoreRightOf_26 : decode cX0_seesMoreRightOf 26 = .ok (.lstore_n 3, 1) := by decide +kernel
theorem dX0_seesMoreRightOf_27 : decode cX0_seesMoreRightOf 27 = .ok (.lload_n 3, 1) := by decide +kernel
theorem dX0_seesMoreRightOf_28 : decode cX0_seesMoreRightOf 28 = .ok (.lconst 0, 1) := by decide +kernel
theorem dX0_seesMoreRightOf_29 : decode cX0_seesMoreRightOf 29 = .ok (.lcmp, 1) := by decide +kernel
theorem dX0_seesMoreRightOf_30 : decode cX0_seesMoreRightOf 30 = .ok (.ifCond .lt 23, 3) := by decide +kernel
theorem dX0_seesMoreRightOf_33 : decode cX0_seesMoreRightOf 33 = .ok (.lload_n 3, 1) := by decide +kernel
theorem dX0_seesMoreRightOf_34 : decode cX0_seesMoreRightOf 34 = .ok (.lconst 0, 1) := by decide +kernel
theorem dX0_seesMoreRightOf_35 : decode cX0_seesMoreRightOf 35 = .ok (.lcmp, 1) := by decide +kernel
theorem dX0_seesMoreRightOf_36 : decode cX0_seesMoreRightOf 36 = .ok (.ifCond .ne 21, 3) := by decide +kernel
theorem dX0_seesMoreRightOf_39 : decode cX0_seesMoreRightOf 39 = .ok (.aload_n 0, 1) := by decide +kernel
theorem dX0_seesMoreRightOf_40 : decode cX0_seesMoreRightOf 40 = .ok (.aload_n 2, 1) := by decide +kernel
theorem dX0_seesMoreRightOf_41 : decode cX0_seesMoreRightOf 41 = .ok (.invokevirtual 28, 3) := by decide +kernel
theorem dX0_seesMoreRightOf_44 : decode cX0_seesMoreRightOf 44 = .ok (.aload_n 0, 1) := by decide +kernel
theorem dX0_seesMoreRightOf_45 : decode cX0_seesMoreRightOf 45 = .ok (.aload_n 1, 1) := by decide +kernel
theorem dX0_seesMoreRightOf_46 : decode cX0_seesMoreRightOf 46 = .ok (.invokevirtual 28, 3) := by decide +kernel
theorem dX0_seesMoreRightOf_49 : decode cX0_seesMoreRightOf 49 = .ok (.lcmp, 1) := by decide +kernel
theorem dX0_seesMoreRightOf_50 : decode cX0_seesMoreRightOf 50 = .ok (.ifCond .le 7, 3) := by decide +kernel
theorem dX0_seesMoreRightOf_53 : decode cX0_seesMoreRightOf 53 = .ok (.iconst 1, 1) := by decide +kernel
theorem dX0_seesMoreRightOf_54 : decode cX0_seesMoreRightOf 54 = .ok (.goto 4, 3) := by decide +kernel
theorem dX0_seesMoreRightOf_57 : decode cX0_seesMoreRightOf 57 = .ok (.iconst 0, 1) := by decide +kernel
theorem dX0_seesMoreRightOf_58 : decode cX0_seesMoreRightOf 58 = .ok (.ireturn, 1) := by decide +kernel
theorem dX1_init_0 : decode cX1_init 0 = .ok (.aload_n 0, 1) := by decide +kernel
theorem dX1_init_1 : decode cX1_init 1 = .ok (.invokespecial 3, 3) := by decide +kernel
theorem dX1_init_4 : decode cX1_init 4 = .ok (.aload_n 0, 1) := by decide +kernel
theorem dX1_init_5 : decode cX1_init 5 = .ok (.lload_n 1, 1) := by decide +kernel
theorem dX1_init_6 : decode cX1_init 6 = .ok (.putfield 9, 3) := by decide +kernel
theorem dX1_init_9 : decode cX1_init 9 = .ok (.aload_n 0, 1) := by decide +kernel
theorem dX1_init_10 : decode cX1_init 10 = .ok (.lload_n 3, 1) := by decide +kernel
theorem dX1_init_11 : decode cX1_init 11 = .ok (.putfield 15, 3) := by decide +kernel
theorem dX1_init_14 : decode cX1_init 14 = .ok (.aload_n 0, 1) := by decide +kernel
theorem dX1_init_15 : decode cX1_init 15 = .ok (.lload 5, 2) := by decide +kernel
theorem dX1_init_17 : decode cX1_init 17 = .ok (.putfield 18, 3) := by decide +kernel
theorem dX1_init_20 : decode cX1_init 20 = .ok (.aload_n 0, 1) := by decide +kernel
theorem dX1_init_21 : decode cX1_init 21 = .ok (.lload 7, 2) := by decide +kernel
theorem dX1_init_23 : decode cX1_init 23 = .ok (.putfield 21, 3) := by decide +kernel
theorem dX1_init_26 : decode cX1_init 26 = .ok (.aload_n 0, 1) := by decide +kernel
theorem dX1_init_27 : decode cX1_init 27 = .ok (.iconst (-1), 1) := by decide +kernel
theorem dX1_init_28 : decode cX1_init 28 = .ok (.putfield 24, 3) := by decide +kernel
theorem dX1_init_31 : decode cX1_init 31 = .ok (.aload_n 0, 1) := by decide +kernel
theorem dX1_init_32 : decode cX1_init 32 = .ok (.lconst 0, 1) := by decide +kernel
theorem dX1_init_33 : decode cX1_init 33 = .ok (.putfield 28, 3) := by decide +kernel
theorem dX1_init_36 : decode cX1_init 36 = .ok (.return_, 1) := by decide +kernel
theorem dX1_placeOn_0 : decode cX1_placeOn 0 = .ok (.iload_n 1, 1) := by decide +kernel
theorem dX1_placeOn_1 : decode cX1_placeOn 1 = .ok (.ifCond .ne 8, 3) := by decide +kernel
theorem dX1_placeOn_4 : decode cX1_placeOn 4 = .ok (.aload_n 0, 1) := by decide +kernel
theorem dX1_placeOn_5 : decode cX1_placeOn 5 = .ok (.getfield 9, 3) := by decide +kernel
theorem dX1_placeOn_8 : decode cX1_placeOn 8 = .ok (.lreturn, 1) := by decide +kernel
theorem dX1_placeOn_9 : decode cX1_placeOn 9 = .ok (.iload_n 1, 1) := by decide +kernel
theorem dX1_placeOn_10 : decode cX1_placeOn 10 = .ok (.iconst 1, 1) := by decide +kernel
theorem dX1_placeOn_11 : decode cX1_placeOn 11 = .ok (.if_icmp .ne 10, 3) := by decide +kernel
theorem dX1_placeOn_14 : decode cX1_placeOn 14 = .ok (.aload_n 0, 1) := by decide +kernel
theorem dX1_placeOn_15 : decode cX1_placeOn 15 = .ok (.getfield 15, 3) := by decide +kernel
theorem dX1_placeOn_18 : decode cX1_placeOn 18 = .ok (.goto 7, 3) := by decide +kernel
theorem dX1_placeOn_21 : decode cX1_placeOn 21 = .ok (.aload_n 0, 1) := by decide +kernel
theorem dX1_placeOn_22 : decode cX1_placeOn 22 = .ok (.getfield 18, 3) := by decide +kernel
theorem dX1_placeOn_25 : decode cX1_placeOn 25 = .ok (.lreturn, 1) := by decide +kernel
theorem dX1_momentAbout_0 : decode cX1_momentAbout 0 = .ok (.aload_n 0, 1) := by decide +kernel
theorem dX1_momentAbout_1 : decode cX1_momentAbout 1 = .ok (.getfield 24, 3) := by decide +kernel
theorem dX1_momentAbout_4 : decode cX1_momentAbout 4 = .ok (.iconst (-1), 1) := by decide +kernel
theorem dX1_momentAbout_5 : decode cX1_momentAbout 5 = .ok (.if_icmp .eq 15, 3) := by decide +kernel
theorem dX1_momentAbout_8 : decode cX1_momentAbout 8 = .ok (.aload_n 0, 1) := by decide +kernel
theorem dX1_momentAbout_9 : decode cX1_momentAbout 9 = .ok (.getfield 24, 3) := by decide +kernel
theorem dX1_momentAbout_12 : decode cX1_momentAbout 12 = .ok (.iload_n 2, 1) := by decide +kernel
theorem dX1_momentAbout_13 : decode cX1_momentAbout 13 = .ok (.if_icmp .ge 7, 3) := by decide +kernel
theorem dX1_momentAbout_16 : decode cX1_momentAbout 16 = .ok (.iconst 1, 1) := by decide +kernel
theorem dX1_momentAbout_17 : decode cX1_momentAbout 17 = .ok (.goto 4, 3) := by decide +kernel
theorem dX1_momentAbout_20 : decode cX1_momentAbout 20 = .ok (.iconst 0, 1) := by decide +kernel
theorem dX1_momentAbout_21 : decode cX1_momentAbout 21 = .ok (.istore_n 3, 1) := by decide +kernel
theorem dX1_momentAbout_22 : decode cX1_momentAbout 22 = .ok (.aload_n 0, 1) := by decide +kernel
theorem dX1_momentAbout_23 : decode cX1_momentAbout 23 = .ok (.getfield 21, 3) := by decide +kernel
theorem dX1_momentAbout_26 : decode cX1_momentAbout 26 = .ok (.aload_n 1, 1) := by decide +kernel
theorem dX1_momentAbout_27 : decode cX1_momentAbout 27 = .ok (.aload_n 0, 1) := by decide +kernel
theorem dX1_momentAbout_28 : decode cX1_momentAbout 28 = .ok (.getfield 9, 3) := by decide +kernel
theorem dX1_momentAbout_31 : decode cX1_momentAbout 31 = .ok (.iload_n 3, 1) := by decide +kernel
theorem dX1_momentAbout_32 : decode cX1_momentAbout 32 = .ok (.ifCond .eq 15, 3) := by decide +kernel
theorem dX1_momentAbout_35 : decode cX1_momentAbout 35 = .ok (.aload_n 0, 1) := by decide +kernel
theorem dX1_momentAbout_36 : decode cX1_momentAbout 36 = .ok (.getfield 15, 3) := by decide +kernel
theorem dX1_momentAbout_39 : decode cX1_momentAbout 39 = .ok (.aload_n 0, 1) := by decide +kernel
theorem dX1_momentAbout_40 : decode cX1_momentAbout 40 = .ok (.getfield 28, 3) := by decide +kernel
theorem dX1_momentAbout_43 : decode cX1_momentAbout 43 = .ok (.ladd, 1) := by decide +kernel
theorem dX1_momentAbout_44 : decode cX1_momentAbout 44 = .ok (.goto 7, 3) := by decide +kernel
theorem dX1_momentAbout_47 : decode cX1_momentAbout 47 = .ok (.aload_n 0, 1) := by decide +kernel
theorem dX1_momentAbout_48 : decode cX1_momentAbout 48 = .ok (.getfield 15, 3) := by decide +kernel
theorem dX1_momentAbout_51 : decode cX1_momentAbout 51 = .ok (.invokevirtual 31, 3) := by decide +kernel
theorem dX1_momentAbout_54 : decode cX1_momentAbout 54 = .ok (.lmul, 1) := by decide +kernel
theorem dX1_momentAbout_55 : decode cX1_momentAbout 55 = .ok (.lreturn, 1) := by decide +kernel
theorem dX2_init_0 : decode cX2_init 0 = .ok (.aload_n 0, 1) := by decide +kernel
theorem dX2_init_1 : decode cX2_init 1 = .ok (.invokespecial 1, 3) := by decide +kernel
theorem dX2_init_4 : decode cX2_init 4 = .ok (.aload_n 0, 1) := by decide +kernel
theorem dX2_init_5 : decode cX2_init 5 = .ok (.aload_n 1, 1) := by decide +kernel
theorem dX2_init_6 : decode cX2_init 6 = .ok (.putfield 7, 3) := by decide +kernel
theorem dX2_init_9 : decode cX2_init 9 = .ok (.aload_n 0, 1) := by decide +kernel
theorem dX2_init_10 : decode cX2_init 10 = .ok (.aload_n 2, 1) := by decide +kernel
theorem dX2_init_11 : decode cX2_init 11 = .ok (.putfield 13, 3) := by decide +kernel
theorem dX2_init_14 : decode cX2_init 14 = .ok (.return_, 1) := by decide +kernel
theorem dX2_turnTo_0 : decode cX2_turnTo 0 = .ok (.aload_n 0, 1) := by decide +kernel
theorem dX2_turnTo_1 : decode cX2_turnTo 1 = .ok (.getfield 13, 3) := by decide +kernel
theorem dX2_turnTo_4 : decode cX2_turnTo 4 = .ok (.getfield 16, 3) := by decide +kernel
theorem dX2_turnTo_7 : decode cX2_turnTo 7 = .ok (.aload_n 0, 1) := by decide +kernel
theorem dX2_turnTo_8 : decode cX2_turnTo 8 = .ok (.getfield 7, 3) := by decide +kernel
theorem dX2_turnTo_11 : decode cX2_turnTo 11 = .ok (.getfield 16, 3) := by decide +kernel
theorem dX2_turnTo_14 : decode cX2_turnTo 14 = .ok (.lsub, 1) := by decide +kernel
theorem dX2_turnTo_15 : decode cX2_turnTo 15 = .ok (.lload_n 3, 1) := by decide +kernel
theorem dX2_turnTo_16 : decode cX2_turnTo 16 = .ok (.aload_n 0, 1) := by decide +kernel
theorem dX2_turnTo_17 : decode cX2_turnTo 17 = .ok (.getfield 7, 3) := by decide +kernel
theorem dX2_turnTo_20 : decode cX2_turnTo 20 = .ok (.getfield 22, 3) := by decide +kernel
theorem dX2_turnTo_23 : decode cX2_turnTo 23 = .ok (.lsub, 1) := by decide +kernel
theorem dX2_turnTo_24 : decode cX2_turnTo 24 = .ok (.lmul, 1) := by decide +kernel
theorem dX2_turnTo_25 : decode cX2_turnTo 25 = .ok (.aload_n 0, 1) := by decide +kernel
theorem dX2_turnTo_26 : decode cX2_turnTo 26 = .ok (.getfield 13, 3) := by decide +kernel
theorem dX2_turnTo_29 : decode cX2_turnTo 29 = .ok (.getfield 22, 3) := by decide +kernel
theorem dX2_turnTo_32 : decode cX2_turnTo 32 = .ok (.aload_n 0, 1) := by decide +kernel
theorem dX2_turnTo_33 : decode cX2_turnTo 33 = .ok (.getfield 7, 3) := by decide +kernel
theorem dX2_turnTo_36 : decode cX2_turnTo 36 = .ok (.getfield 22, 3) := by decide +kernel
theorem dX2_turnTo_39 : decode cX2_turnTo 39 = .ok (.lsub, 1) := by decide +kernel
theorem dX2_turnTo_40 : decode cX2_turnTo 40 = .ok (.lload_n 1, 1) := by decide +kernel
theorem dX2_turnTo_41 : decode cX2_turnTo 41 = .ok (.aload_n 0, 1) := by decide +kernel
theorem dX2_turnTo_42 : decode cX2_turnTo 42 = .ok (.getfield 7, 3) := by decide +kernel
theorem dX2_turnTo_45 : decode cX2_turnTo 45 = .ok (.getfield 16, 3) := by decide +kernel
theorem dX2_turnTo_48 : decode cX2_turnTo 48 = .ok (.lsub, 1) := by decide +kernel
theorem dX2_turnTo_49 : decode cX2_turnTo 49 = .ok (.lmul, 1) := by decide +kernel
theorem dX2_turnTo_50 : decode cX2_turnTo 50 = .ok (.lsub, 1) := by decide +kernel
theorem dX2_turnTo_51 : decode cX2_turnTo 51 = .ok (.lreturn, 1) := by decide +kernel
theorem dX3_init_0 : decode cX3_init 0 = .ok (.aload_n 0, 1) := by decide +kernel
theorem dX3_init_1 : decode cX3_init 1 = .ok (.invokespecial 1, 3) := by decide +kernel
theorem dX3_init_4 : decode cX3_init 4 = .ok (.aload_n 0, 1) := by decide +kernel
theorem dX3_init_5 : decode cX3_init 5 = .ok (.aload_n 1, 1) := by decide +kernel
theorem dX3_init_6 : decode cX3_init 6 = .ok (.putfield 7, 3) := by decide +kernel
theorem dX3_init_9 : decode cX3_init 9 = .ok (.aload_n 0, 1) := by decide +kernel
theorem dX3_init_10 : decode cX3_init 10 = .ok (.iload_n 2, 1) := by decide +kernel
theorem dX3_init_11 : decode cX3_init 11 = .ok (.putfield 13, 3) := by decide +kernel
theorem dX3_init_14 : decode cX3_init 14 = .ok (.return_, 1) := by decide +kernel
theorem dX4_init_0 : decode cX4_init 0 = .ok (.aload_n 0, 1) := by decide +kernel
theorem dX4_init_1 : decode cX4_init 1 = .ok (.invokespecial 3, 3) := by decide +kernel
theorem dX4_init_4 : decode cX4_init 4 = .ok (.aload_n 0, 1) := by decide +kernel
theorem dX4_init_5 : decode cX4_init 5 = .ok (.aload_n 1, 1) := by decide +kernel
theorem dX4_init_6 : decode cX4_init 6 = .ok (.putfield 9, 3) := by decide +kernel
theorem dX4_init_9 : decode cX4_init 9 = .ok (.aload_n 0, 1) := by decide +kernel
theorem dX4_init_10 : decode cX4_init 10 = .ok (.new 15, 3) := by decide +kernel
theorem dX4_init_13 : decode cX4_init 13 = .ok (.dup, 1) := by decide +kernel
theorem dX4_init_14 : decode cX4_init 14 = .ok (.invokespecial 17, 3) := by decide +kernel
theorem dX4_init_17 : decode cX4_init 17 = .ok (.putfield 18, 3) := by decide +kernel
theorem dX4_init_20 : decode cX4_init 20 = .ok (.aload_n 0, 1) := by decide +kernel
theorem dX4_init_21 : decode cX4_init 21 = .ok (.iconst 0, 1) := by decide +kernel
theorem dX4_init_22 : decode cX4_init 22 = .ok (.putfield 22, 3) := by decide +kernel
theorem dX4_init_25 : decode cX4_init 25 = .ok (.aload_n 0, 1) := by decide +kernel
theorem dX4_init_26 : decode cX4_init 26 = .ok (.iconst 0, 1) := by decide +kernel
theorem dX4_init_27 : decode cX4_init 27 = .ok (.putfield 26, 3) := by decide +kernel
theorem dX4_init_30 : decode cX4_init 30 = .ok (.return_, 1) := by decide +kernel
theorem dX4_readTrials_0 : decode cX4_readTrials 0 = .ok (.iconst 0, 1) := by decide +kernel
theorem dX4_readTrials_1 : decode cX4_readTrials 1 = .ok (.istore_n 1, 1) := by decide +kernel
theorem dX4_readTrials_2 : decode cX4_readTrials 2 = .ok (.iload_n 1, 1) := by decide +kernel
theorem dX4_readTrials_3 : decode cX4_readTrials 3 = .ok (.bipush 12, 2) := by decide +kernel
theorem dX4_readTrials_5 : decode cX4_readTrials 5 = .ok (.if_icmp .ge 49, 3) := by decide +kernel
theorem dX4_readTrials_8 : decode cX4_readTrials 8 = .ok (.iload_n 1, 1) := by decide +kernel
theorem dX4_readTrials_9 : decode cX4_readTrials 9 = .ok (.ifCond .le 14, 3) := by decide +kernel
theorem dX4_readTrials_12 : decode cX4_readTrials 12 = .ok (.aload_n 0, 1) := by decide +kernel
theorem dX4_readTrials_13 : decode cX4_readTrials 13 = .ok (.bipush 59, 2) := by decide +kernel
theorem dX4_readTrials_15 : decode cX4_readTrials 15 = .ok (.invokevirtual 29, 3) := by decide +kernel
theorem dX4_readTrials_18 : decode cX4_readTrials 18 = .ok (.ifCond .ne 5, 3) := by decide +kernel
theorem dX4_readTrials_21 : decode cX4_readTrials 21 = .ok (.iconst 0, 1) := by decide +kernel
theorem dX4_readTrials_22 : decode cX4_readTrials 22 = .ok (.ireturn, 1) := by decide +kernel
theorem dX4_readTrials_23 : decode cX4_readTrials 23 = .ok (.aload_n 0, 1) := by decide +kernel
theorem dX4_readTrials_24 : decode cX4_readTrials 24 = .ok (.invokevirtual 33, 3) := by decide +kernel
theorem dX4_readTrials_27 : decode cX4_readTrials 27 = .ok (.ifCond .ne 5, 3) := by decide +kernel
theorem dX4_readTrials_30 : decode cX4_readTrials 30 = .ok (.iconst 0, 1) := by decide +kernel
theorem dX4_readTrials_31 : decode cX4_readTrials 31 = .ok (.ireturn, 1) := by decide +kernel
theorem dX4_readTrials_32 : decode cX4_readTrials 32 = .ok (.aload_n 0, 1) := by decide +kernel
theorem dX4_readTrials_33 : decode cX4_readTrials 33 = .ok (.getfield 22, 3) := by decide +kernel
theorem dX4_readTrials_36 : decode cX4_readTrials 36 = .ok (.aload_n 0, 1) := by decide +kernel
theorem dX4_readTrials_37 : decode cX4_readTrials 37 = .ok (.getfield 9, 3) := by decide +kernel
theorem dX4_readTrials_40 : decode cX4_readTrials 40 = .ok (.invokevirtual 37, 3) := by decide +kernel
theorem dX4_readTrials_43 : decode cX4_readTrials 43 = .ok (.if_icmp .lt 5, 3) := by decide +kernel
theorem dX4_readTrials_46 : decode cX4_readTrials 46 = .ok (.iconst 1, 1) := by decide +kernel
theorem dX4_readTrials_47 : decode cX4_readTrials 47 = .ok (.ireturn, 1) := by decide +kernel
theorem dX4_readTrials_48 : decode cX4_readTrials 48 = .ok (.iinc 1 1, 3) := by decide +kernel
theorem dX4_readTrials_51 : decode cX4_readTrials 51 = .ok (.goto (-49), 3) := by decide +kernel
theorem dX4_readTrials_54 : decode cX4_readTrials 54 = .ok (.iconst 0, 1) := by decide +kernel
theorem dX4_readTrials_55 : decode cX4_readTrials 55 = .ok (.ireturn, 1) := by decide +kernel
theorem dX4_readTrial_0 : decode cX4_readTrial 0 = .ok (.aload_n 0, 1) := by decide +kernel
theorem dX4_readTrial_1 : decode cX4_readTrial 1 = .ok (.invokevirtual 43, 3) := by decide +kernel
theorem dX4_readTrial_4 : decode cX4_readTrial 4 = .ok (.ifCond .eq 12, 3) := by decide +kernel
theorem dX4_readTrial_7 : decode cX4_readTrial 7 = .ok (.aload_n 0, 1) := by decide +kernel
theorem dX4_readTrial_8 : decode cX4_readTrial 8 = .ok (.bipush 44, 2) := by decide +kernel
theorem dX4_readTrial_10 : decode cX4_readTrial 10 = .ok (.invokevirtual 29, 3) := by decide +kernel
theorem dX4_readTrial_13 : decode cX4_readTrial 13 = .ok (.ifCond .ne 5, 3) := by decide +kernel
theorem dX4_readTrial_16 : decode cX4_readTrial 16 = .ok (.iconst 0, 1) := by decide +kernel
theorem dX4_readTrial_17 : decode cX4_readTrial 17 = .ok (.ireturn, 1) := by decide +kernel
theorem dX4_readTrial_18 : decode cX4_readTrial 18 = .ok (.aload_n 0, 1) := by decide +kernel
theorem dX4_readTrial_19 : decode cX4_readTrial 19 = .ok (.getfield 26, 3) := by decide +kernel
theorem dX4_readTrial_22 : decode cX4_readTrial 22 = .ok (.istore_n 1, 1) := by decide +kernel
theorem dX4_readTrial_23 : decode cX4_readTrial 23 = .ok (.aload_n 0, 1) := by decide +kernel
theorem dX4_readTrial_24 : decode cX4_readTrial 24 = .ok (.invokevirtual 43, 3) := by decide +kernel
theorem dX4_readTrial_27 : decode cX4_readTrial 27 = .ok (.ifCond .eq 12, 3) := by decide +kernel
theorem dX4_readTrial_30 : decode cX4_readTrial 30 = .ok (.aload_n 0, 1) := by decide +kernel
theorem dX4_readTrial_31 : decode cX4_readTrial 31 = .ok (.bipush 44, 2) := by decide +kernel
theorem dX4_readTrial_33 : decode cX4_readTrial 33 = .ok (.invokevirtual 29, 3) := by decide +kernel
theorem dX4_readTrial_36 : decode cX4_readTrial 36 = .ok (.ifCond .ne 5, 3) := by decide +kernel
theorem dX4_readTrial_39 : decode cX4_readTrial 39 = .ok (.iconst 0, 1) := by decide +kernel
theorem dX4_readTrial_40 : decode cX4_readTrial 40 = .ok (.ireturn, 1) := by decide +kernel
theorem dX4_readTrial_41 : decode cX4_readTrial 41 = .ok (.aload_n 0, 1) := by decide +kernel
theorem dX4_readTrial_42 : decode cX4_readTrial 42 = .ok (.getfield 26, 3) := by decide +kernel
theorem dX4_readTrial_45 : decode cX4_readTrial 45 = .ok (.istore_n 2, 1) := by decide +kernel
theorem dX4_readTrial_46 : decode cX4_readTrial 46 = .ok (.aload_n 0, 1) := by decide +kernel
theorem dX4_readTrial_47 : decode cX4_readTrial 47 = .ok (.invokevirtual 46, 3) := by decide +kernel
theorem dX4_readTrial_50 : decode cX4_readTrial 50 = .ok (.ifCond .eq 12, 3) := by decide +kernel
theorem dX4_readTrial_53 : decode cX4_readTrial 53 = .ok (.aload_n 0, 1) := by decide +kernel
theorem dX4_readTrial_54 : decode cX4_readTrial 54 = .ok (.bipush 44, 2) := by decide +kernel
theorem dX4_readTrial_56 : decode cX4_readTrial 56 = .ok (.invokevirtual 29, 3) := by decide +kernel
theorem dX4_readTrial_59 : decode cX4_readTrial 59 = .ok (.ifCond .ne 5, 3) := by decide +kernel
theorem dX4_readTrial_62 : decode cX4_readTrial 62 = .ok (.iconst 0, 1) := by decide +kernel
theorem dX4_readTrial_63 : decode cX4_readTrial 63 = .ok (.ireturn, 1) := by decide +kernel
theorem dX4_readTrial_64 : decode cX4_readTrial 64 = .ok (.aload_n 0, 1) := by decide +kernel
theorem dX4_readTrial_65 : decode cX4_readTrial 65 = .ok (.getfield 26, 3) := by decide +kernel
theorem dX4_readTrial_68 : decode cX4_readTrial 68 = .ok (.istore_n 3, 1) := by decide +kernel
theorem dX4_readTrial_69 : decode cX4_readTrial 69 = .ok (.aload_n 0, 1) := by decide +kernel
theorem dX4_readTrial_70 : decode cX4_readTrial 70 = .ok (.invokevirtual 46, 3) := by decide +kernel
theorem dX4_readTrial_73 : decode cX4_readTrial 73 = .ok (.ifCond .ne 5, 3) := by decide +kernel
theorem dX4_readTrial_76 : decode cX4_readTrial 76 = .ok (.iconst 0, 1) := by decide +kernel
theorem dX4_readTrial_77 : decode cX4_readTrial 77 = .ok (.ireturn, 1) := by decide +kernel
theorem dX4_readTrial_78 : decode cX4_readTrial 78 = .ok (.aload_n 0, 1) := by decide +kernel
theorem dX4_readTrial_79 : decode cX4_readTrial 79 = .ok (.getfield 18, 3) := by decide +kernel
theorem dX4_readTrial_82 : decode cX4_readTrial 82 = .ok (.new 49, 3) := by decide +kernel
theorem dX4_readTrial_85 : decode cX4_readTrial 85 = .ok (.dup, 1) := by decide +kernel
theorem dX4_readTrial_86 : decode cX4_readTrial 86 = .ok (.new 51, 3) := by decide +kernel
theorem dX4_readTrial_89 : decode cX4_readTrial 89 = .ok (.dup, 1) := by decide +kernel
theorem dX4_readTrial_90 : decode cX4_readTrial 90 = .ok (.iload_n 1, 1) := by decide +kernel
theorem dX4_readTrial_91 : decode cX4_readTrial 91 = .ok (.i2l, 1) := by decide +kernel
theorem dX4_readTrial_92 : decode cX4_readTrial 92 = .ok (.iload_n 2, 1) := by decide +kernel
theorem dX4_readTrial_93 : decode cX4_readTrial 93 = .ok (.i2l, 1) := by decide +kernel
theorem dX4_readTrial_94 : decode cX4_readTrial 94 = .ok (.lconst 0, 1) := by decide +kernel
theorem dX4_readTrial_95 : decode cX4_readTrial 95 = .ok (.iload_n 3, 1) := by decide +kernel
theorem dX4_readTrial_96 : decode cX4_readTrial 96 = .ok (.i2l, 1) := by decide +kernel
theorem dX4_readTrial_97 : decode cX4_readTrial 97 = .ok (.invokespecial 53, 3) := by decide +kernel
theorem dX4_readTrial_100 : decode cX4_readTrial 100 = .ok (.aload_n 0, 1) := by decide +kernel
theorem dX4_readTrial_101 : decode cX4_readTrial 101 = .ok (.getfield 26, 3) := by decide +kernel
theorem dX4_readTrial_104 : decode cX4_readTrial 104 = .ok (.invokespecial 56, 3) := by decide +kernel
theorem dX4_readTrial_107 : decode cX4_readTrial 107 = .ok (.invokevirtual 59, 3) := by decide +kernel
theorem dX4_readTrial_110 : decode cX4_readTrial 110 = .ok (.pop, 1) := by decide +kernel
theorem dX4_readTrial_111 : decode cX4_readTrial 111 = .ok (.iconst 1, 1) := by decide +kernel
theorem dX4_readTrial_112 : decode cX4_readTrial 112 = .ok (.ireturn, 1) := by decide +kernel
theorem dX4_readSigned_0 : decode cX4_readSigned 0 = .ok (.aload_n 0, 1) := by decide +kernel
theorem dX4_readSigned_1 : decode cX4_readSigned 1 = .ok (.bipush 45, 2) := by decide +kernel
theorem dX4_readSigned_3 : decode cX4_readSigned 3 = .ok (.invokevirtual 29, 3) := by decide +kernel
theorem dX4_readSigned_6 : decode cX4_readSigned 6 = .ok (.istore_n 1, 1) := by decide +kernel
theorem dX4_readSigned_7 : decode cX4_readSigned 7 = .ok (.aload_n 0, 1) := by decide +kernel
theorem dX4_readSigned_8 : decode cX4_readSigned 8 = .ok (.invokevirtual 46, 3) := by decide +kernel
theorem dX4_readSigned_11 : decode cX4_readSigned 11 = .ok (.istore_n 2, 1) := by decide +kernel
theorem dX4_readSigned_12 : decode cX4_readSigned 12 = .ok (.iload_n 1, 1) := by decide +kernel
theorem dX4_readSigned_13 : decode cX4_readSigned 13 = .ok (.ifCond .eq 12, 3) := by decide +kernel
theorem dX4_readSigned_16 : decode cX4_readSigned 16 = .ok (.aload_n 0, 1) := by decide +kernel
theorem dX4_readSigned_17 : decode cX4_readSigned 17 = .ok (.aload_n 0, 1) := by decide +kernel
theorem dX4_readSigned_18 : decode cX4_readSigned 18 = .ok (.getfield 26, 3) := by decide +kernel
theorem dX4_readSigned_21 : decode cX4_readSigned 21 = .ok (.ineg, 1) := by decide +kernel
theorem dX4_readSigned_22 : decode cX4_readSigned 22 = .ok (.putfield 26, 3) := by decide +kernel
theorem dX4_readSigned_25 : decode cX4_readSigned 25 = .ok (.iload_n 2, 1) := by decide +kernel
theorem dX4_readSigned_26 : decode cX4_readSigned 26 = .ok (.ireturn, 1) := by decide +kernel
theorem dX4_readDigits_0 : decode cX4_readDigits 0 = .ok (.aload_n 0, 1) := by decide +kernel
theorem dX4_readDigits_1 : decode cX4_readDigits 1 = .ok (.iconst 0, 1) := by decide +kernel
theorem dX4_readDigits_2 : decode cX4_readDigits 2 = .ok (.putfield 26, 3) := by decide +kernel
theorem dX4_readDigits_5 : decode cX4_readDigits 5 = .ok (.iconst 0, 1) := by decide +kernel
theorem dX4_readDigits_6 : decode cX4_readDigits 6 = .ok (.istore_n 1, 1) := by decide +kernel
theorem dX4_readDigits_7 : decode cX4_readDigits 7 = .ok (.aload_n 0, 1) := by decide +kernel
theorem dX4_readDigits_8 : decode cX4_readDigits 8 = .ok (.invokevirtual 63, 3) := by decide +kernel
theorem dX4_readDigits_11 : decode cX4_readDigits 11 = .ok (.istore_n 2, 1) := by decide +kernel
theorem dX4_readDigits_12 : decode cX4_readDigits 12 = .ok (.iload_n 1, 1) := by decide +kernel
theorem dX4_readDigits_13 : decode cX4_readDigits 13 = .ok (.iconst 5, 1) := by decide +kernel
theorem dX4_readDigits_14 : decode cX4_readDigits 14 = .ok (.if_icmp .ge 42, 3) := by decide +kernel
theorem dX4_readDigits_17 : decode cX4_readDigits 17 = .ok (.iload_n 2, 1) := by decide +kernel
theorem dX4_readDigits_18 : decode cX4_readDigits 18 = .ok (.iconst (-1), 1) := by decide +kernel
theorem dX4_readDigits_19 : decode cX4_readDigits 19 = .ok (.if_icmp .eq 37, 3) := by decide +kernel
theorem dX4_readDigits_22 : decode cX4_readDigits 22 = .ok (.aload_n 0, 1) := by decide +kernel
theorem dX4_readDigits_23 : decode cX4_readDigits 23 = .ok (.bipush 10, 2) := by decide +kernel
theorem dX4_readDigits_25 : decode cX4_readDigits 25 = .ok (.aload_n 0, 1) := by decide +kernel
theorem dX4_readDigits_26 : decode cX4_readDigits 26 = .ok (.getfield 26, 3) := by decide +kernel
theorem dX4_readDigits_29 : decode cX4_readDigits 29 = .ok (.imul, 1) := by decide +kernel
theorem dX4_readDigits_30 : decode cX4_readDigits 30 = .ok (.iload_n 2, 1) := by decide +kernel
theorem dX4_readDigits_31 : decode cX4_readDigits 31 = .ok (.iadd, 1) := by decide +kernel
theorem dX4_readDigits_32 : decode cX4_readDigits 32 = .ok (.putfield 26, 3) := by decide +kernel
theorem dX4_readDigits_35 : decode cX4_readDigits 35 = .ok (.aload_n 0, 1) := by decide +kernel
theorem dX4_readDigits_36 : decode cX4_readDigits 36 = .ok (.dup, 1) := by decide +kernel
theorem dX4_readDigits_37 : decode cX4_readDigits 37 = .ok (.getfield 22, 3) := by decide +kernel
theorem dX4_readDigits_40 : decode cX4_readDigits 40 = .ok (.iconst 1, 1) := by decide +kernel
theorem dX4_readDigits_41 : decode cX4_readDigits 41 = .ok (.iadd, 1) := by decide +kernel
theorem dX4_readDigits_42 : decode cX4_readDigits 42 = .ok (.putfield 22, 3) := by decide +kernel
theorem dX4_readDigits_45 : decode cX4_readDigits 45 = .ok (.iinc 1 1, 3) := by decide +kernel
theorem dX4_readDigits_48 : decode cX4_readDigits 48 = .ok (.aload_n 0, 1) := by decide +kernel
theorem dX4_readDigits_49 : decode cX4_readDigits 49 = .ok (.invokevirtual 63, 3) := by decide +kernel
theorem dX4_readDigits_52 : decode cX4_readDigits 52 = .ok (.istore_n 2, 1) := by decide +kernel
theorem dX4_readDigits_53 : decode cX4_readDigits 53 = .ok (.goto (-41), 3) := by decide +kernel
theorem dX4_readDigits_56 : decode cX4_readDigits 56 = .ok (.iload_n 1, 1) := by decide +kernel
theorem dX4_readDigits_57 : decode cX4_readDigits 57 = .ok (.ifCond .le 7, 3) := by decide +kernel
theorem dX4_readDigits_60 : decode cX4_readDigits 60 = .ok (.iconst 1, 1) := by decide +kernel
theorem dX4_readDigits_61 : decode cX4_readDigits 61 = .ok (.goto 4, 3) := by decide +kernel
theorem dX4_readDigits_64 : decode cX4_readDigits 64 = .ok (.iconst 0, 1) := by decide +kernel
theorem dX4_readDigits_65 : decode cX4_readDigits 65 = .ok (.ireturn, 1) := by decide +kernel
theorem dX4_digitHere_0 : decode cX4_digitHere 0 = .ok (.aload_n 0, 1) := by decide +kernel
theorem dX4_digitHere_1 : decode cX4_digitHere 1 = .ok (.getfield 22, 3) := by decide +kernel
theorem dX4_digitHere_4 : decode cX4_digitHere 4 = .ok (.aload_n 0, 1) := by decide +kernel
theorem dX4_digitHere_5 : decode cX4_digitHere 5 = .ok (.getfield 9, 3) := by decide +kernel
theorem dX4_digitHere_8 : decode cX4_digitHere 8 = .ok (.invokevirtual 37, 3) := by decide +kernel
theorem dX4_digitHere_11 : decode cX4_digitHere 11 = .ok (.if_icmp .lt 5, 3) := by decide +kernel
theorem dX4_digitHere_14 : decode cX4_digitHere 14 = .ok (.iconst (-1), 1) := by decide +kernel
theorem dX4_digitHere_15 : decode cX4_digitHere 15 = .ok (.ireturn, 1) := by decide +kernel
theorem dX4_digitHere_16 : decode cX4_digitHere 16 = .ok (.aload_n 0, 1) := by decide +kernel
theorem dX4_digitHere_17 : decode cX4_digitHere 17 = .ok (.getfield 9, 3) := by decide +kernel
theorem dX4_digitHere_20 : decode cX4_digitHere 20 = .ok (.aload_n 0, 1) := by decide +kernel
theorem dX4_digitHere_21 : decode cX4_digitHere 21 = .ok (.getfield 22, 3) := by decide +kernel
theorem dX4_digitHere_24 : decode cX4_digitHere 24 = .ok (.invokevirtual 66, 3) := by decide +kernel
theorem dX4_digitHere_27 : decode cX4_digitHere 27 = .ok (.bipush 48, 2) := by decide +kernel
theorem dX4_digitHere_29 : decode cX4_digitHere 29 = .ok (.isub, 1) := by decide +kernel
theorem dX4_digitHere_30 : decode cX4_digitHere 30 = .ok (.istore_n 1, 1) := by decide +kernel
theorem dX4_digitHere_31 : decode cX4_digitHere 31 = .ok (.iload_n 1, 1) := by decide +kernel
theorem dX4_digitHere_32 : decode cX4_digitHere 32 = .ok (.ifCond .lt 13, 3) := by decide +kernel
theorem dX4_digitHere_35 : decode cX4_digitHere 35 = .ok (.iload_n 1, 1) := by decide +kernel
theorem dX4_digitHere_36 : decode cX4_digitHere 36 = .ok (.bipush 9, 2) := by decide +kernel
theorem dX4_digitHere_38 : decode cX4_digitHere 38 = .ok (.if_icmp .gt 7, 3) := by decide +kernel
theorem dX4_digitHere_41 : decode cX4_digitHere 41 = .ok (.iload_n 1, 1) := by decide +kernel
theorem dX4_digitHere_42 : decode cX4_digitHere 42 = .ok (.goto 4, 3) := by decide +kernel
theorem dX4_digitHere_45 : decode cX4_digitHere 45 = .ok (.iconst (-1), 1) := by decide +kernel
theorem dX4_digitHere_46 : decode cX4_digitHere 46 = .ok (.ireturn, 1) := by decide +kernel
theorem dX4_skip_0 : decode cX4_skip 0 = .ok (.aload_n 0, 1) := by decide +kernel
theorem dX4_skip_1 : decode cX4_skip 1 = .ok (.getfield 22, 3) := by decide +kernel
theorem dX4_skip_4 : decode cX4_skip 4 = .ok (.aload_n 0, 1) := by decide +kernel
theorem dX4_skip_5 : decode cX4_skip 5 = .ok (.getfield 9, 3) := by decide +kernel
theorem dX4_skip_8 : decode cX4_skip 8 = .ok (.invokevirtual 37, 3) := by decide +kernel
theorem dX4_skip_11 : decode cX4_skip 11 = .ok (.if_icmp .ge 18, 3) := by decide +kernel
theorem dX4_skip_14 : decode cX4_skip 14 = .ok (.aload_n 0, 1) := by decide +kernel
theorem dX4_skip_15 : decode cX4_skip 15 = .ok (.getfield 9, 3) := by decide +kernel
theorem dX4_skip_18 : decode cX4_skip 18 = .ok (.aload_n 0, 1) := by decide +kernel
theorem dX4_skip_19 : decode cX4_skip 19 = .ok (.getfield 22, 3) := by decide +kernel
theorem dX4_skip_22 : decode cX4_skip 22 = .ok (.invokevirtual 66, 3) := by decide +kernel
theorem dX4_skip_25 : decode cX4_skip 25 = .ok (.iload_n 1, 1) := by decide +kernel
theorem dX4_skip_26 : decode cX4_skip 26 = .ok (.if_icmp .eq 5, 3) := by decide +kernel
theorem dX4_skip_29 : decode cX4_skip 29 = .ok (.iconst 0, 1) := by decide +kernel
theorem dX4_skip_30 : decode cX4_skip 30 = .ok (.ireturn, 1) := by decide +kernel
theorem dX4_skip_31 : decode cX4_skip 31 = .ok (.aload_n 0, 1) := by decide +kernel
theorem dX4_skip_32 : decode cX4_skip 32 = .ok (.dup, 1) := by decide +kernel
theorem dX4_skip_33 : decode cX4_skip 33 = .ok (.getfield 22, 3) := by decide +kernel
theorem dX4_skip_36 : decode cX4_skip 36 = .ok (.iconst 1, 1) := by decide +kernel
theorem dX4_skip_37 : decode cX4_skip 37 = .ok (.iadd, 1) := by decide +kernel
theorem dX4_skip_38 : decode cX4_skip 38 = .ok (.putfield 22, 3) := by decide +kernel
theorem dX4_skip_41 : decode cX4_skip 41 = .ok (.iconst 1, 1) := by decide +kernel
theorem dX4_skip_42 : decode cX4_skip 42 = .ok (.ireturn, 1) := by decide +kernel
theorem dX5_init_0 : decode cX5_init 0 = .ok (.aload_n 0, 1) := by decide +kernel
theorem dX5_init_1 : decode cX5_init 1 = .ok (.invokespecial 1, 3) := by decide +kernel
theorem dX5_init_4 : decode cX5_init 4 = .ok (.aload_n 0, 1) := by decide +kernel
theorem dX5_init_5 : decode cX5_init 5 = .ok (.new 7, 3) := by decide +kernel
theorem dX5_init_8 : decode cX5_init 8 = .ok (.dup, 1) := by decide +kernel
theorem dX5_init_9 : decode cX5_init 9 = .ok (.invokespecial 9, 3) := by decide +kernel
theorem dX5_init_12 : decode cX5_init 12 = .ok (.putfield 10, 3) := by decide +kernel
theorem dX5_init_15 : decode cX5_init 15 = .ok (.aload_n 0, 1) := by decide +kernel
theorem dX5_init_16 : decode cX5_init 16 = .ok (.new 7, 3) := by decide +kernel
theorem dX5_init_19 : decode cX5_init 19 = .ok (.dup, 1) := by decide +kernel
theorem dX5_init_20 : decode cX5_init 20 = .ok (.invokespecial 9, 3) := by decide +kernel
theorem dX5_init_23 : decode cX5_init 23 = .ok (.putfield 16, 3) := by decide +kernel
theorem dX5_init_26 : decode cX5_init 26 = .ok (.aload_n 0, 1) := by decide +kernel
theorem dX5_init_27 : decode cX5_init 27 = .ok (.new 7, 3) := by decide +kernel
theorem dX5_init_30 : decode cX5_init 30 = .ok (.dup, 1) := by decide +kernel
theorem dX5_init_31 : decode cX5_init 31 = .ok (.invokespecial 9, 3) := by decide +kernel
theorem dX5_init_34 : decode cX5_init 34 = .ok (.putfield 19, 3) := by decide +kernel
theorem dX5_init_37 : decode cX5_init 37 = .ok (.aload_n 0, 1) := by decide +kernel
theorem dX5_init_38 : decode cX5_init 38 = .ok (.new 22, 3) := by decide +kernel
theorem dX5_init_41 : decode cX5_init 41 = .ok (.dup, 1) := by decide +kernel
theorem dX5_init_42 : decode cX5_init 42 = .ok (.invokespecial 24, 3) := by decide +kernel
theorem dX5_init_45 : decode cX5_init 45 = .ok (.putfield 25, 3) := by decide +kernel
theorem dX5_init_48 : decode cX5_init 48 = .ok (.aload_n 0, 1) := by decide +kernel
theorem dX5_init_49 : decode cX5_init 49 = .ok (.new 29, 3) := by decide +kernel
theorem dX5_init_52 : decode cX5_init 52 = .ok (.dup, 1) := by decide +kernel
theorem dX5_init_53 : decode cX5_init 53 = .ok (.lconst 0, 1) := by decide +kernel
theorem dX5_init_54 : decode cX5_init 54 = .ok (.lconst 0, 1) := by decide +kernel
theorem dX5_init_55 : decode cX5_init 55 = .ok (.lconst 0, 1) := by decide +kernel
theorem dX5_init_56 : decode cX5_init 56 = .ok (.lconst 0, 1) := by decide +kernel
theorem dX5_init_57 : decode cX5_init 57 = .ok (.invokespecial 31, 3) := by decide +kernel
theorem dX5_init_60 : decode cX5_init 60 = .ok (.putfield 34, 3) := by decide +kernel
theorem dX5_init_63 : decode cX5_init 63 = .ok (.aload_n 0, 1) := by decide +kernel
theorem dX5_init_64 : decode cX5_init 64 = .ok (.new 7, 3) := by decide +kernel
theorem dX5_init_67 : decode cX5_init 67 = .ok (.dup, 1) := by decide +kernel
theorem dX5_init_68 : decode cX5_init 68 = .ok (.invokespecial 9, 3) := by decide +kernel
theorem dX5_init_71 : decode cX5_init 71 = .ok (.putfield 38, 3) := by decide +kernel
theorem dX5_init_74 : decode cX5_init 74 = .ok (.aload_n 0, 1) := by decide +kernel
theorem dX5_init_75 : decode cX5_init 75 = .ok (.aload_n 0, 1) := by decide +kernel
theorem dX5_init_76 : decode cX5_init 76 = .ok (.getfield 34, 3) := by decide +kernel
theorem dX5_init_79 : decode cX5_init 79 = .ok (.putfield 41, 3) := by decide +kernel
theorem dX5_init_82 : decode cX5_init 82 = .ok (.aload_n 0, 1) := by decide +kernel
theorem dX5_init_83 : decode cX5_init 83 = .ok (.iconst 0, 1) := by decide +kernel
theorem dX5_init_84 : decode cX5_init 84 = .ok (.putfield 44, 3) := by decide +kernel
theorem dX5_init_87 : decode cX5_init 87 = .ok (.return_, 1) := by decide +kernel
theorem dX5_part_0 : decode cX5_part 0 = .ok (.aload_n 0, 1) := by decide +kernel
theorem dX5_part_1 : decode cX5_part 1 = .ok (.getfield 10, 3) := by decide +kernel
theorem dX5_part_4 : decode cX5_part 4 = .ok (.invokevirtual 48, 3) := by decide +kernel
theorem dX5_part_7 : decode cX5_part 7 = .ok (.bipush 16, 2) := by decide +kernel
theorem dX5_part_9 : decode cX5_part 9 = .ok (.if_icmp .lt 13, 3) := by decide +kernel
theorem dX5_part_12 : decode cX5_part 12 = .ok (.new 52, 3) := by decide +kernel
theorem dX5_part_15 : decode cX5_part 15 = .ok (.dup, 1) := by decide +kernel
theorem dX5_part_16 : decode cX5_part 16 = .ok (.ldc 54, 2) := by decide +kernel
theorem dX5_part_18 : decode cX5_part 18 = .ok (.invokespecial 56, 3) := by decide +kernel
theorem dX5_part_21 : decode cX5_part 21 = .ok (.athrow, 1) := by decide +kernel
theorem dX5_part_22 : decode cX5_part 22 = .ok (.lload_n 1, 1) := by decide +kernel
theorem dX5_part_23 : decode cX5_part 23 = .ok (.invokestatic 59, 3) := by decide +kernel
theorem dX5_part_26 : decode cX5_part 26 = .ok (.lload_n 3, 1) := by decide +kernel
theorem dX5_part_27 : decode cX5_part 27 = .ok (.invokestatic 59, 3) := by decide +kernel
theorem dX5_part_30 : decode cX5_part 30 = .ok (.lload 5, 2) := by decide +kernel
theorem dX5_part_32 : decode cX5_part 32 = .ok (.invokestatic 59, 3) := by decide +kernel
theorem dX5_part_35 : decode cX5_part 35 = .ok (.lload 7, 2) := by decide +kernel
theorem dX5_part_37 : decode cX5_part 37 = .ok (.invokestatic 63, 3) := by decide +kernel
theorem dX5_part_40 : decode cX5_part 40 = .ok (.aload_n 0, 1) := by decide +kernel
theorem dX5_part_41 : decode cX5_part 41 = .ok (.getfield 10, 3) := by decide +kernel
theorem dX5_part_44 : decode cX5_part 44 = .ok (.new 29, 3) := by decide +kernel
theorem dX5_part_47 : decode cX5_part 47 = .ok (.dup, 1) := by decide +kernel
theorem dX5_part_48 : decode cX5_part 48 = .ok (.lload_n 1, 1) := by decide +kernel
theorem dX5_part_49 : decode cX5_part 49 = .ok (.lload_n 3, 1) := by decide +kernel
theorem dX5_part_50 : decode cX5_part 50 = .ok (.lload 5, 2) := by decide +kernel
theorem dX5_part_52 : decode cX5_part 52 = .ok (.lload 7, 2) := by decide +kernel
theorem dX5_part_54 : decode cX5_part 54 = .ok (.invokespecial 31, 3) := by decide +kernel
theorem dX5_part_57 : decode cX5_part 57 = .ok (.invokevirtual 66, 3) := by decide +kernel
theorem dX5_part_60 : decode cX5_part 60 = .ok (.pop, 1) := by decide +kernel
theorem dX5_part_61 : decode cX5_part 61 = .ok (.aload_n 0, 1) := by decide +kernel
theorem dX5_part_62 : decode cX5_part 62 = .ok (.getfield 10, 3) := by decide +kernel
theorem dX5_part_65 : decode cX5_part 65 = .ok (.invokevirtual 48, 3) := by decide +kernel
theorem dX5_part_68 : decode cX5_part 68 = .ok (.iconst 1, 1) := by decide +kernel
theorem dX5_part_69 : decode cX5_part 69 = .ok (.isub, 1) := by decide +kernel
theorem dX5_part_70 : decode cX5_part 70 = .ok (.ireturn, 1) := by decide +kernel
theorem dX5_foot_0 : decode cX5_foot 0 = .ok (.lload_n 1, 1) := by decide +kernel
theorem dX5_foot_1 : decode cX5_foot 1 = .ok (.invokestatic 59, 3) := by decide +kernel
theorem dX5_foot_4 : decode cX5_foot 4 = .ok (.lload_n 3, 1) := by decide +kernel
theorem dX5_foot_5 : decode cX5_foot 5 = .ok (.invokestatic 59, 3) := by decide +kernel
theorem dX5_foot_8 : decode cX5_foot 8 = .ok (.aload_n 0, 1) := by decide +kernel
theorem dX5_foot_9 : decode cX5_foot 9 = .ok (.getfield 16, 3) := by decide +kernel
theorem dX5_foot_12 : decode cX5_foot 12 = .ok (.invokevirtual 48, 3) := by decide +kernel
theorem dX5_foot_15 : decode cX5_foot 15 = .ok (.bipush 12, 2) := by decide +kernel
theorem dX5_foot_17 : decode cX5_foot 17 = .ok (.if_icmp .lt 5, 3) := by decide +kernel
theorem dX5_foot_20 : decode cX5_foot 20 = .ok (.iconst 0, 1) := by decide +kernel
theorem dX5_foot_21 : decode cX5_foot 21 = .ok (.ireturn, 1) := by decide +kernel
theorem dX5_foot_22 : decode cX5_foot 22 = .ok (.new 70, 3) := by decide +kernel
theorem dX5_foot_25 : decode cX5_foot 25 = .ok (.dup, 1) := by decide +kernel
theorem dX5_foot_26 : decode cX5_foot 26 = .ok (.aload_n 0, 1) := by decide +kernel
theorem dX5_foot_27 : decode cX5_foot 27 = .ok (.getfield 16, 3) := by decide +kernel
theorem dX5_foot_30 : decode cX5_foot 30 = .ok (.invokevirtual 48, 3) := by decide +kernel
theorem dX5_foot_33 : decode cX5_foot 33 = .ok (.lload_n 1, 1) := by decide +kernel
theorem dX5_foot_34 : decode cX5_foot 34 = .ok (.lload_n 3, 1) := by decide +kernel
theorem dX5_foot_35 : decode cX5_foot 35 = .ok (.invokespecial 72, 3) := by decide +kernel
theorem dX5_foot_38 : decode cX5_foot 38 = .ok (.astore 5, 2) := by decide +kernel
theorem dX5_foot_40 : decode cX5_foot 40 = .ok (.aload_n 0, 1) := by decide +kernel
theorem dX5_foot_41 : decode cX5_foot 41 = .ok (.getfield 16, 3) := by decide +kernel
theorem dX5_foot_44 : decode cX5_foot 44 = .ok (.aload 5, 2) := by decide +kernel
theorem dX5_foot_46 : decode cX5_foot 46 = .ok (.invokevirtual 66, 3) := by decide +kernel
theorem dX5_foot_49 : decode cX5_foot 49 = .ok (.pop, 1) := by decide +kernel
theorem dX5_foot_50 : decode cX5_foot 50 = .ok (.aload_n 0, 1) := by decide +kernel
theorem dX5_foot_51 : decode cX5_foot 51 = .ok (.aload 5, 2) := by decide +kernel
theorem dX5_foot_53 : decode cX5_foot 53 = .ok (.invokevirtual 75, 3) := by decide +kernel
theorem dX5_foot_56 : decode cX5_foot 56 = .ok (.iconst 1, 1) := by decide +kernel
theorem dX5_foot_57 : decode cX5_foot 57 = .ok (.ireturn, 1) := by decide +kernel
theorem dX5_drawer_0 : decode cX5_drawer 0 = .ok (.iload_n 1, 1) := by decide +kernel
theorem dX5_drawer_1 : decode cX5_drawer 1 = .ok (.ifCond .lt 14, 3) := by decide +kernel
theorem dX5_drawer_4 : decode cX5_drawer 4 = .ok (.iload_n 1, 1) := by decide +kernel
theorem dX5_drawer_5 : decode cX5_drawer 5 = .ok (.aload_n 0, 1) := by decide +kernel
theorem dX5_drawer_6 : decode cX5_drawer 6 = .ok (.getfield 10, 3) := by decide +kernel
theorem dX5_drawer_9 : decode cX5_drawer 9 = .ok (.invokevirtual 48, 3) := by decide +kernel
theorem dX5_drawer_12 : decode cX5_drawer 12 = .ok (.if_icmp .lt 13, 3) := by decide +kernel
theorem dX5_drawer_15 : decode cX5_drawer 15 = .ok (.new 79, 3) := by decide +kernel
theorem dX5_drawer_18 : decode cX5_drawer 18 = .ok (.dup, 1) := by decide +kernel
theorem dX5_drawer_19 : decode cX5_drawer 19 = .ok (.ldc 81, 2) := by decide +kernel
theorem dX5_drawer_21 : decode cX5_drawer 21 = .ok (.invokespecial 83, 3) := by decide +kernel
theorem dX5_drawer_24 : decode cX5_drawer 24 = .ok (.athrow, 1) := by decide +kernel
theorem dX5_drawer_25 : decode cX5_drawer 25 = .ok (.lload_n 2, 1) := by decide +kernel
theorem dX5_drawer_26 : decode cX5_drawer 26 = .ok (.lconst 1, 1) := by decide +kernel
theorem dX5_drawer_27 : decode cX5_drawer 27 = .ok (.ldc2_w 84, 3) := by decide +kernel
theorem dX5_drawer_30 : decode cX5_drawer 30 = .ok (.invokestatic 86, 3) := by decide +kernel
theorem dX5_drawer_33 : decode cX5_drawer 33 = .ok (.ifCond .ne 13, 3) := by decide +kernel
theorem dX5_drawer_36 : decode cX5_drawer 36 = .ok (.new 90, 3) := by decide +kernel
theorem dX5_drawer_39 : decode cX5_drawer 39 = .ok (.dup, 1) := by decide +kernel
theorem dX5_drawer_40 : decode cX5_drawer 40 = .ok (.ldc 92, 2) := by decide +kernel
theorem dX5_drawer_42 : decode cX5_drawer 42 = .ok (.invokespecial 94, 3) := by decide +kernel
theorem dX5_drawer_45 : decode cX5_drawer 45 = .ok (.athrow, 1) := by decide +kernel
theorem dX5_drawer_46 : decode cX5_drawer 46 = .ok (.aload_n 0, 1) := by decide +kernel
theorem dX5_drawer_47 : decode cX5_drawer 47 = .ok (.getfield 10, 3) := by decide +kernel
theorem dX5_drawer_50 : decode cX5_drawer 50 = .ok (.iload_n 1, 1) := by decide +kernel
theorem dX5_drawer_51 : decode cX5_drawer 51 = .ok (.invokevirtual 95, 3) := by decide +kernel
theorem dX5_drawer_54 : decode cX5_drawer 54 = .ok (.checkcast 29, 3) := by decide +kernel
theorem dX5_drawer_57 : decode cX5_drawer 57 = .ok (.astore 4, 2) := by decide +kernel
theorem dX5_drawer_59 : decode cX5_drawer 59 = .ok (.aload_n 0, 1) := by decide +kernel
theorem dX5_drawer_60 : decode cX5_drawer 60 = .ok (.getfield 44, 3) := by decide +kernel
theorem dX5_drawer_63 : decode cX5_drawer 63 = .ok (.bipush 8, 2) := by decide +kernel
theorem dX5_drawer_65 : decode cX5_drawer 65 = .ok (.if_icmp .ge 12, 3) := by decide +kernel
theorem dX5_drawer_68 : decode cX5_drawer 68 = .ok (.aload 4, 2) := by decide +kernel
theorem dX5_drawer_70 : decode cX5_drawer 70 = .ok (.getfield 99, 3) := by decide +kernel
theorem dX5_drawer_73 : decode cX5_drawer 73 = .ok (.iconst (-1), 1) := by decide +kernel
theorem dX5_drawer_74 : decode cX5_drawer 74 = .ok (.if_icmp .eq 5, 3) := by decide +kernel
theorem dX5_drawer_77 : decode cX5_drawer 77 = .ok (.iconst 0, 1) := by decide +kernel
theorem dX5_drawer_78 : decode cX5_drawer 78 = .ok (.ireturn, 1) := by decide +kernel
theorem dX5_drawer_79 : decode cX5_drawer 79 = .ok (.aload 4, 2) := by decide +kernel
theorem dX5_drawer_81 : decode cX5_drawer 81 = .ok (.aload_n 0, 1) := by decide +kernel
theorem dX5_drawer_82 : decode cX5_drawer 82 = .ok (.getfield 44, 3) := by decide +kernel
theorem dX5_drawer_85 : decode cX5_drawer 85 = .ok (.putfield 99, 3) := by decide +kernel
theorem dX5_drawer_88 : decode cX5_drawer 88 = .ok (.aload 4, 2) := by decide +kernel
theorem dX5_drawer_90 : decode cX5_drawer 90 = .ok (.lload_n 2, 1) := by decide +kernel
theorem dX5_drawer_91 : decode cX5_drawer 91 = .ok (.putfield 102, 3) := by decide +kernel
theorem dX5_drawer_94 : decode cX5_drawer 94 = .ok (.aload_n 0, 1) := by decide +kernel
theorem dX5_drawer_95 : decode cX5_drawer 95 = .ok (.dup, 1) := by decide +kernel
theorem dX5_drawer_96 : decode cX5_drawer 96 = .ok (.getfield 44, 3) := by decide +kernel
theorem dX5_drawer_99 : decode cX5_drawer 99 = .ok (.iconst 1, 1) := by decide +kernel
theorem dX5_drawer_100 : decode cX5_drawer 100 = .ok (.iadd, 1) := by decide +kernel
theorem dX5_drawer_101 : decode cX5_drawer 101 = .ok (.putfield 44, 3) := by decide +kernel
theorem dX5_drawer_104 : decode cX5_drawer 104 = .ok (.iconst 1, 1) := by decide +kernel
theorem dX5_drawer_105 : decode cX5_drawer 105 = .ok (.ireturn, 1) := by decide +kernel
theorem dX5_person_0 : decode cX5_person 0 = .ok (.lload_n 1, 1) := by decide +kernel
theorem dX5_person_1 : decode cX5_person 1 = .ok (.invokestatic 59, 3) := by decide +kernel
theorem dX5_person_4 : decode cX5_person 4 = .ok (.lload_n 3, 1) := by decide +kernel
theorem dX5_person_5 : decode cX5_person 5 = .ok (.invokestatic 59, 3) := by decide +kernel
theorem dX5_person_8 : decode cX5_person 8 = .ok (.lload 5, 2) := by decide +kernel
theorem dX5_person_10 : decode cX5_person 10 = .ok (.invokestatic 63, 3) := by decide +kernel
theorem dX5_person_13 : decode cX5_person 13 = .ok (.aload_n 0, 1) := by decide +kernel
theorem dX5_person_14 : decode cX5_person 14 = .ok (.getfield 41, 3) := by decide +kernel
theorem dX5_person_17 : decode cX5_person 17 = .ok (.getfield 106, 3) := by decide +kernel
theorem dX5_person_20 : decode cX5_person 20 = .ok (.lload_n 1, 1) := by decide +kernel
theorem dX5_person_21 : decode cX5_person 21 = .ok (.lcmp, 1) := by decide +kernel
theorem dX5_person_22 : decode cX5_person 22 = .ok (.ifCond .ne 30, 3) := by decide +kernel
theorem dX5_person_25 : decode cX5_person 25 = .ok (.aload_n 0, 1) := by decide +kernel
theorem dX5_person_26 : decode cX5_person 26 = .ok (.getfield 41, 3) := by decide +kernel
theorem dX5_person_29 : decode cX5_person 29 = .ok (.getfield 109, 3) := by decide +kernel
theorem dX5_person_32 : decode cX5_person 32 = .ok (.lload_n 3, 1) := by decide +kernel
theorem dX5_person_33 : decode cX5_person 33 = .ok (.lcmp, 1) := by decide +kernel
theorem dX5_person_34 : decode cX5_person 34 = .ok (.ifCond .ne 18, 3) := by decide +kernel
theorem dX5_person_37 : decode cX5_person 37 = .ok (.aload_n 0, 1) := by decide +kernel
theorem dX5_person_38 : decode cX5_person 38 = .ok (.getfield 41, 3) := by decide +kernel
theorem dX5_person_41 : decode cX5_person 41 = .ok (.getfield 112, 3) := by decide +kernel
theorem dX5_person_44 : decode cX5_person 44 = .ok (.lload 5, 2) := by decide +kernel
theorem dX5_person_46 : decode cX5_person 46 = .ok (.lcmp, 1) := by decide +kernel
theorem dX5_person_47 : decode cX5_person 47 = .ok (.ifCond .ne 5, 3) := by decide +kernel
theorem dX5_person_50 : decode cX5_person 50 = .ok (.iconst 0, 1) := by decide +kernel
theorem dX5_person_51 : decode cX5_person 51 = .ok (.ireturn, 1) := by decide +kernel
theorem dX5_person_52 : decode cX5_person 52 = .ok (.aload_n 0, 1) := by decide +kernel
theorem dX5_person_53 : decode cX5_person 53 = .ok (.new 29, 3) := by decide +kernel
theorem dX5_person_56 : decode cX5_person 56 = .ok (.dup, 1) := by decide +kernel
theorem dX5_person_57 : decode cX5_person 57 = .ok (.lload_n 1, 1) := by decide +kernel
theorem dX5_person_58 : decode cX5_person 58 = .ok (.lload_n 3, 1) := by decide +kernel
theorem dX5_person_59 : decode cX5_person 59 = .ok (.lconst 0, 1) := by decide +kernel
theorem dX5_person_60 : decode cX5_person 60 = .ok (.lload 5, 2) := by decide +kernel
theorem dX5_person_62 : decode cX5_person 62 = .ok (.invokespecial 31, 3) := by decide +kernel
theorem dX5_person_65 : decode cX5_person 65 = .ok (.putfield 41, 3) := by decide +kernel
theorem dX5_person_68 : decode cX5_person 68 = .ok (.iconst 1, 1) := by decide +kernel
theorem dX5_person_69 : decode cX5_person 69 = .ok (.ireturn, 1) := by decide +kernel
theorem dX5_centre_0 : decode cX5_centre 0 = .ok (.iload_n 1, 1) := by decide +kernel
theorem dX5_centre_1 : decode cX5_centre 1 = .ok (.ifCond .lt 8, 3) := by decide +kernel
theorem dX5_centre_4 : decode cX5_centre 4 = .ok (.iload_n 1, 1) := by decide +kernel
theorem dX5_centre_5 : decode cX5_centre 5 = .ok (.iconst 2, 1) := by decide +kernel
theorem dX5_centre_6 : decode cX5_centre 6 = .ok (.if_icmp .le 13, 3) := by decide +kernel
theorem dX5_centre_9 : decode cX5_centre 9 = .ok (.new 79, 3) := by decide +kernel
theorem dX5_centre_12 : decode cX5_centre 12 = .ok (.dup, 1) := by decide +kernel
theorem dX5_centre_13 : decode cX5_centre 13 = .ok (.ldc 115, 2) := by decide +kernel
theorem dX5_centre_15 : decode cX5_centre 15 = .ok (.invokespecial 83, 3) := by decide +kernel
theorem dX5_centre_18 : decode cX5_centre 18 = .ok (.athrow, 1) := by decide +kernel
theorem dX5_centre_19 : decode cX5_centre 19 = .ok (.iload_n 2, 1) := by decide +kernel
theorem dX5_centre_20 : decode cX5_centre 20 = .ok (.ifCond .lt 8, 3) := by decide +kernel
theorem dX5_centre_23 : decode cX5_centre 23 = .ok (.iload_n 2, 1) := by decide +kernel
theorem dX5_centre_24 : decode cX5_centre 24 = .ok (.iconst 1, 1) := by decide +kernel
theorem dX5_centre_25 : decode cX5_centre 25 = .ok (.if_icmp .le 13, 3) := by decide +kernel
theorem dX5_centre_28 : decode cX5_centre 28 = .ok (.new 79, 3) := by decide +kernel
theorem dX5_centre_31 : decode cX5_centre 31 = .ok (.dup, 1) := by decide +kernel
theorem dX5_centre_32 : decode cX5_centre 32 = .ok (.ldc 117, 2) := by decide +kernel
theorem dX5_centre_34 : decode cX5_centre 34 = .ok (.invokespecial 83, 3) := by decide +kernel
theorem dX5_centre_37 : decode cX5_centre 37 = .ok (.athrow, 1) := by decide +kernel
theorem dX5_centre_38 : decode cX5_centre 38 = .ok (.aload_n 0, 1) := by decide +kernel
theorem dX5_centre_39 : decode cX5_centre 39 = .ok (.getfield 41, 3) := by decide +kernel
theorem dX5_centre_42 : decode cX5_centre 42 = .ok (.getfield 112, 3) := by decide +kernel
theorem dX5_centre_45 : decode cX5_centre 45 = .ok (.lstore_n 3, 1) := by decide +kernel
theorem dX5_centre_46 : decode cX5_centre 46 = .ok (.aload_n 0, 1) := by decide +kernel
theorem dX5_centre_47 : decode cX5_centre 47 = .ok (.getfield 41, 3) := by decide +kernel
theorem dX5_centre_50 : decode cX5_centre 50 = .ok (.getfield 112, 3) := by decide +kernel
theorem dX5_centre_53 : decode cX5_centre 53 = .ok (.aload_n 0, 1) := by decide +kernel
theorem dX5_centre_54 : decode cX5_centre 54 = .ok (.getfield 41, 3) := by decide +kernel
theorem dX5_centre_57 : decode cX5_centre 57 = .ok (.iload_n 1, 1) := by decide +kernel
theorem dX5_centre_58 : decode cX5_centre 58 = .ok (.invokevirtual 119, 3) := by decide +kernel
theorem dX5_centre_61 : decode cX5_centre 61 = .ok (.lmul, 1) := by decide +kernel
theorem dX5_centre_62 : decode cX5_centre 62 = .ok (.lstore 5, 2) := by decide +kernel
theorem dX5_centre_64 : decode cX5_centre 64 = .ok (.iconst 0, 1) := by decide +kernel
theorem dX5_centre_65 : decode cX5_centre 65 = .ok (.istore 7, 2) := by decide +kernel
theorem dX5_centre_67 : decode cX5_centre 67 = .ok (.iload 7, 2) := by decide +kernel
theorem dX5_centre_69 : decode cX5_centre 69 = .ok (.aload_n 0, 1) := by decide +kernel
theorem dX5_centre_70 : decode cX5_centre 70 = .ok (.getfield 10, 3) := by decide +kernel
theorem dX5_centre_73 : decode cX5_centre 73 = .ok (.invokevirtual 48, 3) := by decide +kernel
theorem dX5_centre_76 : decode cX5_centre 76 = .ok (.if_icmp .ge 48, 3) := by decide +kernel
theorem dX5_centre_79 : decode cX5_centre 79 = .ok (.aload_n 0, 1) := by decide +kernel
theorem dX5_centre_80 : decode cX5_centre 80 = .ok (.getfield 10, 3) := by decide +kernel
theorem dX5_centre_83 : decode cX5_centre 83 = .ok (.iload 7, 2) := by decide +kernel
theorem dX5_centre_85 : decode cX5_centre 85 = .ok (.invokevirtual 95, 3) := by decide +kernel
theorem dX5_centre_88 : decode cX5_centre 88 = .ok (.checkcast 29, 3) := by decide +kernel
theorem dX5_centre_91 : decode cX5_centre 91 = .ok (.astore 8, 2) := by decide +kernel
theorem dX5_centre_93 : decode cX5_centre 93 = .ok (.lload_n 3, 1) := by decide +kernel
theorem dX5_centre_94 : decode cX5_centre 94 = .ok (.aload 8, 2) := by decide +kernel
theorem dX5_centre_96 : decode cX5_centre 96 = .ok (.getfield 112, 3) := by decide +kernel
theorem dX5_centre_99 : decode cX5_centre 99 = .ok (.ladd, 1) := by decide +kernel
theorem dX5_centre_100 : decode cX5_centre 100 = .ok (.lstore_n 3, 1) := by decide +kernel
theorem dX5_centre_101 : decode cX5_centre 101 = .ok (.lload 5, 2) := by decide +kernel
theorem dX5_centre_103 : decode cX5_centre 103 = .ok (.aload 8, 2) := by decide +kernel
theorem dX5_centre_105 : decode cX5_centre 105 = .ok (.getfield 112, 3) := by decide +kernel
theorem dX5_centre_108 : decode cX5_centre 108 = .ok (.aload 8, 2) := by decide +kernel
theorem dX5_centre_110 : decode cX5_centre 110 = .ok (.iload_n 1, 1) := by decide +kernel
theorem dX5_centre_111 : decode cX5_centre 111 = .ok (.invokevirtual 119, 3) := by decide +kernel
theorem dX5_centre_114 : decode cX5_centre 114 = .ok (.lmul, 1) := by decide +kernel
theorem dX5_centre_115 : decode cX5_centre 115 = .ok (.ladd, 1) := by decide +kernel
theorem dX5_centre_116 : decode cX5_centre 116 = .ok (.lstore 5, 2) := by decide +kernel
theorem dX5_centre_118 : decode cX5_centre 118 = .ok (.iinc 7 1, 3) := by decide +kernel
theorem dX5_centre_121 : decode cX5_centre 121 = .ok (.goto (-54), 3) := by decide +kernel
theorem dX5_centre_124 : decode cX5_centre 124 = .ok (.lload_n 3, 1) := by decide +kernel
theorem dX5_centre_125 : decode cX5_centre 125 = .ok (.lconst 0, 1) := by decide +kernel
theorem dX5_centre_126 : decode cX5_centre 126 = .ok (.lcmp, 1) := by decide +kernel
theorem dX5_centre_127 : decode cX5_centre 127 = .ok (.ifCond .ne 13, 3) := by decide +kernel
theorem dX5_centre_130 : decode cX5_centre 130 = .ok (.new 52, 3) := by decide +kernel
theorem dX5_centre_133 : decode cX5_centre 133 = .ok (.dup, 1) := by decide +kernel
theorem dX5_centre_134 : decode cX5_centre 134 = .ok (.ldc 123, 2) := by decide +kernel
theorem dX5_centre_136 : decode cX5_centre 136 = .ok (.invokespecial 56, 3) := by decide +kernel
theorem dX5_centre_139 : decode cX5_centre 139 = .ok (.athrow, 1) := by decide +kernel
theorem dX5_centre_140 : decode cX5_centre 140 = .ok (.lload_n 3, 1) := by decide +kernel
theorem dX5_centre_141 : decode cX5_centre 141 = .ok (.lload 5, 2) := by decide +kernel
theorem dX5_centre_143 : decode cX5_centre 143 = .ok (.invokestatic 125, 3) := by decide +kernel
theorem dX5_centre_146 : decode cX5_centre 146 = .ok (.invokestatic 131, 3) := by decide +kernel
theorem dX5_centre_149 : decode cX5_centre 149 = .ok (.lstore 7, 2) := by decide +kernel
theorem dX5_centre_151 : decode cX5_centre 151 = .ok (.iload_n 2, 1) := by decide +kernel
theorem dX5_centre_152 : decode cX5_centre 152 = .ok (.ifCond .ne 11, 3) := by decide +kernel
theorem dX5_centre_155 : decode cX5_centre 155 = .ok (.lload 5, 2) := by decide +kernel
theorem dX5_centre_157 : decode cX5_centre 157 = .ok (.lload 7, 2) := by decide +kernel
theorem dX5_centre_159 : decode cX5_centre 159 = .ok (.ldiv, 1) := by decide +kernel
theorem dX5_centre_160 : decode cX5_centre 160 = .ok (.goto 7, 3) := by decide +kernel
theorem dX5_centre_163 : decode cX5_centre 163 = .ok (.lload_n 3, 1) := by decide +kernel
theorem dX5_centre_164 : decode cX5_centre 164 = .ok (.lload 7, 2) := by decide +kernel
theorem dX5_centre_166 : decode cX5_centre 166 = .ok (.ldiv, 1) := by decide +kernel
theorem dX5_centre_167 : decode cX5_centre 167 = .ok (.lreturn, 1) := by decide +kernel
theorem dX5_side_0 : decode cX5_side 0 = .ok (.aload_n 0, 1) := by decide +kernel
theorem dX5_side_1 : decode cX5_side 1 = .ok (.invokevirtual 135, 3) := by decide +kernel
theorem dX5_side_4 : decode cX5_side 4 = .ok (.iload_n 1, 1) := by decide +kernel
theorem dX5_side_5 : decode cX5_side 5 = .ok (.ifCond .ge 13, 3) := by decide +kernel
theorem dX5_side_8 : decode cX5_side 8 = .ok (.new 79, 3) := by decide +kernel
theorem dX5_side_11 : decode cX5_side 11 = .ok (.dup, 1) := by decide +kernel
theorem dX5_side_12 : decode cX5_side 12 = .ok (.ldc 138, 2) := by decide +kernel
theorem dX5_side_14 : decode cX5_side 14 = .ok (.invokespecial 83, 3) := by decide +kernel
theorem dX5_side_17 : decode cX5_side 17 = .ok (.athrow, 1) := by decide +kernel
theorem dX5_side_18 : decode cX5_side 18 = .ok (.iload_n 1, 1) := by decide +kernel
theorem dX5_side_19 : decode cX5_side 19 = .ok (.aload_n 0, 1) := by decide +kernel
theorem dX5_side_20 : decode cX5_side 20 = .ok (.getfield 19, 3) := by decide +kernel
theorem dX5_side_23 : decode cX5_side 23 = .ok (.invokevirtual 48, 3) := by decide +kernel
theorem dX5_side_26 : decode cX5_side 26 = .ok (.if_icmp .ge 23, 3) := by decide +kernel
theorem dX5_side_29 : decode cX5_side 29 = .ok (.aload_n 0, 1) := by decide +kernel
theorem dX5_side_30 : decode cX5_side 30 = .ok (.getfield 19, 3) := by decide +kernel
theorem dX5_side_33 : decode cX5_side 33 = .ok (.iload_n 1, 1) := by decide +kernel
theorem dX5_side_34 : decode cX5_side 34 = .ok (.invokevirtual 95, 3) := by decide +kernel
theorem dX5_side_37 : decode cX5_side 37 = .ok (.checkcast 140, 3) := by decide +kernel
theorem dX5_side_40 : decode cX5_side 40 = .ok (.getfield 142, 3) := by decide +kernel
theorem dX5_side_43 : decode cX5_side 43 = .ok (.getfield 146, 3) := by decide +kernel
theorem dX5_side_46 : decode cX5_side 46 = .ok (.goto 4, 3) := by decide +kernel
theorem dX5_side_49 : decode cX5_side 49 = .ok (.iconst (-1), 1) := by decide +kernel
theorem dX5_side_50 : decode cX5_side 50 = .ok (.ireturn, 1) := by decide +kernel
theorem dX5_tips_0 : decode cX5_tips 0 = .ok (.aload_n 0, 1) := by decide +kernel
theorem dX5_tips_1 : decode cX5_tips 1 = .ok (.invokevirtual 135, 3) := by decide +kernel
theorem dX5_tips_4 : decode cX5_tips 4 = .ok (.iload_n 1, 1) := by decide +kernel
theorem dX5_tips_5 : decode cX5_tips 5 = .ok (.ifCond .lt 11, 3) := by decide +kernel
theorem dX5_tips_8 : decode cX5_tips 8 = .ok (.iload_n 1, 1) := by decide +kernel
theorem dX5_tips_9 : decode cX5_tips 9 = .ok (.aload_n 0, 1) := by decide +kernel
theorem dX5_tips_10 : decode cX5_tips 10 = .ok (.getfield 44, 3) := by decide +kernel
theorem dX5_tips_13 : decode cX5_tips 13 = .ok (.if_icmp .le 13, 3) := by decide +kernel
theorem dX5_tips_16 : decode cX5_tips 16 = .ok (.new 90, 3) := by decide +kernel
theorem dX5_tips_19 : decode cX5_tips 19 = .ok (.dup, 1) := by decide +kernel
theorem dX5_tips_20 : decode cX5_tips 20 = .ok (.ldc 149, 2) := by decide +kernel
theorem dX5_tips_22 : decode cX5_tips 22 = .ok (.invokespecial 94, 3) := by decide +kernel
theorem dX5_tips_25 : decode cX5_tips 25 = .ok (.athrow, 1) := by decide +kernel
theorem dX5_tips_26 : decode cX5_tips 26 = .ok (.aload_n 0, 1) := by decide +kernel
theorem dX5_tips_27 : decode cX5_tips 27 = .ok (.iload_n 1, 1) := by decide +kernel
theorem dX5_tips_28 : decode cX5_tips 28 = .ok (.aload_n 0, 1) := by decide +kernel
theorem dX5_tips_29 : decode cX5_tips 29 = .ok (.getfield 41, 3) := by decide +kernel
theorem dX5_tips_32 : decode cX5_tips 32 = .ok (.invokevirtual 151, 3) := by decide +kernel
theorem dX5_tips_35 : decode cX5_tips 35 = .ok (.ireturn, 1) := by decide +kernel
theorem dX5_moment_0 : decode cX5_moment 0 = .ok (.aload_n 0, 1) := by decide +kernel
theorem dX5_moment_1 : decode cX5_moment 1 = .ok (.invokevirtual 135, 3) := by decide +kernel
theorem dX5_moment_4 : decode cX5_moment 4 = .ok (.iload_n 1, 1) := by decide +kernel
theorem dX5_moment_5 : decode cX5_moment 5 = .ok (.ifCond .lt 14, 3) := by decide +kernel
theorem dX5_moment_8 : decode cX5_moment 8 = .ok (.iload_n 1, 1) := by decide +kernel
theorem dX5_moment_9 : decode cX5_moment 9 = .ok (.aload_n 0, 1) := by decide +kernel
theorem dX5_moment_10 : decode cX5_moment 10 = .ok (.getfield 19, 3) := by decide +kernel
theorem dX5_moment_13 : decode cX5_moment 13 = .ok (.invokevirtual 48, 3) := by decide +kernel
theorem dX5_moment_16 : decode cX5_moment 16 = .ok (.if_icmp .lt 13, 3) := by decide +kernel
theorem dX5_moment_19 : decode cX5_moment 19 = .ok (.new 79, 3) := by decide +kernel
theorem dX5_moment_22 : decode cX5_moment 22 = .ok (.dup, 1) := by decide +kernel
theorem dX5_moment_23 : decode cX5_moment 23 = .ok (.ldc 138, 2) := by decide +kernel
theorem dX5_moment_25 : decode cX5_moment 25 = .ok (.invokespecial 83, 3) := by decide +kernel
theorem dX5_moment_28 : decode cX5_moment 28 = .ok (.athrow, 1) := by decide +kernel
theorem dX5_moment_29 : decode cX5_moment 29 = .ok (.iload_n 2, 1) := by decide +kernel
theorem dX5_moment_30 : decode cX5_moment 30 = .ok (.ifCond .lt 8, 3) := by decide +kernel
theorem dX5_moment_33 : decode cX5_moment 33 = .ok (.iload_n 2, 1) := by decide +kernel
theorem dX5_moment_34 : decode cX5_moment 34 = .ok (.iconst 1, 1) := by decide +kernel
theorem dX5_moment_35 : decode cX5_moment 35 = .ok (.if_icmp .le 13, 3) := by decide +kernel
theorem dX5_moment_38 : decode cX5_moment 38 = .ok (.new 79, 3) := by decide +kernel
theorem dX5_moment_41 : decode cX5_moment 41 = .ok (.dup, 1) := by decide +kernel
theorem dX5_moment_42 : decode cX5_moment 42 = .ok (.ldc 155, 2) := by decide +kernel
theorem dX5_moment_44 : decode cX5_moment 44 = .ok (.invokespecial 83, 3) := by decide +kernel
theorem dX5_moment_47 : decode cX5_moment 47 = .ok (.athrow, 1) := by decide +kernel
theorem dX5_moment_48 : decode cX5_moment 48 = .ok (.aload_n 0, 1) := by decide +kernel
theorem dX5_moment_49 : decode cX5_moment 49 = .ok (.aload_n 0, 1) := by decide +kernel
theorem dX5_moment_50 : decode cX5_moment 50 = .ok (.getfield 19, 3) := by decide +kernel
theorem dX5_moment_53 : decode cX5_moment 53 = .ok (.iload_n 1, 1) := by decide +kernel
theorem dX5_moment_54 : decode cX5_moment 54 = .ok (.invokevirtual 95, 3) := by decide +kernel
theorem dX5_moment_57 : decode cX5_moment 57 = .ok (.checkcast 140, 3) := by decide +kernel
theorem dX5_moment_60 : decode cX5_moment 60 = .ok (.iconst 0, 1) := by decide +kernel
theorem dX5_moment_61 : decode cX5_moment 61 = .ok (.iload_n 2, 1) := by decide +kernel
theorem dX5_moment_62 : decode cX5_moment 62 = .ok (.iconst 1, 1) := by decide +kernel
theorem dX5_moment_63 : decode cX5_moment 63 = .ok (.if_icmp .ne 10, 3) := by decide +kernel
theorem dX5_moment_66 : decode cX5_moment 66 = .ok (.aload_n 0, 1) := by decide +kernel
theorem dX5_moment_67 : decode cX5_moment 67 = .ok (.getfield 41, 3) := by decide +kernel
theorem dX5_moment_70 : decode cX5_moment 70 = .ok (.goto 7, 3) := by decide +kernel
theorem dX5_moment_73 : decode cX5_moment 73 = .ok (.aload_n 0, 1) := by decide +kernel
theorem dX5_moment_74 : decode cX5_moment 74 = .ok (.getfield 34, 3) := by decide +kernel
theorem dX5_moment_77 : decode cX5_moment 77 = .ok (.invokevirtual 157, 3) := by decide +kernel
theorem dX5_moment_80 : decode cX5_moment 80 = .ok (.lreturn, 1) := by decide +kernel
theorem dX5_most_0 : decode cX5_most 0 = .ok (.aload_n 0, 1) := by decide +kernel
theorem dX5_most_1 : decode cX5_most 1 = .ok (.invokevirtual 135, 3) := by decide +kernel
theorem dX5_most_4 : decode cX5_most 4 = .ok (.iconst (-1), 1) := by decide +kernel
theorem dX5_most_5 : decode cX5_most 5 = .ok (.istore_n 1, 1) := by decide +kernel
theorem dX5_most_6 : decode cX5_most 6 = .ok (.iconst 0, 1) := by decide +kernel
theorem dX5_most_7 : decode cX5_most 7 = .ok (.istore_n 2, 1) := by decide +kernel
theorem dX5_most_8 : decode cX5_most 8 = .ok (.iload_n 2, 1) := by decide +kernel
theorem dX5_most_9 : decode cX5_most 9 = .ok (.aload_n 0, 1) := by decide +kernel
theorem dX5_most_10 : decode cX5_most 10 = .ok (.getfield 44, 3) := by decide +kernel
theorem dX5_most_13 : decode cX5_most 13 = .ok (.if_icmp .gt 23, 3) := by decide +kernel
theorem dX5_most_16 : decode cX5_most 16 = .ok (.aload_n 0, 1) := by decide +kernel
theorem dX5_most_17 : decode cX5_most 17 = .ok (.iload_n 2, 1) := by decide +kernel
theorem dX5_most_18 : decode cX5_most 18 = .ok (.aload_n 0, 1) := by decide +kernel
theorem dX5_most_19 : decode cX5_most 19 = .ok (.getfield 41, 3) := by decide +kernel
theorem dX5_most_22 : decode cX5_most 22 = .ok (.invokevirtual 151, 3) := by decide +kernel
theorem dX5_most_25 : decode cX5_most 25 = .ok (.ifCond .ne 11, 3) := by decide +kernel
theorem dX5_most_28 : decode cX5_most 28 = .ok (.iload_n 2, 1) := by decide +kernel
theorem dX5_most_29 : decode cX5_most 29 = .ok (.istore_n 1, 1) := by decide +kernel
theorem dX5_most_30 : decode cX5_most 30 = .ok (.iinc 2 1, 3) := by decide +kernel
theorem dX5_most_33 : decode cX5_most 33 = .ok (.goto (-25), 3) := by decide +kernel
theorem dX5_most_36 : decode cX5_most 36 = .ok (.iload_n 1, 1) := by decide +kernel
theorem dX5_most_37 : decode cX5_most 37 = .ok (.ireturn, 1) := by decide +kernel
theorem dX5_unit_0 : decode cX5_unit 0 = .ok (.iload_n 1, 1) := by decide +kernel
theorem dX5_unit_1 : decode cX5_unit 1 = .ok (.bipush 32, 2) := by decide +kernel
theorem dX5_unit_3 : decode cX5_unit 3 = .ok (.if_icmp .lt 22, 3) := by decide +kernel
theorem dX5_unit_6 : decode cX5_unit 6 = .ok (.iload_n 1, 1) := by decide +kernel
theorem dX5_unit_7 : decode cX5_unit 7 = .ok (.bipush 126, 2) := by decide +kernel
theorem dX5_unit_9 : decode cX5_unit 9 = .ok (.if_icmp .gt 16, 3) := by decide +kernel
theorem dX5_unit_12 : decode cX5_unit 12 = .ok (.aload_n 0, 1) := by decide +kernel
theorem dX5_unit_13 : decode cX5_unit 13 = .ok (.getfield 25, 3) := by decide +kernel
theorem dX5_unit_16 : decode cX5_unit 16 = .ok (.invokevirtual 161, 3) := by decide +kernel
theorem dX5_unit_19 : decode cX5_unit 19 = .ok (.sipush 200, 3) := by decide +kernel
theorem dX5_unit_22 : decode cX5_unit 22 = .ok (.if_icmp .lt 5, 3) := by decide +kernel
theorem dX5_unit_25 : decode cX5_unit 25 = .ok (.iconst 0, 1) := by decide +kernel
theorem dX5_unit_26 : decode cX5_unit 26 = .ok (.ireturn, 1) := by decide +kernel
theorem dX5_unit_27 : decode cX5_unit 27 = .ok (.aload_n 0, 1) := by decide +kernel
theorem dX5_unit_28 : decode cX5_unit 28 = .ok (.getfield 25, 3) := by decide +kernel
theorem dX5_unit_31 : decode cX5_unit 31 = .ok (.iload_n 1, 1) := by decide +kernel
theorem dX5_unit_32 : decode cX5_unit 32 = .ok (.i2c, 1) := by decide +kernel
theorem dX5_unit_33 : decode cX5_unit 33 = .ok (.invokevirtual 164, 3) := by decide +kernel
theorem dX5_unit_36 : decode cX5_unit 36 = .ok (.pop, 1) := by decide +kernel
theorem dX5_unit_37 : decode cX5_unit 37 = .ok (.iconst 1, 1) := by decide +kernel
theorem dX5_unit_38 : decode cX5_unit 38 = .ok (.ireturn, 1) := by decide +kernel
theorem dX5_rules_0 : decode cX5_rules 0 = .ok (.new 168, 3) := by decide +kernel
theorem dX5_rules_3 : decode cX5_rules 3 = .ok (.dup, 1) := by decide +kernel
theorem dX5_rules_4 : decode cX5_rules 4 = .ok (.aload_n 0, 1) := by decide +kernel
theorem dX5_rules_5 : decode cX5_rules 5 = .ok (.getfield 25, 3) := by decide +kernel
theorem dX5_rules_8 : decode cX5_rules 8 = .ok (.invokespecial 170, 3) := by decide +kernel
theorem dX5_rules_11 : decode cX5_rules 11 = .ok (.astore_n 1, 1) := by decide +kernel
theorem dX5_rules_12 : decode cX5_rules 12 = .ok (.aload_n 1, 1) := by decide +kernel
theorem dX5_rules_13 : decode cX5_rules 13 = .ok (.invokevirtual 173, 3) := by decide +kernel
theorem dX5_rules_16 : decode cX5_rules 16 = .ok (.istore_n 2, 1) := by decide +kernel
theorem dX5_rules_17 : decode cX5_rules 17 = .ok (.aload_n 0, 1) := by decide +kernel
theorem dX5_rules_18 : decode cX5_rules 18 = .ok (.getfield 25, 3) := by decide +kernel
theorem dX5_rules_21 : decode cX5_rules 21 = .ok (.iconst 0, 1) := by decide +kernel
theorem dX5_rules_22 : decode cX5_rules 22 = .ok (.invokevirtual 177, 3) := by decide +kernel
theorem dX5_rules_25 : decode cX5_rules 25 = .ok (.iload_n 2, 1) := by decide +kernel
theorem dX5_rules_26 : decode cX5_rules 26 = .ok (.ifCond .ne 10, 3) := by decide +kernel
theorem dX5_rules_29 : decode cX5_rules 29 = .ok (.iconst (-1), 1) := by decide +kernel
theorem dX5_rules_30 : decode cX5_rules 30 = .ok (.aload_n 1, 1) := by decide +kernel
theorem dX5_rules_31 : decode cX5_rules 31 = .ok (.getfield 181, 3) := by decide +kernel
theorem dX5_rules_34 : decode cX5_rules 34 = .ok (.isub, 1) := by decide +kernel
theorem dX5_rules_35 : decode cX5_rules 35 = .ok (.ireturn, 1) := by decide +kernel
theorem dX5_rules_36 : decode cX5_rules 36 = .ok (.aload_n 0, 1) := by decide +kernel
theorem dX5_rules_37 : decode cX5_rules 37 = .ok (.aload_n 1, 1) := by decide +kernel
theorem dX5_rules_38 : decode cX5_rules 38 = .ok (.getfield 184, 3) := by decide +kernel
theorem dX5_rules_41 : decode cX5_rules 41 = .ok (.putfield 38, 3) := by decide +kernel
theorem dX5_rules_44 : decode cX5_rules 44 = .ok (.aload_n 0, 1) := by decide +kernel
theorem dX5_rules_45 : decode cX5_rules 45 = .ok (.getfield 38, 3) := by decide +kernel
theorem dX5_rules_48 : decode cX5_rules 48 = .ok (.invokevirtual 48, 3) := by decide +kernel
theorem dX5_rules_51 : decode cX5_rules 51 = .ok (.ireturn, 1) := by decide +kernel
theorem dX5_test_0 : decode cX5_test 0 = .ok (.iload_n 1, 1) := by decide +kernel
theorem dX5_test_1 : decode cX5_test 1 = .ok (.ifCond .lt 14, 3) := by decide +kernel
theorem dX5_test_4 : decode cX5_test 4 = .ok (.iload_n 1, 1) := by decide +kernel
theorem dX5_test_5 : decode cX5_test 5 = .ok (.aload_n 0, 1) := by decide +kernel
theorem dX5_test_6 : decode cX5_test 6 = .ok (.getfield 38, 3) := by decide +kernel
theorem dX5_test_9 : decode cX5_test 9 = .ok (.invokevirtual 48, 3) := by decide +kernel
theorem dX5_test_12 : decode cX5_test 12 = .ok (.if_icmp .lt 13, 3) := by decide +kernel
theorem dX5_test_15 : decode cX5_test 15 = .ok (.new 79, 3) := by decide +kernel
theorem dX5_test_18 : decode cX5_test 18 = .ok (.dup, 1) := by decide +kernel
theorem dX5_test_19 : decode cX5_test 19 = .ok (.ldc 185, 2) := by decide +kernel
theorem dX5_test_21 : decode cX5_test 21 = .ok (.invokespecial 83, 3) := by decide +kernel
theorem dX5_test_24 : decode cX5_test 24 = .ok (.athrow, 1) := by decide +kernel
theorem dX5_test_25 : decode cX5_test 25 = .ok (.iload_n 2, 1) := by decide +kernel
theorem dX5_test_26 : decode cX5_test 26 = .ok (.ifCond .lt 8, 3) := by decide +kernel
theorem dX5_test_29 : decode cX5_test 29 = .ok (.iload_n 2, 1) := by decide +kernel
theorem dX5_test_30 : decode cX5_test 30 = .ok (.iconst 2, 1) := by decide +kernel
theorem dX5_test_31 : decode cX5_test 31 = .ok (.if_icmp .le 13, 3) := by decide +kernel
theorem dX5_test_34 : decode cX5_test 34 = .ok (.new 90, 3) := by decide +kernel
theorem dX5_test_37 : decode cX5_test 37 = .ok (.dup, 1) := by decide +kernel
theorem dX5_test_38 : decode cX5_test 38 = .ok (.ldc 187, 2) := by decide +kernel
theorem dX5_test_40 : decode cX5_test 40 = .ok (.invokespecial 94, 3) := by decide +kernel
theorem dX5_test_43 : decode cX5_test 43 = .ok (.athrow, 1) := by decide +kernel
theorem dX5_test_44 : decode cX5_test 44 = .ok (.aload_n 0, 1) := by decide +kernel
theorem dX5_test_45 : decode cX5_test 45 = .ok (.getfield 38, 3) := by decide +kernel
theorem dX5_test_48 : decode cX5_test 48 = .ok (.iload_n 1, 1) := by decide +kernel
theorem dX5_test_49 : decode cX5_test 49 = .ok (.invokevirtual 95, 3) := by decide +kernel
theorem dX5_test_52 : decode cX5_test 52 = .ok (.checkcast 189, 3) := by decide +kernel
theorem dX5_test_55 : decode cX5_test 55 = .ok (.astore_n 3, 1) := by decide +kernel
theorem dX5_test_56 : decode cX5_test 56 = .ok (.iload_n 2, 1) := by decide +kernel
theorem dX5_test_57 : decode cX5_test 57 = .ok (.iconst 1, 1) := by decide +kernel
theorem dX5_test_58 : decode cX5_test 58 = .ok (.if_icmp .ne 12, 3) := by decide +kernel
theorem dX5_test_61 : decode cX5_test 61 = .ok (.aload_n 3, 1) := by decide +kernel
theorem dX5_test_62 : decode cX5_test 62 = .ok (.getfield 191, 3) := by decide +kernel
theorem dX5_test_65 : decode cX5_test 65 = .ok (.getfield 112, 3) := by decide +kernel
theorem dX5_test_68 : decode cX5_test 68 = .ok (.l2i, 1) := by decide +kernel
theorem dX5_test_69 : decode cX5_test 69 = .ok (.ireturn, 1) := by decide +kernel
theorem dX5_test_70 : decode cX5_test 70 = .ok (.iload_n 2, 1) := by decide +kernel
theorem dX5_test_71 : decode cX5_test 71 = .ok (.iconst 2, 1) := by decide +kernel
theorem dX5_test_72 : decode cX5_test 72 = .ok (.if_icmp .ne 9, 3) := by decide +kernel
theorem dX5_test_75 : decode cX5_test 75 = .ok (.aload_n 0, 1) := by decide +kernel
theorem dX5_test_76 : decode cX5_test 76 = .ok (.aload_n 3, 1) := by decide +kernel
theorem dX5_test_77 : decode cX5_test 77 = .ok (.invokevirtual 194, 3) := by decide +kernel
theorem dX5_test_80 : decode cX5_test 80 = .ok (.ireturn, 1) := by decide +kernel
theorem dX5_test_81 : decode cX5_test 81 = .ok (.aload_n 0, 1) := by decide +kernel
theorem dX5_test_82 : decode cX5_test 82 = .ok (.invokevirtual 135, 3) := by decide +kernel
theorem dX5_test_85 : decode cX5_test 85 = .ok (.aload_n 0, 1) := by decide +kernel
theorem dX5_test_86 : decode cX5_test 86 = .ok (.aload_n 0, 1) := by decide +kernel
theorem dX5_test_87 : decode cX5_test 87 = .ok (.aload_n 3, 1) := by decide +kernel
theorem dX5_test_88 : decode cX5_test 88 = .ok (.invokevirtual 194, 3) := by decide +kernel
theorem dX5_test_91 : decode cX5_test 91 = .ok (.aload_n 3, 1) := by decide +kernel
theorem dX5_test_92 : decode cX5_test 92 = .ok (.getfield 191, 3) := by decide +kernel
theorem dX5_test_95 : decode cX5_test 95 = .ok (.invokevirtual 151, 3) := by decide +kernel
theorem dX5_test_98 : decode cX5_test 98 = .ok (.ireturn, 1) := by decide +kernel
theorem dX5_anchor_0 : decode cX5_anchor 0 = .ok (.aload_n 0, 1) := by decide +kernel
theorem dX5_anchor_1 : decode cX5_anchor 1 = .ok (.invokevirtual 135, 3) := by decide +kernel
theorem dX5_anchor_4 : decode cX5_anchor 4 = .ok (.iconst 0, 1) := by decide +kernel
theorem dX5_anchor_5 : decode cX5_anchor 5 = .ok (.istore_n 1, 1) := by decide +kernel
theorem dX5_anchor_6 : decode cX5_anchor 6 = .ok (.iload_n 1, 1) := by decide +kernel
theorem dX5_anchor_7 : decode cX5_anchor 7 = .ok (.aload_n 0, 1) := by decide +kernel
theorem dX5_anchor_8 : decode cX5_anchor 8 = .ok (.getfield 38, 3) := by decide +kernel
theorem dX5_anchor_11 : decode cX5_anchor 11 = .ok (.invokevirtual 48, 3) := by decide +kernel
theorem dX5_anchor_14 : decode cX5_anchor 14 = .ok (.if_icmp .ge 39, 3) := by decide +kernel
theorem dX5_anchor_17 : decode cX5_anchor 17 = .ok (.aload_n 0, 1) := by decide +kernel
theorem dX5_anchor_18 : decode cX5_anchor 18 = .ok (.getfield 38, 3) := by decide +kernel
theorem dX5_anchor_21 : decode cX5_anchor 21 = .ok (.iload_n 1, 1) := by decide +kernel
theorem dX5_anchor_22 : decode cX5_anchor 22 = .ok (.invokevirtual 95, 3) := by decide +kernel
theorem dX5_anchor_25 : decode cX5_anchor 25 = .ok (.checkcast 189, 3) := by decide +kernel
theorem dX5_anchor_28 : decode cX5_anchor 28 = .ok (.astore_n 2, 1) := by decide +kernel
theorem dX5_anchor_29 : decode cX5_anchor 29 = .ok (.aload_n 0, 1) := by decide +kernel
theorem dX5_anchor_30 : decode cX5_anchor 30 = .ok (.aload_n 0, 1) := by decide +kernel
theorem dX5_anchor_31 : decode cX5_anchor 31 = .ok (.aload_n 2, 1) := by decide +kernel
theorem dX5_anchor_32 : decode cX5_anchor 32 = .ok (.invokevirtual 194, 3) := by decide +kernel
theorem dX5_anchor_35 : decode cX5_anchor 35 = .ok (.aload_n 2, 1) := by decide +kernel
theorem dX5_anchor_36 : decode cX5_anchor 36 = .ok (.getfield 191, 3) := by decide +kernel
theorem dX5_anchor_39 : decode cX5_anchor 39 = .ok (.invokevirtual 151, 3) := by decide +kernel
theorem dX5_anchor_42 : decode cX5_anchor 42 = .ok (.ifCond .eq 5, 3) := by decide +kernel
theorem dX5_anchor_45 : decode cX5_anchor 45 = .ok (.iconst 1, 1) := by decide +kernel
theorem dX5_anchor_46 : decode cX5_anchor 46 = .ok (.ireturn, 1) := by decide +kernel
theorem dX5_anchor_47 : decode cX5_anchor 47 = .ok (.iinc 1 1, 3) := by decide +kernel
theorem dX5_anchor_50 : decode cX5_anchor 50 = .ok (.goto (-44), 3) := by decide +kernel
theorem dX5_anchor_53 : decode cX5_anchor 53 = .ok (.iconst 0, 1) := by decide +kernel
theorem dX5_anchor_54 : decode cX5_anchor 54 = .ok (.ireturn, 1) := by decide +kernel
theorem dX5_wobble_0 : decode cX5_wobble 0 = .ok (.aload_n 0, 1) := by decide +kernel
theorem dX5_wobble_1 : decode cX5_wobble 1 = .ok (.getfield 16, 3) := by decide +kernel
theorem dX5_wobble_4 : decode cX5_wobble 4 = .ok (.invokevirtual 48, 3) := by decide +kernel
theorem dX5_wobble_7 : decode cX5_wobble 7 = .ok (.iconst 4, 1) := by decide +kernel
theorem dX5_wobble_8 : decode cX5_wobble 8 = .ok (.if_icmp .ge 13, 3) := by decide +kernel
theorem dX5_wobble_11 : decode cX5_wobble 11 = .ok (.new 52, 3) := by decide +kernel
theorem dX5_wobble_14 : decode cX5_wobble 14 = .ok (.dup, 1) := by decide +kernel
theorem dX5_wobble_15 : decode cX5_wobble 15 = .ok (.ldc 198, 2) := by decide +kernel
theorem dX5_wobble_17 : decode cX5_wobble 17 = .ok (.invokespecial 56, 3) := by decide +kernel
theorem dX5_wobble_20 : decode cX5_wobble 20 = .ok (.athrow, 1) := by decide +kernel
theorem dX5_wobble_21 : decode cX5_wobble 21 = .ok (.aload_n 0, 1) := by decide +kernel
theorem dX5_wobble_22 : decode cX5_wobble 22 = .ok (.getfield 16, 3) := by decide +kernel
theorem dX5_wobble_25 : decode cX5_wobble 25 = .ok (.iconst 0, 1) := by decide +kernel
theorem dX5_wobble_26 : decode cX5_wobble 26 = .ok (.invokevirtual 95, 3) := by decide +kernel
theorem dX5_wobble_29 : decode cX5_wobble 29 = .ok (.checkcast 70, 3) := by decide +kernel
theorem dX5_wobble_32 : decode cX5_wobble 32 = .ok (.astore 9, 2) := by decide +kernel
theorem dX5_wobble_34 : decode cX5_wobble 34 = .ok (.aload_n 0, 1) := by decide +kernel
theorem dX5_wobble_35 : decode cX5_wobble 35 = .ok (.getfield 16, 3) := by decide +kernel
theorem dX5_wobble_38 : decode cX5_wobble 38 = .ok (.iconst 1, 1) := by decide +kernel
theorem dX5_wobble_39 : decode cX5_wobble 39 = .ok (.invokevirtual 95, 3) := by decide +kernel
theorem dX5_wobble_42 : decode cX5_wobble 42 = .ok (.checkcast 70, 3) := by decide +kernel
theorem dX5_wobble_45 : decode cX5_wobble 45 = .ok (.astore 10, 2) := by decide +kernel
theorem dX5_wobble_47 : decode cX5_wobble 47 = .ok (.aload_n 0, 1) := by decide +kernel
theorem dX5_wobble_48 : decode cX5_wobble 48 = .ok (.getfield 16, 3) := by decide +kernel
theorem dX5_wobble_51 : decode cX5_wobble 51 = .ok (.iconst 2, 1) := by decide +kernel
theorem dX5_wobble_52 : decode cX5_wobble 52 = .ok (.invokevirtual 95, 3) := by decide +kernel
theorem dX5_wobble_55 : decode cX5_wobble 55 = .ok (.checkcast 70, 3) := by decide +kernel
theorem dX5_wobble_58 : decode cX5_wobble 58 = .ok (.astore 11, 2) := by decide +kernel
theorem dX5_wobble_60 : decode cX5_wobble 60 = .ok (.aload_n 0, 1) := by decide +kernel
theorem dX5_wobble_61 : decode cX5_wobble 61 = .ok (.getfield 16, 3) := by decide +kernel
theorem dX5_wobble_64 : decode cX5_wobble 64 = .ok (.iconst 3, 1) := by decide +kernel
theorem dX5_wobble_65 : decode cX5_wobble 65 = .ok (.invokevirtual 95, 3) := by decide +kernel
theorem dX5_wobble_68 : decode cX5_wobble 68 = .ok (.checkcast 70, 3) := by decide +kernel
theorem dX5_wobble_71 : decode cX5_wobble 71 = .ok (.astore 12, 2) := by decide +kernel
theorem dX5_wobble_73 : decode cX5_wobble 73 = .ok (.aload 9, 2) := by decide +kernel
theorem dX5_wobble_75 : decode cX5_wobble 75 = .ok (.aload 10, 2) := by decide +kernel
theorem dX5_wobble_77 : decode cX5_wobble 77 = .ok (.aload 11, 2) := by decide +kernel
theorem dX5_wobble_79 : decode cX5_wobble 79 = .ok (.invokevirtual 200, 3) := by decide +kernel
theorem dX5_wobble_82 : decode cX5_wobble 82 = .ok (.lstore 13, 2) := by decide +kernel
theorem dX5_wobble_84 : decode cX5_wobble 84 = .ok (.lload 13, 2) := by decide +kernel
theorem dX5_wobble_86 : decode cX5_wobble 86 = .ok (.lconst 0, 1) := by decide +kernel
theorem dX5_wobble_87 : decode cX5_wobble 87 = .ok (.lcmp, 1) := by decide +kernel
theorem dX5_wobble_88 : decode cX5_wobble 88 = .ok (.ifCond .ne 13, 3) := by decide +kernel
theorem dX5_wobble_91 : decode cX5_wobble 91 = .ok (.new 52, 3) := by decide +kernel
theorem dX5_wobble_94 : decode cX5_wobble 94 = .ok (.dup, 1) := by decide +kernel
theorem dX5_wobble_95 : decode cX5_wobble 95 = .ok (.ldc 204, 2) := by decide +kernel
theorem dX5_wobble_97 : decode cX5_wobble 97 = .ok (.invokespecial 56, 3) := by decide +kernel
theorem dX5_wobble_100 : decode cX5_wobble 100 = .ok (.athrow, 1) := by decide +kernel
theorem dX5_wobble_101 : decode cX5_wobble 101 = .ok (.lload_n 1, 1) := by decide +kernel
theorem dX5_wobble_102 : decode cX5_wobble 102 = .ok (.invokestatic 206, 3) := by decide +kernel
theorem dX5_wobble_105 : decode cX5_wobble 105 = .ok (.lload_n 3, 1) := by decide +kernel
theorem dX5_wobble_106 : decode cX5_wobble 106 = .ok (.invokestatic 206, 3) := by decide +kernel
theorem dX5_wobble_109 : decode cX5_wobble 109 = .ok (.lload 5, 2) := by decide +kernel
theorem dX5_wobble_111 : decode cX5_wobble 111 = .ok (.invokestatic 206, 3) := by decide +kernel
theorem dX5_wobble_114 : decode cX5_wobble 114 = .ok (.lload 7, 2) := by decide +kernel
theorem dX5_wobble_116 : decode cX5_wobble 116 = .ok (.invokestatic 206, 3) := by decide +kernel
theorem dX5_wobble_119 : decode cX5_wobble 119 = .ok (.lload_n 3, 1) := by decide +kernel
theorem dX5_wobble_120 : decode cX5_wobble 120 = .ok (.lload_n 1, 1) := by decide +kernel
theorem dX5_wobble_121 : decode cX5_wobble 121 = .ok (.lsub, 1) := by decide +kernel
theorem dX5_wobble_122 : decode cX5_wobble 122 = .ok (.aload 9, 2) := by decide +kernel
theorem dX5_wobble_124 : decode cX5_wobble 124 = .ok (.aload 12, 2) := by decide +kernel
theorem dX5_wobble_126 : decode cX5_wobble 126 = .ok (.aload 11, 2) := by decide +kernel
theorem dX5_wobble_128 : decode cX5_wobble 128 = .ok (.invokevirtual 200, 3) := by decide +kernel
theorem dX5_wobble_131 : decode cX5_wobble 131 = .ok (.lmul, 1) := by decide +kernel
theorem dX5_wobble_132 : decode cX5_wobble 132 = .ok (.lload 5, 2) := by decide +kernel
theorem dX5_wobble_134 : decode cX5_wobble 134 = .ok (.lload_n 1, 1) := by decide +kernel
theorem dX5_wobble_135 : decode cX5_wobble 135 = .ok (.lsub, 1) := by decide +kernel
theorem dX5_wobble_136 : decode cX5_wobble 136 = .ok (.aload 9, 2) := by decide +kernel
theorem dX5_wobble_138 : decode cX5_wobble 138 = .ok (.aload 10, 2) := by decide +kernel
theorem dX5_wobble_140 : decode cX5_wobble 140 = .ok (.aload 12, 2) := by decide +kernel
theorem dX5_wobble_142 : decode cX5_wobble 142 = .ok (.invokevirtual 200, 3) := by decide +kernel
theorem dX5_wobble_145 : decode cX5_wobble 145 = .ok (.lmul, 1) := by decide +kernel
theorem dX5_wobble_146 : decode cX5_wobble 146 = .ok (.ladd, 1) := by decide +kernel
theorem dX5_wobble_147 : decode cX5_wobble 147 = .ok (.lstore 15, 2) := by decide +kernel
theorem dX5_wobble_149 : decode cX5_wobble 149 = .ok (.lload 7, 2) := by decide +kernel
theorem dX5_wobble_151 : decode cX5_wobble 151 = .ok (.lload_n 1, 1) := by decide +kernel
theorem dX5_wobble_152 : decode cX5_wobble 152 = .ok (.lsub, 1) := by decide +kernel
theorem dX5_wobble_153 : decode cX5_wobble 153 = .ok (.l2d, 1) := by decide +kernel
theorem dX5_wobble_154 : decode cX5_wobble 154 = .ok (.lload 15, 2) := by decide +kernel
theorem dX5_wobble_156 : decode cX5_wobble 156 = .ok (.l2d, 1) := by decide +kernel
theorem dX5_wobble_157 : decode cX5_wobble 157 = .ok (.lload 13, 2) := by decide +kernel
theorem dX5_wobble_159 : decode cX5_wobble 159 = .ok (.l2d, 1) := by decide +kernel
theorem dX5_wobble_160 : decode cX5_wobble 160 = .ok (.ddiv, 1) := by decide +kernel
theorem dX5_wobble_161 : decode cX5_wobble 161 = .ok (.dsub, 1) := by decide +kernel
theorem dX5_wobble_162 : decode cX5_wobble 162 = .ok (.dstore 17, 2) := by decide +kernel
theorem dX5_wobble_164 : decode cX5_wobble 164 = .ok (.dload 17, 2) := by decide +kernel
theorem dX5_wobble_166 : decode cX5_wobble 166 = .ok (.dconst 0, 1) := by decide +kernel
theorem dX5_wobble_167 : decode cX5_wobble 167 = .ok (.dcmp .g, 1) := by decide +kernel
theorem dX5_wobble_168 : decode cX5_wobble 168 = .ok (.ifCond .ge 9, 3) := by decide +kernel
theorem dX5_wobble_171 : decode cX5_wobble 171 = .ok (.dload 17, 2) := by decide +kernel
theorem dX5_wobble_173 : decode cX5_wobble 173 = .ok (.dneg, 1) := by decide +kernel
theorem dX5_wobble_174 : decode cX5_wobble 174 = .ok (.goto 5, 3) := by decide +kernel
theorem dX5_wobble_177 : decode cX5_wobble 177 = .ok (.dload 17, 2) := by decide +kernel
theorem dX5_wobble_179 : decode cX5_wobble 179 = .ok (.dreturn, 1) := by decide +kernel
theorem dX5_bend_0 : decode cX5_bend 0 = .ok (.dload 7, 2) := by decide +kernel
theorem dX5_bend_2 : decode cX5_bend 2 = .ok (.dconst 0, 1) := by decide +kernel
theorem dX5_bend_3 : decode cX5_bend 3 = .ok (.ldc2_w 209, 3) := by decide +kernel
theorem dX5_bend_6 : decode cX5_bend 6 = .ok (.invokestatic 211, 3) := by decide +kernel
theorem dX5_bend_9 : decode cX5_bend 9 = .ok (.ifCond .eq 14, 3) := by decide +kernel
theorem dX5_bend_12 : decode cX5_bend 12 = .ok (.dload_n 1, 1) := by decide +kernel
theorem dX5_bend_13 : decode cX5_bend 13 = .ok (.dconst 0, 1) := by decide +kernel
theorem dX5_bend_14 : decode cX5_bend 14 = .ok (.ldc2_w 209, 3) := by decide +kernel
theorem dX5_bend_17 : decode cX5_bend 17 = .ok (.invokestatic 211, 3) := by decide +kernel
theorem dX5_bend_20 : decode cX5_bend 20 = .ok (.ifCond .ne 13, 3) := by decide +kernel
theorem dX5_bend_23 : decode cX5_bend 23 = .ok (.new 90, 3) := by decide +kernel
theorem dX5_bend_26 : decode cX5_bend 26 = .ok (.dup, 1) := by decide +kernel
theorem dX5_bend_27 : decode cX5_bend 27 = .ok (.ldc 215, 2) := by decide +kernel
theorem dX5_bend_29 : decode cX5_bend 29 = .ok (.invokespecial 94, 3) := by decide +kernel
theorem dX5_bend_32 : decode cX5_bend 32 = .ok (.athrow, 1) := by decide +kernel
theorem dX5_bend_33 : decode cX5_bend 33 = .ok (.dload_n 3, 1) := by decide +kernel
theorem dX5_bend_34 : decode cX5_bend 34 = .ok (.ldc2_w 217, 3) := by decide +kernel
theorem dX5_bend_37 : decode cX5_bend 37 = .ok (.ldc2_w 219, 3) := by decide +kernel
theorem dX5_bend_40 : decode cX5_bend 40 = .ok (.invokestatic 211, 3) := by decide +kernel
theorem dX5_bend_43 : decode cX5_bend 43 = .ok (.ifCond .eq 17, 3) := by decide +kernel
theorem dX5_bend_46 : decode cX5_bend 46 = .ok (.dload 5, 2) := by decide +kernel
theorem dX5_bend_48 : decode cX5_bend 48 = .ok (.ldc2_w 217, 3) := by decide +kernel
theorem dX5_bend_51 : decode cX5_bend 51 = .ok (.ldc2_w 219, 3) := by decide +kernel
theorem dX5_bend_54 : decode cX5_bend 54 = .ok (.invokestatic 211, 3) := by decide +kernel
theorem dX5_bend_57 : decode cX5_bend 57 = .ok (.ifCond .ne 13, 3) := by decide +kernel
theorem dX5_bend_60 : decode cX5_bend 60 = .ok (.new 90, 3) := by decide +kernel
theorem dX5_bend_63 : decode cX5_bend 63 = .ok (.dup, 1) := by decide +kernel
theorem dX5_bend_64 : decode cX5_bend 64 = .ok (.ldc 221, 2) := by decide +kernel
theorem dX5_bend_66 : decode cX5_bend 66 = .ok (.invokespecial 94, 3) := by decide +kernel
theorem dX5_bend_69 : decode cX5_bend 69 = .ok (.athrow, 1) := by decide +kernel
theorem dX5_bend_70 : decode cX5_bend 70 = .ok (.dload_n 3, 1) := by decide +kernel
theorem dX5_bend_71 : decode cX5_bend 71 = .ok (.dload 5, 2) := by decide +kernel
theorem dX5_bend_73 : decode cX5_bend 73 = .ok (.dmul, 1) := by decide +kernel
theorem dX5_bend_74 : decode cX5_bend 74 = .ok (.dload 5, 2) := by decide +kernel
theorem dX5_bend_76 : decode cX5_bend 76 = .ok (.dmul, 1) := by decide +kernel
theorem dX5_bend_77 : decode cX5_bend 77 = .ok (.dload 5, 2) := by decide +kernel
theorem dX5_bend_79 : decode cX5_bend 79 = .ok (.dmul, 1) := by decide +kernel
theorem dX5_bend_80 : decode cX5_bend 80 = .ok (.dstore 9, 2) := by decide +kernel
theorem dX5_bend_82 : decode cX5_bend 82 = .ok (.ldc2_w 223, 3) := by decide +kernel
theorem dX5_bend_85 : decode cX5_bend 85 = .ok (.dload 7, 2) := by decide +kernel
theorem dX5_bend_87 : decode cX5_bend 87 = .ok (.dmul, 1) := by decide +kernel
theorem dX5_bend_88 : decode cX5_bend 88 = .ok (.dload_n 1, 1) := by decide +kernel
theorem dX5_bend_89 : decode cX5_bend 89 = .ok (.dmul, 1) := by decide +kernel
theorem dX5_bend_90 : decode cX5_bend 90 = .ok (.dload_n 1, 1) := by decide +kernel
theorem dX5_bend_91 : decode cX5_bend 91 = .ok (.dmul, 1) := by decide +kernel
theorem dX5_bend_92 : decode cX5_bend 92 = .ok (.dload_n 1, 1) := by decide +kernel
theorem dX5_bend_93 : decode cX5_bend 93 = .ok (.dmul, 1) := by decide +kernel
theorem dX5_bend_94 : decode cX5_bend 94 = .ok (.dload 9, 2) := by decide +kernel
theorem dX5_bend_96 : decode cX5_bend 96 = .ok (.ddiv, 1) := by decide +kernel
theorem dX5_bend_97 : decode cX5_bend 97 = .ok (.dreturn, 1) := by decide +kernel
theorem dX5_creep_0 : decode cX5_creep 0 = .ok (.iload_n 1, 1) := by decide +kernel
theorem dX5_creep_1 : decode cX5_creep 1 = .ok (.ifCond .lt 10, 3) := by decide +kernel
theorem dX5_creep_4 : decode cX5_creep 4 = .ok (.iload_n 1, 1) := by decide +kernel
theorem dX5_creep_5 : decode cX5_creep 5 = .ok (.sipush 1000, 3) := by decide +kernel
theorem dX5_creep_8 : decode cX5_creep 8 = .ok (.if_icmp .le 13, 3) := by decide +kernel
theorem dX5_creep_11 : decode cX5_creep 11 = .ok (.new 90, 3) := by decide +kernel
theorem dX5_creep_14 : decode cX5_creep 14 = .ok (.dup, 1) := by decide +kernel
theorem dX5_creep_15 : decode cX5_creep 15 = .ok (.ldc 225, 2) := by decide +kernel
theorem dX5_creep_17 : decode cX5_creep 17 = .ok (.invokespecial 94, 3) := by decide +kernel
theorem dX5_creep_20 : decode cX5_creep 20 = .ok (.athrow, 1) := by decide +kernel
theorem dX5_creep_21 : decode cX5_creep 21 = .ok (.dconst 1, 1) := by decide +kernel
theorem dX5_creep_22 : decode cX5_creep 22 = .ok (.ldc2_w 227, 3) := by decide +kernel
theorem dX5_creep_25 : decode cX5_creep 25 = .ok (.iload_n 1, 1) := by decide +kernel
theorem dX5_creep_26 : decode cX5_creep 26 = .ok (.i2d, 1) := by decide +kernel
theorem dX5_creep_27 : decode cX5_creep 27 = .ok (.dmul, 1) := by decide +kernel
theorem dX5_creep_28 : decode cX5_creep 28 = .ok (.iload_n 1, 1) := by decide +kernel
theorem dX5_creep_29 : decode cX5_creep 29 = .ok (.iconst 2, 1) := by decide +kernel
theorem dX5_creep_30 : decode cX5_creep 30 = .ok (.iadd, 1) := by decide +kernel
theorem dX5_creep_31 : decode cX5_creep 31 = .ok (.i2d, 1) := by decide +kernel
theorem dX5_creep_32 : decode cX5_creep 32 = .ok (.ddiv, 1) := by decide +kernel
theorem dX5_creep_33 : decode cX5_creep 33 = .ok (.dadd, 1) := by decide +kernel
theorem dX5_creep_34 : decode cX5_creep 34 = .ok (.dreturn, 1) := by decide +kernel
theorem dX5_gap_0 : decode cX5_gap 0 = .ok (.lload_n 1, 1) := by decide +kernel
theorem dX5_gap_1 : decode cX5_gap 1 = .ok (.ldc2_w 229, 3) := by decide +kernel
theorem dX5_gap_4 : decode cX5_gap 4 = .ok (.lcmp, 1) := by decide +kernel
theorem dX5_gap_5 : decode cX5_gap 5 = .ok (.ifCond .le 13, 3) := by decide +kernel
theorem dX5_gap_8 : decode cX5_gap 8 = .ok (.lload_n 1, 1) := by decide +kernel
theorem dX5_gap_9 : decode cX5_gap 9 = .ok (.ldc2_w 231, 3) := by decide +kernel
theorem dX5_gap_12 : decode cX5_gap 12 = .ok (.lcmp, 1) := by decide +kernel
theorem dX5_gap_13 : decode cX5_gap 13 = .ok (.ifCond .ge 5, 3) := by decide +kernel
theorem dX5_gap_16 : decode cX5_gap 16 = .ok (.iconst 1, 1) := by decide +kernel
theorem dX5_gap_17 : decode cX5_gap 17 = .ok (.ireturn, 1) := by decide +kernel
theorem dX5_gap_18 : decode cX5_gap 18 = .ok (.lload_n 1, 1) := by decide +kernel
theorem dX5_gap_19 : decode cX5_gap 19 = .ok (.ldc2_w 233, 3) := by decide +kernel
theorem dX5_gap_22 : decode cX5_gap 22 = .ok (.lcmp, 1) := by decide +kernel
theorem dX5_gap_23 : decode cX5_gap 23 = .ok (.ifCond .le 15, 3) := by decide +kernel
theorem dX5_gap_26 : decode cX5_gap 26 = .ok (.lload_n 1, 1) := by decide +kernel
theorem dX5_gap_27 : decode cX5_gap 27 = .ok (.ldc2_w 235, 3) := by decide +kernel
theorem dX5_gap_30 : decode cX5_gap 30 = .ok (.lcmp, 1) := by decide +kernel
theorem dX5_gap_31 : decode cX5_gap 31 = .ok (.ifCond .ge 7, 3) := by decide +kernel
theorem dX5_gap_34 : decode cX5_gap 34 = .ok (.iconst 2, 1) := by decide +kernel
theorem dX5_gap_35 : decode cX5_gap 35 = .ok (.goto 4, 3) := by decide +kernel
theorem dX5_gap_38 : decode cX5_gap 38 = .ok (.iconst 0, 1) := by decide +kernel
theorem dX5_gap_39 : decode cX5_gap 39 = .ok (.ireturn, 1) := by decide +kernel
theorem dX5_isWithin_0 : decode cX5_isWithin 0 = .ok (.lload_n 0, 1) := by decide +kernel
theorem dX5_isWithin_1 : decode cX5_isWithin 1 = .ok (.lload_n 2, 1) := by decide +kernel
theorem dX5_isWithin_2 : decode cX5_isWithin 2 = .ok (.lcmp, 1) := by decide +kernel
theorem dX5_isWithin_3 : decode cX5_isWithin 3 = .ok (.ifCond .lt 14, 3) := by decide +kernel
theorem dX5_isWithin_6 : decode cX5_isWithin 6 = .ok (.lload_n 0, 1) := by decide +kernel
theorem dX5_isWithin_7 : decode cX5_isWithin 7 = .ok (.lload 4, 2) := by decide +kernel
theorem dX5_isWithin_9 : decode cX5_isWithin 9 = .ok (.lcmp, 1) := by decide +kernel
theorem dX5_isWithin_10 : decode cX5_isWithin 10 = .ok (.ifCond .gt 7, 3) := by decide +kernel
theorem dX5_isWithin_13 : decode cX5_isWithin 13 = .ok (.iconst 1, 1) := by decide +kernel
theorem dX5_isWithin_14 : decode cX5_isWithin 14 = .ok (.goto 4, 3) := by decide +kernel
theorem dX5_isWithin_17 : decode cX5_isWithin 17 = .ok (.iconst 0, 1) := by decide +kernel
theorem dX5_isWithin_18 : decode cX5_isWithin 18 = .ok (.ireturn, 1) := by decide +kernel
theorem dX5_isSize_0 : decode cX5_isSize 0 = .ok (.dload_n 0, 1) := by decide +kernel
theorem dX5_isSize_1 : decode cX5_isSize 1 = .ok (.dload_n 2, 1) := by decide +kernel
theorem dX5_isSize_2 : decode cX5_isSize 2 = .ok (.dcmp .l, 1) := by decide +kernel
theorem dX5_isSize_3 : decode cX5_isSize 3 = .ok (.ifCond .lt 14, 3) := by decide +kernel
theorem dX5_isSize_6 : decode cX5_isSize 6 = .ok (.dload_n 0, 1) := by decide +kernel
theorem dX5_isSize_7 : decode cX5_isSize 7 = .ok (.dload 4, 2) := by decide +kernel
theorem dX5_isSize_9 : decode cX5_isSize 9 = .ok (.dcmp .g, 1) := by decide +kernel
theorem dX5_isSize_10 : decode cX5_isSize 10 = .ok (.ifCond .gt 7, 3) := by decide +kernel
theorem dX5_isSize_13 : decode cX5_isSize 13 = .ok (.iconst 1, 1) := by decide +kernel
theorem dX5_isSize_14 : decode cX5_isSize 14 = .ok (.goto 4, 3) := by decide +kernel
theorem dX5_isSize_17 : decode cX5_isSize 17 = .ok (.iconst 0, 1) := by decide +kernel
theorem dX5_isSize_18 : decode cX5_isSize 18 = .ok (.ireturn, 1) := by decide +kernel
theorem dX5_needPlace_0 : decode cX5_needPlace 0 = .ok (.lload_n 0, 1) := by decide +kernel
theorem dX5_needPlace_1 : decode cX5_needPlace 1 = .ok (.ldc2_w 237, 3) := by decide +kernel
theorem dX5_needPlace_4 : decode cX5_needPlace 4 = .ok (.ldc2_w 84, 3) := by decide +kernel
theorem dX5_needPlace_7 : decode cX5_needPlace 7 = .ok (.invokestatic 86, 3) := by decide +kernel
theorem dX5_needPlace_10 : decode cX5_needPlace 10 = .ok (.ifCond .ne 13, 3) := by decide +kernel
theorem dX5_needPlace_13 : decode cX5_needPlace 13 = .ok (.new 90, 3) := by decide +kernel
theorem dX5_needPlace_16 : decode cX5_needPlace 16 = .ok (.dup, 1) := by decide +kernel
theorem dX5_needPlace_17 : decode cX5_needPlace 17 = .ok (.ldc 239, 2) := by decide +kernel
theorem dX5_needPlace_19 : decode cX5_needPlace 19 = .ok (.invokespecial 94, 3) := by decide +kernel
theorem dX5_needPlace_22 : decode cX5_needPlace 22 = .ok (.athrow, 1) := by decide +kernel
theorem dX5_needPlace_23 : decode cX5_needPlace 23 = .ok (.return_, 1) := by decide +kernel
theorem dX5_needGrams_0 : decode cX5_needGrams 0 = .ok (.lload_n 0, 1) := by decide +kernel
theorem dX5_needGrams_1 : decode cX5_needGrams 1 = .ok (.lconst 0, 1) := by decide +kernel
theorem dX5_needGrams_2 : decode cX5_needGrams 2 = .ok (.ldc2_w 241, 3) := by decide +kernel
theorem dX5_needGrams_5 : decode cX5_needGrams 5 = .ok (.invokestatic 86, 3) := by decide +kernel
theorem dX5_needGrams_8 : decode cX5_needGrams 8 = .ok (.ifCond .ne 13, 3) := by decide +kernel
theorem dX5_needGrams_11 : decode cX5_needGrams 11 = .ok (.new 90, 3) := by decide +kernel
theorem dX5_needGrams_14 : decode cX5_needGrams 14 = .ok (.dup, 1) := by decide +kernel
theorem dX5_needGrams_15 : decode cX5_needGrams 15 = .ok (.ldc 243, 2) := by decide +kernel
theorem dX5_needGrams_17 : decode cX5_needGrams 17 = .ok (.invokespecial 94, 3) := by decide +kernel
theorem dX5_needGrams_20 : decode cX5_needGrams 20 = .ok (.athrow, 1) := by decide +kernel
theorem dX5_needGrams_21 : decode cX5_needGrams 21 = .ok (.return_, 1) := by decide +kernel
theorem dX5_needHeight_0 : decode cX5_needHeight 0 = .ok (.lload_n 0, 1) := by decide +kernel
theorem dX5_needHeight_1 : decode cX5_needHeight 1 = .ok (.ldc2_w 245, 3) := by decide +kernel
theorem dX5_needHeight_4 : decode cX5_needHeight 4 = .ok (.ldc2_w 247, 3) := by decide +kernel
theorem dX5_needHeight_7 : decode cX5_needHeight 7 = .ok (.invokestatic 86, 3) := by decide +kernel
theorem dX5_needHeight_10 : decode cX5_needHeight 10 = .ok (.ifCond .ne 13, 3) := by decide +kernel
theorem dX5_needHeight_13 : decode cX5_needHeight 13 = .ok (.new 90, 3) := by decide +kernel
theorem dX5_needHeight_16 : decode cX5_needHeight 16 = .ok (.dup, 1) := by decide +kernel
theorem dX5_needHeight_17 : decode cX5_needHeight 17 = .ok (.ldc 249, 2) := by decide +kernel
theorem dX5_needHeight_19 : decode cX5_needHeight 19 = .ok (.invokespecial 94, 3) := by decide +kernel
theorem dX5_needHeight_22 : decode cX5_needHeight 22 = .ok (.athrow, 1) := by decide +kernel
theorem dX5_needHeight_23 : decode cX5_needHeight 23 = .ok (.return_, 1) := by decide +kernel
theorem dX5_needPolygon_0 : decode cX5_needPolygon 0 = .ok (.aload_n 0, 1) := by decide +kernel
theorem dX5_needPolygon_1 : decode cX5_needPolygon 1 = .ok (.getfield 19, 3) := by decide +kernel
theorem dX5_needPolygon_4 : decode cX5_needPolygon 4 = .ok (.invokevirtual 251, 3) := by decide +kernel
theorem dX5_needPolygon_7 : decode cX5_needPolygon 7 = .ok (.ifCond .eq 13, 3) := by decide +kernel
theorem dX5_needPolygon_10 : decode cX5_needPolygon 10 = .ok (.new 52, 3) := by decide +kernel
theorem dX5_needPolygon_13 : decode cX5_needPolygon 13 = .ok (.dup, 1) := by decide +kernel
theorem dX5_needPolygon_14 : decode cX5_needPolygon 14 = .ok (.ldc 254, 2) := by decide +kernel
theorem dX5_needPolygon_16 : decode cX5_needPolygon 16 = .ok (.invokespecial 56, 3) := by decide +kernel
theorem dX5_needPolygon_19 : decode cX5_needPolygon 19 = .ok (.athrow, 1) := by decide +kernel
theorem dX5_needPolygon_20 : decode cX5_needPolygon 20 = .ok (.return_, 1) := by decide +kernel
theorem dX5_commonDivisor_0 : decode cX5_commonDivisor 0 = .ok (.lload_n 0, 1) := by decide +kernel
theorem dX5_commonDivisor_1 : decode cX5_commonDivisor 1 = .ok (.lstore 4, 2) := by decide +kernel
theorem dX5_commonDivisor_3 : decode cX5_commonDivisor 3 = .ok (.lload_n 2, 1) := by decide +kernel
theorem dX5_commonDivisor_4 : decode cX5_commonDivisor 4 = .ok (.lstore 6, 2) := by decide +kernel
theorem dX5_commonDivisor_6 : decode cX5_commonDivisor 6 = .ok (.iconst 0, 1) := by decide +kernel
theorem dX5_commonDivisor_7 : decode cX5_commonDivisor 7 = .ok (.istore 8, 2) := by decide +kernel
theorem dX5_commonDivisor_9 : decode cX5_commonDivisor 9 = .ok (.iload 8, 2) := by decide +kernel
theorem dX5_commonDivisor_11 : decode cX5_commonDivisor 11 = .ok (.bipush 100, 2) := by decide +kernel
theorem dX5_commonDivisor_13 : decode cX5_commonDivisor 13 = .ok (.if_icmp .ge 31, 3) := by decide +kernel
theorem dX5_commonDivisor_16 : decode cX5_commonDivisor 16 = .ok (.lload 6, 2) := by decide +kernel
theorem dX5_commonDivisor_18 : decode cX5_commonDivisor 18 = .ok (.lconst 0, 1) := by decide +kernel
theorem dX5_commonDivisor_19 : decode cX5_commonDivisor 19 = .ok (.lcmp, 1) := by decide +kernel
theorem dX5_commonDivisor_20 : decode cX5_commonDivisor 20 = .ok (.ifCond .eq 24, 3) := by decide +kernel
theorem dX5_commonDivisor_23 : decode cX5_commonDivisor 23 = .ok (.lload 4, 2) := by decide +kernel
theorem dX5_commonDivisor_25 : decode cX5_commonDivisor 25 = .ok (.lload 6, 2) := by decide +kernel
theorem dX5_commonDivisor_27 : decode cX5_commonDivisor 27 = .ok (.lrem, 1) := by decide +kernel
theorem dX5_commonDivisor_28 : decode cX5_commonDivisor 28 = .ok (.lstore 9, 2) := by decide +kernel
theorem dX5_commonDivisor_30 : decode cX5_commonDivisor 30 = .ok (.lload 6, 2) := by decide +kernel
theorem dX5_commonDivisor_32 : decode cX5_commonDivisor 32 = .ok (.lstore 4, 2) := by decide +kernel
theorem dX5_commonDivisor_34 : decode cX5_commonDivisor 34 = .ok (.lload 9, 2) := by decide +kernel
theorem dX5_commonDivisor_36 : decode cX5_commonDivisor 36 = .ok (.lstore 6, 2) := by decide +kernel
theorem dX5_commonDivisor_38 : decode cX5_commonDivisor 38 = .ok (.iinc 8 1, 3) := by decide +kernel
theorem dX5_commonDivisor_41 : decode cX5_commonDivisor 41 = .ok (.goto (-32), 3) := by decide +kernel
theorem dX5_commonDivisor_44 : decode cX5_commonDivisor 44 = .ok (.lload 4, 2) := by decide +kernel
theorem dX5_commonDivisor_46 : decode cX5_commonDivisor 46 = .ok (.lconst 1, 1) := by decide +kernel
theorem dX5_commonDivisor_47 : decode cX5_commonDivisor 47 = .ok (.lcmp, 1) := by decide +kernel
theorem dX5_commonDivisor_48 : decode cX5_commonDivisor 48 = .ok (.ifCond .ge 7, 3) := by decide +kernel
theorem dX5_commonDivisor_51 : decode cX5_commonDivisor 51 = .ok (.lconst 1, 1) := by decide +kernel
theorem dX5_commonDivisor_52 : decode cX5_commonDivisor 52 = .ok (.goto 5, 3) := by decide +kernel
theorem dX5_commonDivisor_55 : decode cX5_commonDivisor 55 = .ok (.lload 4, 2) := by decide +kernel
theorem dX5_commonDivisor_57 : decode cX5_commonDivisor 57 = .ok (.lreturn, 1) := by decide +kernel
theorem dX5_openDrawers_0 : decode cX5_openDrawers 0 = .ok (.aload_n 1, 1) := by decide +kernel
theorem dX5_openDrawers_1 : decode cX5_openDrawers 1 = .ok (.getfield 256, 3) := by decide +kernel
theorem dX5_openDrawers_4 : decode cX5_openDrawers 4 = .ok (.aload_n 0, 1) := by decide +kernel
theorem dX5_openDrawers_5 : decode cX5_openDrawers 5 = .ok (.getfield 44, 3) := by decide +kernel
theorem dX5_openDrawers_8 : decode cX5_openDrawers 8 = .ok (.if_icmp .ge 10, 3) := by decide +kernel
theorem dX5_openDrawers_11 : decode cX5_openDrawers 11 = .ok (.aload_n 1, 1) := by decide +kernel
theorem dX5_openDrawers_12 : decode cX5_openDrawers 12 = .ok (.getfield 256, 3) := by decide +kernel
theorem dX5_openDrawers_15 : decode cX5_openDrawers 15 = .ok (.goto 7, 3) := by decide +kernel
theorem dX5_openDrawers_18 : decode cX5_openDrawers 18 = .ok (.aload_n 0, 1) := by decide +kernel
theorem dX5_openDrawers_19 : decode cX5_openDrawers 19 = .ok (.getfield 44, 3) := by decide +kernel
theorem dX5_openDrawers_22 : decode cX5_openDrawers 22 = .ok (.ireturn, 1) := by decide +kernel
theorem dX5_verdict_0 : decode cX5_verdict 0 = .ok (.iconst 0, 1) := by decide +kernel
theorem dX5_verdict_1 : decode cX5_verdict 1 = .ok (.istore_n 3, 1) := by decide +kernel
theorem dX5_verdict_2 : decode cX5_verdict 2 = .ok (.iload_n 3, 1) := by decide +kernel
theorem dX5_verdict_3 : decode cX5_verdict 3 = .ok (.aload_n 0, 1) := by decide +kernel
theorem dX5_verdict_4 : decode cX5_verdict 4 = .ok (.getfield 19, 3) := by decide +kernel
theorem dX5_verdict_7 : decode cX5_verdict 7 = .ok (.invokevirtual 48, 3) := by decide +kernel
theorem dX5_verdict_10 : decode cX5_verdict 10 = .ok (.if_icmp .ge 35, 3) := by decide +kernel
theorem dX5_verdict_13 : decode cX5_verdict 13 = .ok (.aload_n 0, 1) := by decide +kernel
theorem dX5_verdict_14 : decode cX5_verdict 14 = .ok (.aload_n 0, 1) := by decide +kernel
theorem dX5_verdict_15 : decode cX5_verdict 15 = .ok (.getfield 19, 3) := by decide +kernel
theorem dX5_verdict_18 : decode cX5_verdict 18 = .ok (.iload_n 3, 1) := by decide +kernel
theorem dX5_verdict_19 : decode cX5_verdict 19 = .ok (.invokevirtual 95, 3) := by decide +kernel
theorem dX5_verdict_22 : decode cX5_verdict 22 = .ok (.checkcast 140, 3) := by decide +kernel
theorem dX5_verdict_25 : decode cX5_verdict 25 = .ok (.iload_n 1, 1) := by decide +kernel
theorem dX5_verdict_26 : decode cX5_verdict 26 = .ok (.aload_n 2, 1) := by decide +kernel
theorem dX5_verdict_27 : decode cX5_verdict 27 = .ok (.invokevirtual 157, 3) := by decide +kernel
theorem dX5_verdict_30 : decode cX5_verdict 30 = .ok (.lconst 0, 1) := by decide +kernel
theorem dX5_verdict_31 : decode cX5_verdict 31 = .ok (.lcmp, 1) := by decide +kernel
theorem dX5_verdict_32 : decode cX5_verdict 32 = .ok (.ifCond .ge 7, 3) := by decide +kernel
theorem dX5_verdict_35 : decode cX5_verdict 35 = .ok (.iconst 1, 1) := by decide +kernel
theorem dX5_verdict_36 : decode cX5_verdict 36 = .ok (.iload_n 3, 1) := by decide +kernel
theorem dX5_verdict_37 : decode cX5_verdict 37 = .ok (.iadd, 1) := by decide +kernel
theorem dX5_verdict_38 : decode cX5_verdict 38 = .ok (.ireturn, 1) := by decide +kernel
theorem dX5_verdict_39 : decode cX5_verdict 39 = .ok (.iinc 3 1, 3) := by decide +kernel
theorem dX5_verdict_42 : decode cX5_verdict 42 = .ok (.goto (-40), 3) := by decide +kernel
theorem dX5_verdict_45 : decode cX5_verdict 45 = .ok (.iconst 0, 1) := by decide +kernel
theorem dX5_verdict_46 : decode cX5_verdict 46 = .ok (.ireturn, 1) := by decide +kernel
theorem dX5_momentOver_0 : decode cX5_momentOver 0 = .ok (.aload_n 3, 1) := by decide +kernel
theorem dX5_momentOver_1 : decode cX5_momentOver 1 = .ok (.aload_n 1, 1) := by decide +kernel
theorem dX5_momentOver_2 : decode cX5_momentOver 2 = .ok (.iconst 0, 1) := by decide +kernel
theorem dX5_momentOver_3 : decode cX5_momentOver 3 = .ok (.invokevirtual 259, 3) := by decide +kernel
theorem dX5_momentOver_6 : decode cX5_momentOver 6 = .ok (.lstore 4, 2) := by decide +kernel
theorem dX5_momentOver_8 : decode cX5_momentOver 8 = .ok (.iconst 0, 1) := by decide +kernel
theorem dX5_momentOver_9 : decode cX5_momentOver 9 = .ok (.istore 6, 2) := by decide +kernel
theorem dX5_momentOver_11 : decode cX5_momentOver 11 = .ok (.iload 6, 2) := by decide +kernel
theorem dX5_momentOver_13 : decode cX5_momentOver 13 = .ok (.aload_n 0, 1) := by decide +kernel
theorem dX5_momentOver_14 : decode cX5_momentOver 14 = .ok (.getfield 10, 3) := by decide +kernel
theorem dX5_momentOver_17 : decode cX5_momentOver 17 = .ok (.invokevirtual 48, 3) := by decide +kernel
theorem dX5_momentOver_20 : decode cX5_momentOver 20 = .ok (.if_icmp .ge 31, 3) := by decide +kernel
theorem dX5_momentOver_23 : decode cX5_momentOver 23 = .ok (.lload 4, 2) := by decide +kernel
theorem dX5_momentOver_25 : decode cX5_momentOver 25 = .ok (.aload_n 0, 1) := by decide +kernel
theorem dX5_momentOver_26 : decode cX5_momentOver 26 = .ok (.getfield 10, 3) := by decide +kernel
theorem dX5_momentOver_29 : decode cX5_momentOver 29 = .ok (.iload 6, 2) := by decide +kernel
theorem dX5_momentOver_31 : decode cX5_momentOver 31 = .ok (.invokevirtual 95, 3) := by decide +kernel
theorem dX5_momentOver_34 : decode cX5_momentOver 34 = .ok (.checkcast 29, 3) := by decide +kernel
theorem dX5_momentOver_37 : decode cX5_momentOver 37 = .ok (.aload_n 1, 1) := by decide +kernel
theorem dX5_momentOver_38 : decode cX5_momentOver 38 = .ok (.iload_n 2, 1) := by decide +kernel
theorem dX5_momentOver_39 : decode cX5_momentOver 39 = .ok (.invokevirtual 259, 3) := by decide +kernel
theorem dX5_momentOver_42 : decode cX5_momentOver 42 = .ok (.ladd, 1) := by decide +kernel
theorem dX5_momentOver_43 : decode cX5_momentOver 43 = .ok (.lstore 4, 2) := by decide +kernel
theorem dX5_momentOver_45 : decode cX5_momentOver 45 = .ok (.iinc 6 1, 3) := by decide +kernel
theorem dX5_momentOver_48 : decode cX5_momentOver 48 = .ok (.goto (-37), 3) := by decide +kernel
theorem dX5_momentOver_51 : decode cX5_momentOver 51 = .ok (.lload 4, 2) := by decide +kernel
theorem dX5_momentOver_53 : decode cX5_momentOver 53 = .ok (.lreturn, 1) := by decide +kernel
theorem dX5_layOutSides_0 : decode cX5_layOutSides 0 = .ok (.aload_n 0, 1) := by decide +kernel
theorem dX5_layOutSides_1 : decode cX5_layOutSides 1 = .ok (.getfield 19, 3) := by decide +kernel
theorem dX5_layOutSides_4 : decode cX5_layOutSides 4 = .ok (.invokevirtual 263, 3) := by decide +kernel
theorem dX5_layOutSides_7 : decode cX5_layOutSides 7 = .ok (.aload_n 0, 1) := by decide +kernel
theorem dX5_layOutSides_8 : decode cX5_layOutSides 8 = .ok (.aload_n 0, 1) := by decide +kernel
theorem dX5_layOutSides_9 : decode cX5_layOutSides 9 = .ok (.aload_n 1, 1) := by decide +kernel
theorem dX5_layOutSides_10 : decode cX5_layOutSides 10 = .ok (.invokevirtual 266, 3) := by decide +kernel
theorem dX5_layOutSides_13 : decode cX5_layOutSides 13 = .ok (.invokevirtual 270, 3) := by decide +kernel
theorem dX5_layOutSides_16 : decode cX5_layOutSides 16 = .ok (.astore_n 2, 1) := by decide +kernel
theorem dX5_layOutSides_17 : decode cX5_layOutSides 17 = .ok (.aload_n 2, 1) := by decide +kernel
theorem dX5_layOutSides_18 : decode cX5_layOutSides 18 = .ok (.invokevirtual 48, 3) := by decide +kernel
theorem dX5_layOutSides_21 : decode cX5_layOutSides 21 = .ok (.istore_n 3, 1) := by decide +kernel
theorem dX5_layOutSides_22 : decode cX5_layOutSides 22 = .ok (.iload_n 3, 1) := by decide +kernel
theorem dX5_layOutSides_23 : decode cX5_layOutSides 23 = .ok (.iconst 3, 1) := by decide +kernel
theorem dX5_layOutSides_24 : decode cX5_layOutSides 24 = .ok (.if_icmp .ge 4, 3) := by decide +kernel
theorem dX5_layOutSides_27 : decode cX5_layOutSides 27 = .ok (.return_, 1) := by decide +kernel
theorem dX5_layOutSides_28 : decode cX5_layOutSides 28 = .ok (.iconst 0, 1) := by decide +kernel
theorem dX5_layOutSides_29 : decode cX5_layOutSides 29 = .ok (.istore 4, 2) := by decide +kernel
theorem dX5_layOutSides_31 : decode cX5_layOutSides 31 = .ok (.iload 4, 2) := by decide +kernel
theorem dX5_layOutSides_33 : decode cX5_layOutSides 33 = .ok (.iload_n 3, 1) := by decide +kernel
theorem dX5_layOutSides_34 : decode cX5_layOutSides 34 = .ok (.if_icmp .ge 60, 3) := by decide +kernel
theorem dX5_layOutSides_37 : decode cX5_layOutSides 37 = .ok (.iload 4, 2) := by decide +kernel
theorem dX5_layOutSides_39 : decode cX5_layOutSides 39 = .ok (.iconst 1, 1) := by decide +kernel
theorem dX5_layOutSides_40 : decode cX5_layOutSides 40 = .ok (.iadd, 1) := by decide +kernel
theorem dX5_layOutSides_41 : decode cX5_layOutSides 41 = .ok (.iload_n 3, 1) := by decide +kernel
theorem dX5_layOutSides_42 : decode cX5_layOutSides 42 = .ok (.if_icmp .ge 10, 3) := by decide +kernel
theorem dX5_layOutSides_45 : decode cX5_layOutSides 45 = .ok (.iload 4, 2) := by decide +kernel
theorem dX5_layOutSides_47 : decode cX5_layOutSides 47 = .ok (.iconst 1, 1) := by decide +kernel
theorem dX5_layOutSides_48 : decode cX5_layOutSides 48 = .ok (.iadd, 1) := by decide +kernel
theorem dX5_layOutSides_49 : decode cX5_layOutSides 49 = .ok (.goto 4, 3) := by decide +kernel
theorem dX5_layOutSides_52 : decode cX5_layOutSides 52 = .ok (.iconst 0, 1) := by decide +kernel
theorem dX5_layOutSides_53 : decode cX5_layOutSides 53 = .ok (.istore 5, 2) := by decide +kernel
theorem dX5_layOutSides_55 : decode cX5_layOutSides 55 = .ok (.aload_n 0, 1) := by decide +kernel
theorem dX5_layOutSides_56 : decode cX5_layOutSides 56 = .ok (.getfield 19, 3) := by decide +kernel
theorem dX5_layOutSides_59 : decode cX5_layOutSides 59 = .ok (.new 140, 3) := by decide +kernel
theorem dX5_layOutSides_62 : decode cX5_layOutSides 62 = .ok (.dup, 1) := by decide +kernel
theorem dX5_layOutSides_63 : decode cX5_layOutSides 63 = .ok (.aload_n 2, 1) := by decide +kernel
theorem dX5_layOutSides_64 : decode cX5_layOutSides 64 = .ok (.iload 4, 2) := by decide +kernel
theorem dX5_layOutSides_66 : decode cX5_layOutSides 66 = .ok (.invokevirtual 95, 3) := by decide +kernel
theorem dX5_layOutSides_69 : decode cX5_layOutSides 69 = .ok (.checkcast 70, 3) := by decide +kernel
theorem dX5_layOutSides_72 : decode cX5_layOutSides 72 = .ok (.aload_n 2, 1) := by decide +kernel
theorem dX5_layOutSides_73 : decode cX5_layOutSides 73 = .ok (.iload 5, 2) := by decide +kernel
theorem dX5_layOutSides_75 : decode cX5_layOutSides 75 = .ok (.invokevirtual 95, 3) := by decide +kernel
theorem dX5_layOutSides_78 : decode cX5_layOutSides 78 = .ok (.checkcast 70, 3) := by decide +kernel
theorem dX5_layOutSides_81 : decode cX5_layOutSides 81 = .ok (.invokespecial 274, 3) := by decide +kernel
theorem dX5_layOutSides_84 : decode cX5_layOutSides 84 = .ok (.invokevirtual 66, 3) := by decide +kernel
theorem dX5_layOutSides_87 : decode cX5_layOutSides 87 = .ok (.pop, 1) := by decide +kernel
theorem dX5_layOutSides_88 : decode cX5_layOutSides 88 = .ok (.iinc 4 1, 3) := by decide +kernel
theorem dX5_layOutSides_91 : decode cX5_layOutSides 91 = .ok (.goto (-60), 3) := by decide +kernel
theorem dX5_layOutSides_94 : decode cX5_layOutSides 94 = .ok (.return_, 1) := by decide +kernel
theorem dX5_firstCorner_0 : decode cX5_firstCorner 0 = .ok (.aload_n 1, 1) := by decide +kernel
theorem dX5_firstCorner_1 : decode cX5_firstCorner 1 = .ok (.astore_n 2, 1) := by decide +kernel
theorem dX5_firstCorner_2 : decode cX5_firstCorner 2 = .ok (.iconst 0, 1) := by decide +kernel
theorem dX5_firstCorner_3 : decode cX5_firstCorner 3 = .ok (.istore_n 3, 1) := by decide +kernel
theorem dX5_firstCorner_4 : decode cX5_firstCorner 4 = .ok (.iload_n 3, 1) := by decide +kernel
theorem dX5_firstCorner_5 : decode cX5_firstCorner 5 = .ok (.aload_n 0, 1) := by decide +kernel
theorem dX5_firstCorner_6 : decode cX5_firstCorner 6 = .ok (.getfield 16, 3) := by decide +kernel
theorem dX5_firstCorner_9 : decode cX5_firstCorner 9 = .ok (.invokevirtual 48, 3) := by decide +kernel
theorem dX5_firstCorner_12 : decode cX5_firstCorner 12 = .ok (.if_icmp .ge 34, 3) := by decide +kernel
theorem dX5_firstCorner_15 : decode cX5_firstCorner 15 = .ok (.aload_n 0, 1) := by decide +kernel
theorem dX5_firstCorner_16 : decode cX5_firstCorner 16 = .ok (.getfield 16, 3) := by decide +kernel
theorem dX5_firstCorner_19 : decode cX5_firstCorner 19 = .ok (.iload_n 3, 1) := by decide +kernel
theorem dX5_firstCorner_20 : decode cX5_firstCorner 20 = .ok (.invokevirtual 95, 3) := by decide +kernel
theorem dX5_firstCorner_23 : decode cX5_firstCorner 23 = .ok (.checkcast 70, 3) := by decide +kernel
theorem dX5_firstCorner_26 : decode cX5_firstCorner 26 = .ok (.astore 4, 2) := by decide +kernel
theorem dX5_firstCorner_28 : decode cX5_firstCorner 28 = .ok (.aload 4, 2) := by decide +kernel
theorem dX5_firstCorner_30 : decode cX5_firstCorner 30 = .ok (.aload_n 2, 1) := by decide +kernel
theorem dX5_firstCorner_31 : decode cX5_firstCorner 31 = .ok (.invokevirtual 277, 3) := by decide +kernel
theorem dX5_firstCorner_34 : decode cX5_firstCorner 34 = .ok (.ifCond .eq 6, 3) := by decide +kernel
theorem dX5_firstCorner_37 : decode cX5_firstCorner 37 = .ok (.aload 4, 2) := by decide +kernel
theorem dX5_firstCorner_39 : decode cX5_firstCorner 39 = .ok (.astore_n 2, 1) := by decide +kernel
theorem dX5_firstCorner_40 : decode cX5_firstCorner 40 = .ok (.iinc 3 1, 3) := by decide +kernel
theorem dX5_firstCorner_43 : decode cX5_firstCorner 43 = .ok (.goto (-39), 3) := by decide +kernel
theorem dX5_firstCorner_46 : decode cX5_firstCorner 46 = .ok (.aload_n 2, 1) := by decide +kernel
theorem dX5_firstCorner_47 : decode cX5_firstCorner 47 = .ok (.areturn, 1) := by decide +kernel
theorem dX5_cornersAgainstClock_0 : decode cX5_cornersAgainstClock 0 = .ok (.new 7, 3) := by decide +kernel
theorem dX5_cornersAgainstClock_3 : decode cX5_cornersAgainstClock 3 = .ok (.dup, 1) := by decide +kernel
theorem dX5_cornersAgainstClock_4 : decode cX5_cornersAgainstClock 4 = .ok (.invokespecial 9, 3) := by decide +kernel
theorem dX5_cornersAgainstClock_7 : decode cX5_cornersAgainstClock 7 = .ok (.astore_n 2, 1) := by decide +kernel
theorem dX5_cornersAgainstClock_8 : decode cX5_cornersAgainstClock 8 = .ok (.aload_n 1, 1) := by decide +kernel
theorem dX5_cornersAgainstClock_9 : decode cX5_cornersAgainstClock 9 = .ok (.astore_n 3, 1) := by decide +kernel
theorem dX5_cornersAgainstClock_10 : decode cX5_cornersAgainstClock 10 = .ok (.iconst 0, 1) := by decide +kernel
theorem dX5_cornersAgainstClock_11 : decode cX5_cornersAgainstClock 11 = .ok (.istore 4, 2) := by decide +kernel
theorem dX5_cornersAgainstClock_13 : decode cX5_cornersAgainstClock 13 = .ok (.iload 4, 2) := by decide +kernel
theorem dX5_cornersAgainstClock_15 : decode cX5_cornersAgainstClock 15 = .ok (.aload_n 0, 1) := by decide +kernel
theorem dX5_cornersAgainstClock_16 : decode cX5_cornersAgainstClock 16 = .ok (.getfield 16, 3) := by decide +kernel
theorem dX5_cornersAgainstClock_19 : decode cX5_cornersAgainstClock 19 = .ok (.invokevirtual 48, 3) := by decide +kernel
theorem dX5_cornersAgainstClock_22 : decode cX5_cornersAgainstClock 22 = .ok (.if_icmp .ge 35, 3) := by decide +kernel
theorem dX5_cornersAgainstClock_25 : decode cX5_cornersAgainstClock 25 = .ok (.aload_n 2, 1) := by decide +kernel
theorem dX5_cornersAgainstClock_26 : decode cX5_cornersAgainstClock 26 = .ok (.aload_n 3, 1) := by decide +kernel
theorem dX5_cornersAgainstClock_27 : decode cX5_cornersAgainstClock 27 = .ok (.invokevirtual 66, 3) := by decide +kernel
theorem dX5_cornersAgainstClock_30 : decode cX5_cornersAgainstClock 30 = .ok (.pop, 1) := by decide +kernel
theorem dX5_cornersAgainstClock_31 : decode cX5_cornersAgainstClock 31 = .ok (.aload_n 0, 1) := by decide +kernel
theorem dX5_cornersAgainstClock_32 : decode cX5_cornersAgainstClock 32 = .ok (.aload_n 3, 1) := by decide +kernel
theorem dX5_cornersAgainstClock_33 : decode cX5_cornersAgainstClock 33 = .ok (.invokevirtual 281, 3) := by decide +kernel
theorem dX5_cornersAgainstClock_36 : decode cX5_cornersAgainstClock 36 = .ok (.astore_n 3, 1) := by decide +kernel
theorem dX5_cornersAgainstClock_37 : decode cX5_cornersAgainstClock 37 = .ok (.aload_n 3, 1) := by decide +kernel
theorem dX5_cornersAgainstClock_38 : decode cX5_cornersAgainstClock 38 = .ok (.getfield 146, 3) := by decide +kernel
theorem dX5_cornersAgainstClock_41 : decode cX5_cornersAgainstClock 41 = .ok (.aload_n 1, 1) := by decide +kernel
theorem dX5_cornersAgainstClock_42 : decode cX5_cornersAgainstClock 42 = .ok (.getfield 146, 3) := by decide +kernel
theorem dX5_cornersAgainstClock_45 : decode cX5_cornersAgainstClock 45 = .ok (.if_icmp .ne 6, 3) := by decide +kernel
theorem dX5_cornersAgainstClock_48 : decode cX5_cornersAgainstClock 48 = .ok (.goto 9, 3) := by decide +kernel
theorem dX5_cornersAgainstClock_51 : decode cX5_cornersAgainstClock 51 = .ok (.iinc 4 1, 3) := by decide +kernel
theorem dX5_cornersAgainstClock_54 : decode cX5_cornersAgainstClock 54 = .ok (.goto (-41), 3) := by decide +kernel
theorem dX5_cornersAgainstClock_57 : decode cX5_cornersAgainstClock 57 = .ok (.aload_n 2, 1) := by decide +kernel
theorem dX5_cornersAgainstClock_58 : decode cX5_cornersAgainstClock 58 = .ok (.areturn, 1) := by decide +kernel
theorem dX5_cornerAfter_0 : decode cX5_cornerAfter 0 = .ok (.aload_n 1, 1) := by decide +kernel
theorem dX5_cornerAfter_1 : decode cX5_cornerAfter 1 = .ok (.astore_n 2, 1) := by decide +kernel
theorem dX5_cornerAfter_2 : decode cX5_cornerAfter 2 = .ok (.iconst 0, 1) := by decide +kernel
theorem dX5_cornerAfter_3 : decode cX5_cornerAfter 3 = .ok (.istore_n 3, 1) := by decide +kernel
theorem dX5_cornerAfter_4 : decode cX5_cornerAfter 4 = .ok (.iload_n 3, 1) := by decide +kernel
theorem dX5_cornerAfter_5 : decode cX5_cornerAfter 5 = .ok (.aload_n 0, 1) := by decide +kernel
theorem dX5_cornerAfter_6 : decode cX5_cornerAfter 6 = .ok (.getfield 16, 3) := by decide +kernel
theorem dX5_cornerAfter_9 : decode cX5_cornerAfter 9 = .ok (.invokevirtual 48, 3) := by decide +kernel
theorem dX5_cornerAfter_12 : decode cX5_cornerAfter 12 = .ok (.if_icmp .ge 35, 3) := by decide +kernel
theorem dX5_cornerAfter_15 : decode cX5_cornerAfter 15 = .ok (.aload_n 0, 1) := by decide +kernel
theorem dX5_cornerAfter_16 : decode cX5_cornerAfter 16 = .ok (.getfield 16, 3) := by decide +kernel
theorem dX5_cornerAfter_19 : decode cX5_cornerAfter 19 = .ok (.iload_n 3, 1) := by decide +kernel
theorem dX5_cornerAfter_20 : decode cX5_cornerAfter 20 = .ok (.invokevirtual 95, 3) := by decide +kernel
theorem dX5_cornerAfter_23 : decode cX5_cornerAfter 23 = .ok (.checkcast 70, 3) := by decide +kernel
theorem dX5_cornerAfter_26 : decode cX5_cornerAfter 26 = .ok (.astore 4, 2) := by decide +kernel
theorem dX5_cornerAfter_28 : decode cX5_cornerAfter 28 = .ok (.aload_n 1, 1) := by decide +kernel
theorem dX5_cornerAfter_29 : decode cX5_cornerAfter 29 = .ok (.aload_n 2, 1) := by decide +kernel
theorem dX5_cornerAfter_30 : decode cX5_cornerAfter 30 = .ok (.aload 4, 2) := by decide +kernel
theorem dX5_cornerAfter_32 : decode cX5_cornerAfter 32 = .ok (.invokevirtual 284, 3) := by decide +kernel
theorem dX5_cornerAfter_35 : decode cX5_cornerAfter 35 = .ok (.ifCond .eq 6, 3) := by decide +kernel
theorem dX5_cornerAfter_38 : decode cX5_cornerAfter 38 = .ok (.aload 4, 2) := by decide +kernel
theorem dX5_cornerAfter_40 : decode cX5_cornerAfter 40 = .ok (.astore_n 2, 1) := by decide +kernel
theorem dX5_cornerAfter_41 : decode cX5_cornerAfter 41 = .ok (.iinc 3 1, 3) := by decide +kernel
theorem dX5_cornerAfter_44 : decode cX5_cornerAfter 44 = .ok (.goto (-40), 3) := by decide +kernel
theorem dX5_cornerAfter_47 : decode cX5_cornerAfter 47 = .ok (.aload_n 2, 1) := by decide +kernel
theorem dX5_cornerAfter_48 : decode cX5_cornerAfter 48 = .ok (.areturn, 1) := by decide +kernel
theorem dX6_init_0 : decode cX6_init 0 = .ok (.aload_n 0, 1) := by decide +kernel
theorem dX6_init_1 : decode cX6_init 1 = .ok (.invokespecial 1, 3) := by decide +kernel
theorem dX6_init_4 : decode cX6_init 4 = .ok (.aload_n 0, 1) := by decide +kernel
theorem dX6_init_5 : decode cX6_init 5 = .ok (.bipush 16, 2) := by decide +kernel
theorem dX6_init_7 : decode cX6_init 7 = .ok (.newarray .long, 2) := by decide +kernel
theorem dX6_init_9 : decode cX6_init 9 = .ok (.putfield 7, 3) := by decide +kernel
theorem dX6_init_12 : decode cX6_init 12 = .ok (.aload_n 0, 1) := by decide +kernel
theorem dX6_init_13 : decode cX6_init 13 = .ok (.bipush 16, 2) := by decide +kernel
theorem dX6_init_15 : decode cX6_init 15 = .ok (.newarray .long, 2) := by decide +kernel
theorem dX6_init_17 : decode cX6_init 17 = .ok (.putfield 13, 3) := by decide +kernel
theorem dX6_init_20 : decode cX6_init 20 = .ok (.aload_n 0, 1) := by decide +kernel
theorem dX6_init_21 : decode cX6_init 21 = .ok (.bipush 16, 2) := by decide +kernel
theorem dX6_init_23 : decode cX6_init 23 = .ok (.newarray .long, 2) := by decide +kernel
theorem dX6_init_25 : decode cX6_init 25 = .ok (.putfield 16, 3) := by decide +kernel
theorem dX6_init_28 : decode cX6_init 28 = .ok (.aload_n 0, 1) := by decide +kernel
theorem dX6_init_29 : decode cX6_init 29 = .ok (.bipush 16, 2) := by decide +kernel
theorem dX6_init_31 : decode cX6_init 31 = .ok (.newarray .long, 2) := by decide +kernel
theorem dX6_init_33 : decode cX6_init 33 = .ok (.putfield 19, 3) := by decide +kernel
theorem dX6_init_36 : decode cX6_init 36 = .ok (.aload_n 0, 1) := by decide +kernel
theorem dX6_init_37 : decode cX6_init 37 = .ok (.bipush 16, 2) := by decide +kernel
theorem dX6_init_39 : decode cX6_init 39 = .ok (.newarray .long, 2) := by decide +kernel
theorem dX6_init_41 : decode cX6_init 41 = .ok (.putfield 22, 3) := by decide +kernel
theorem dX6_init_44 : decode cX6_init 44 = .ok (.aload_n 0, 1) := by decide +kernel
theorem dX6_init_45 : decode cX6_init 45 = .ok (.bipush 12, 2) := by decide +kernel
theorem dX6_init_47 : decode cX6_init 47 = .ok (.newarray .long, 2) := by decide +kernel
theorem dX6_init_49 : decode cX6_init 49 = .ok (.putfield 25, 3) := by decide +kernel
theorem dX6_init_52 : decode cX6_init 52 = .ok (.aload_n 0, 1) := by decide +kernel
theorem dX6_init_53 : decode cX6_init 53 = .ok (.bipush 12, 2) := by decide +kernel
theorem dX6_init_55 : decode cX6_init 55 = .ok (.newarray .long, 2) := by decide +kernel
theorem dX6_init_57 : decode cX6_init 57 = .ok (.putfield 28, 3) := by decide +kernel
theorem dX6_init_60 : decode cX6_init 60 = .ok (.aload_n 0, 1) := by decide +kernel
theorem dX6_init_61 : decode cX6_init 61 = .ok (.bipush 8, 2) := by decide +kernel
theorem dX6_init_63 : decode cX6_init 63 = .ok (.newarray .int, 2) := by decide +kernel
theorem dX6_init_65 : decode cX6_init 65 = .ok (.putfield 31, 3) := by decide +kernel
theorem dX6_init_68 : decode cX6_init 68 = .ok (.aload_n 0, 1) := by decide +kernel
theorem dX6_init_69 : decode cX6_init 69 = .ok (.bipush 12, 2) := by decide +kernel
theorem dX6_init_71 : decode cX6_init 71 = .ok (.newarray .int, 2) := by decide +kernel
theorem dX6_init_73 : decode cX6_init 73 = .ok (.putfield 35, 3) := by decide +kernel
theorem dX6_init_76 : decode cX6_init 76 = .ok (.aload_n 0, 1) := by decide +kernel
theorem dX6_init_77 : decode cX6_init 77 = .ok (.sipush 200, 3) := by decide +kernel
theorem dX6_init_80 : decode cX6_init 80 = .ok (.newarray .int, 2) := by decide +kernel
theorem dX6_init_82 : decode cX6_init 82 = .ok (.putfield 38, 3) := by decide +kernel
theorem dX6_init_85 : decode cX6_init 85 = .ok (.aload_n 0, 1) := by decide +kernel
theorem dX6_init_86 : decode cX6_init 86 = .ok (.bipush 48, 2) := by decide +kernel
theorem dX6_init_88 : decode cX6_init 88 = .ok (.newarray .int, 2) := by decide +kernel
theorem dX6_init_90 : decode cX6_init 90 = .ok (.putfield 41, 3) := by decide +kernel
theorem dX6_init_93 : decode cX6_init 93 = .ok (.aload_n 0, 1) := by decide +kernel
theorem dX6_init_94 : decode cX6_init 94 = .ok (.bipush 48, 2) := by decide +kernel
theorem dX6_init_96 : decode cX6_init 96 = .ok (.newarray .int, 2) := by decide +kernel
theorem dX6_init_98 : decode cX6_init 98 = .ok (.putfield 44, 3) := by decide +kernel
theorem dX6_init_101 : decode cX6_init 101 = .ok (.return_, 1) := by decide +kernel
theorem dX6_thrown_0 : decode cX6_thrown 0 = .ok (.aload_n 0, 1) := by decide +kernel
theorem dX6_thrown_1 : decode cX6_thrown 1 = .ok (.getfield 47, 3) := by decide +kernel
theorem dX6_thrown_4 : decode cX6_thrown 4 = .ok (.ireturn, 1) := by decide +kernel
theorem dX6_isIn_0 : decode cX6_isIn 0 = .ok (.lload_n 0, 1) := by decide +kernel
theorem dX6_isIn_1 : decode cX6_isIn 1 = .ok (.lload_n 2, 1) := by decide +kernel
theorem dX6_isIn_2 : decode cX6_isIn 2 = .ok (.lcmp, 1) := by decide +kernel
theorem dX6_isIn_3 : decode cX6_isIn 3 = .ok (.ifCond .lt 14, 3) := by decide +kernel
theorem dX6_isIn_6 : decode cX6_isIn 6 = .ok (.lload_n 0, 1) := by decide +kernel
theorem dX6_isIn_7 : decode cX6_isIn 7 = .ok (.lload 4, 2) := by decide +kernel
theorem dX6_isIn_9 : decode cX6_isIn 9 = .ok (.lcmp, 1) := by decide +kernel
theorem dX6_isIn_10 : decode cX6_isIn 10 = .ok (.ifCond .gt 7, 3) := by decide +kernel
theorem dX6_isIn_13 : decode cX6_isIn 13 = .ok (.iconst 1, 1) := by decide +kernel
theorem dX6_isIn_14 : decode cX6_isIn 14 = .ok (.goto 4, 3) := by decide +kernel
theorem dX6_isIn_17 : decode cX6_isIn 17 = .ok (.iconst 0, 1) := by decide +kernel
theorem dX6_isIn_18 : decode cX6_isIn 18 = .ok (.ireturn, 1) := by decide +kernel
theorem dX6_isPlace_0 : decode cX6_isPlace 0 = .ok (.lload_n 0, 1) := by decide +kernel
theorem dX6_isPlace_1 : decode cX6_isPlace 1 = .ok (.ldc2_w 51, 3) := by decide +kernel
theorem dX6_isPlace_4 : decode cX6_isPlace 4 = .ok (.lcmp, 1) := by decide +kernel
theorem dX6_isPlace_5 : decode cX6_isPlace 5 = .ok (.ifCond .lt 15, 3) := by decide +kernel
theorem dX6_isPlace_8 : decode cX6_isPlace 8 = .ok (.lload_n 0, 1) := by decide +kernel
theorem dX6_isPlace_9 : decode cX6_isPlace 9 = .ok (.ldc2_w 53, 3) := by decide +kernel
theorem dX6_isPlace_12 : decode cX6_isPlace 12 = .ok (.lcmp, 1) := by decide +kernel
theorem dX6_isPlace_13 : decode cX6_isPlace 13 = .ok (.ifCond .gt 7, 3) := by decide +kernel
theorem dX6_isPlace_16 : decode cX6_isPlace 16 = .ok (.iconst 1, 1) := by decide +kernel
theorem dX6_isPlace_17 : decode cX6_isPlace 17 = .ok (.goto 4, 3) := by decide +kernel
theorem dX6_isPlace_20 : decode cX6_isPlace 20 = .ok (.iconst 0, 1) := by decide +kernel
theorem dX6_isPlace_21 : decode cX6_isPlace 21 = .ok (.ireturn, 1) := by decide +kernel
theorem dX6_part_0 : decode cX6_part 0 = .ok (.lload_n 1, 1) := by decide +kernel
theorem dX6_part_1 : decode cX6_part 1 = .ok (.invokestatic 55, 3) := by decide +kernel
theorem dX6_part_4 : decode cX6_part 4 = .ok (.ifCond .eq 34, 3) := by decide +kernel
theorem dX6_part_7 : decode cX6_part 7 = .ok (.lload_n 3, 1) := by decide +kernel
theorem dX6_part_8 : decode cX6_part 8 = .ok (.invokestatic 55, 3) := by decide +kernel
theorem dX6_part_11 : decode cX6_part 11 = .ok (.ifCond .eq 27, 3) := by decide +kernel
theorem dX6_part_14 : decode cX6_part 14 = .ok (.lload 5, 2) := by decide +kernel
theorem dX6_part_16 : decode cX6_part 16 = .ok (.invokestatic 55, 3) := by decide +kernel
theorem dX6_part_19 : decode cX6_part 19 = .ok (.ifCond .eq 19, 3) := by decide +kernel
theorem dX6_part_22 : decode cX6_part 22 = .ok (.lload 7, 2) := by decide +kernel
theorem dX6_part_24 : decode cX6_part 24 = .ok (.lconst 0, 1) := by decide +kernel
theorem dX6_part_25 : decode cX6_part 25 = .ok (.ldc2_w 59, 3) := by decide +kernel
theorem dX6_part_28 : decode cX6_part 28 = .ok (.invokestatic 61, 3) := by decide +kernel
theorem dX6_part_31 : decode cX6_part 31 = .ok (.ifCond .eq 7, 3) := by decide +kernel
theorem dX6_part_34 : decode cX6_part 34 = .ok (.iconst 1, 1) := by decide +kernel
theorem dX6_part_35 : decode cX6_part 35 = .ok (.goto 4, 3) := by decide +kernel
theorem dX6_part_38 : decode cX6_part 38 = .ok (.iconst 0, 1) := by decide +kernel
theorem dX6_part_39 : decode cX6_part 39 = .ok (.istore 9, 2) := by decide +kernel
theorem dX6_part_41 : decode cX6_part 41 = .ok (.aload_n 0, 1) := by decide +kernel
theorem dX6_part_42 : decode cX6_part 42 = .ok (.aload_n 0, 1) := by decide +kernel
theorem dX6_part_43 : decode cX6_part 43 = .ok (.getfield 65, 3) := by decide +kernel
theorem dX6_part_46 : decode cX6_part 46 = .ok (.bipush 16, 2) := by decide +kernel
theorem dX6_part_48 : decode cX6_part 48 = .ok (.if_icmp .ne 7, 3) := by decide +kernel
theorem dX6_part_51 : decode cX6_part 51 = .ok (.iconst 1, 1) := by decide +kernel
theorem dX6_part_52 : decode cX6_part 52 = .ok (.goto 13, 3) := by decide +kernel
theorem dX6_part_55 : decode cX6_part 55 = .ok (.iload 9, 2) := by decide +kernel
theorem dX6_part_57 : decode cX6_part 57 = .ok (.ifCond .eq 7, 3) := by decide +kernel
theorem dX6_part_60 : decode cX6_part 60 = .ok (.iconst 0, 1) := by decide +kernel
theorem dX6_part_61 : decode cX6_part 61 = .ok (.goto 4, 3) := by decide +kernel
theorem dX6_part_64 : decode cX6_part 64 = .ok (.iconst 2, 1) := by decide +kernel
theorem dX6_part_65 : decode cX6_part 65 = .ok (.putfield 47, 3) := by decide +kernel
theorem dX6_part_68 : decode cX6_part 68 = .ok (.aload_n 0, 1) := by decide +kernel
theorem dX6_part_69 : decode cX6_part 69 = .ok (.getfield 47, 3) := by decide +kernel
theorem dX6_part_72 : decode cX6_part 72 = .ok (.ifCond .le 5, 3) := by decide +kernel
theorem dX6_part_75 : decode cX6_part 75 = .ok (.iconst 0, 1) := by decide +kernel
theorem dX6_part_76 : decode cX6_part 76 = .ok (.ireturn, 1) := by decide +kernel
theorem dX6_part_77 : decode cX6_part 77 = .ok (.aload_n 0, 1) := by decide +kernel
theorem dX6_part_78 : decode cX6_part 78 = .ok (.getfield 7, 3) := by decide +kernel
theorem dX6_part_81 : decode cX6_part 81 = .ok (.aload_n 0, 1) := by decide +kernel
theorem dX6_part_82 : decode cX6_part 82 = .ok (.getfield 65, 3) := by decide +kernel
theorem dX6_part_85 : decode cX6_part 85 = .ok (.lload_n 1, 1) := by decide +kernel
theorem dX6_part_86 : decode cX6_part 86 = .ok (.lastore, 1) := by decide +kernel
theorem dX6_part_87 : decode cX6_part 87 = .ok (.aload_n 0, 1) := by decide +kernel
theorem dX6_part_88 : decode cX6_part 88 = .ok (.getfield 13, 3) := by decide +kernel
theorem dX6_part_91 : decode cX6_part 91 = .ok (.aload_n 0, 1) := by decide +kernel
theorem dX6_part_92 : decode cX6_part 92 = .ok (.getfield 65, 3) := by decide +kernel
theorem dX6_part_95 : decode cX6_part 95 = .ok (.lload_n 3, 1) := by decide +kernel
theorem dX6_part_96 : decode cX6_part 96 = .ok (.lastore, 1) := by decide +kernel
theorem dX6_part_97 : decode cX6_part 97 = .ok (.aload_n 0, 1) := by decide +kernel
theorem dX6_part_98 : decode cX6_part 98 = .ok (.getfield 16, 3) := by decide +kernel
theorem dX6_part_101 : decode cX6_part 101 = .ok (.aload_n 0, 1) := by decide +kernel
theorem dX6_part_102 : decode cX6_part 102 = .ok (.getfield 65, 3) := by decide +kernel
theorem dX6_part_105 : decode cX6_part 105 = .ok (.lload 5, 2) := by decide +kernel
theorem dX6_part_107 : decode cX6_part 107 = .ok (.lastore, 1) := by decide +kernel
theorem dX6_part_108 : decode cX6_part 108 = .ok (.aload_n 0, 1) := by decide +kernel
theorem dX6_part_109 : decode cX6_part 109 = .ok (.getfield 19, 3) := by decide +kernel
theorem dX6_part_112 : decode cX6_part 112 = .ok (.aload_n 0, 1) := by decide +kernel
theorem dX6_part_113 : decode cX6_part 113 = .ok (.getfield 65, 3) := by decide +kernel
theorem dX6_part_116 : decode cX6_part 116 = .ok (.lload 7, 2) := by decide +kernel
theorem dX6_part_118 : decode cX6_part 118 = .ok (.lastore, 1) := by decide +kernel
theorem dX6_part_119 : decode cX6_part 119 = .ok (.aload_n 0, 1) := by decide +kernel
theorem dX6_part_120 : decode cX6_part 120 = .ok (.dup, 1) := by decide +kernel
theorem dX6_part_121 : decode cX6_part 121 = .ok (.getfield 65, 3) := by decide +kernel
theorem dX6_part_124 : decode cX6_part 124 = .ok (.iconst 1, 1) := by decide +kernel
theorem dX6_part_125 : decode cX6_part 125 = .ok (.iadd, 1) := by decide +kernel
theorem dX6_part_126 : decode cX6_part 126 = .ok (.putfield 65, 3) := by decide +kernel
theorem dX6_part_129 : decode cX6_part 129 = .ok (.aload_n 0, 1) := by decide +kernel
theorem dX6_part_130 : decode cX6_part 130 = .ok (.getfield 65, 3) := by decide +kernel
theorem dX6_part_133 : decode cX6_part 133 = .ok (.iconst 1, 1) := by decide +kernel
theorem dX6_part_134 : decode cX6_part 134 = .ok (.isub, 1) := by decide +kernel
theorem dX6_part_135 : decode cX6_part 135 = .ok (.ireturn, 1) := by decide +kernel
theorem dX6_foot_0 : decode cX6_foot 0 = .ok (.aload_n 0, 1) := by decide +kernel
theorem dX6_foot_1 : decode cX6_foot 1 = .ok (.lload_n 1, 1) := by decide +kernel
theorem dX6_foot_2 : decode cX6_foot 2 = .ok (.invokestatic 55, 3) := by decide +kernel
theorem dX6_foot_5 : decode cX6_foot 5 = .ok (.ifCond .eq 14, 3) := by decide +kernel
theorem dX6_foot_8 : decode cX6_foot 8 = .ok (.lload_n 3, 1) := by decide +kernel
theorem dX6_foot_9 : decode cX6_foot 9 = .ok (.invokestatic 55, 3) := by decide +kernel
theorem dX6_foot_12 : decode cX6_foot 12 = .ok (.ifCond .eq 7, 3) := by decide +kernel
theorem dX6_foot_15 : decode cX6_foot 15 = .ok (.iconst 0, 1) := by decide +kernel
theorem dX6_foot_16 : decode cX6_foot 16 = .ok (.goto 4, 3) := by decide +kernel
theorem dX6_foot_19 : decode cX6_foot 19 = .ok (.iconst 1, 1) := by decide +kernel
theorem dX6_foot_20 : decode cX6_foot 20 = .ok (.putfield 47, 3) := by decide +kernel
theorem dX6_foot_23 : decode cX6_foot 23 = .ok (.aload_n 0, 1) := by decide +kernel
theorem dX6_foot_24 : decode cX6_foot 24 = .ok (.getfield 47, 3) := by decide +kernel
theorem dX6_foot_27 : decode cX6_foot 27 = .ok (.ifCond .gt 12, 3) := by decide +kernel
theorem dX6_foot_30 : decode cX6_foot 30 = .ok (.aload_n 0, 1) := by decide +kernel
theorem dX6_foot_31 : decode cX6_foot 31 = .ok (.getfield 68, 3) := by decide +kernel
theorem dX6_foot_34 : decode cX6_foot 34 = .ok (.bipush 12, 2) := by decide +kernel
theorem dX6_foot_36 : decode cX6_foot 36 = .ok (.if_icmp .ne 5, 3) := by decide +kernel
theorem dX6_foot_39 : decode cX6_foot 39 = .ok (.iconst 0, 1) := by decide +kernel
theorem dX6_foot_40 : decode cX6_foot 40 = .ok (.ireturn, 1) := by decide +kernel
theorem dX6_foot_41 : decode cX6_foot 41 = .ok (.aload_n 0, 1) := by decide +kernel
theorem dX6_foot_42 : decode cX6_foot 42 = .ok (.getfield 25, 3) := by decide +kernel
theorem dX6_foot_45 : decode cX6_foot 45 = .ok (.aload_n 0, 1) := by decide +kernel
theorem dX6_foot_46 : decode cX6_foot 46 = .ok (.getfield 68, 3) := by decide +kernel
theorem dX6_foot_49 : decode cX6_foot 49 = .ok (.lload_n 1, 1) := by decide +kernel
theorem dX6_foot_50 : decode cX6_foot 50 = .ok (.lastore, 1) := by decide +kernel
theorem dX6_foot_51 : decode cX6_foot 51 = .ok (.aload_n 0, 1) := by decide +kernel
theorem dX6_foot_52 : decode cX6_foot 52 = .ok (.getfield 28, 3) := by decide +kernel
theorem dX6_foot_55 : decode cX6_foot 55 = .ok (.aload_n 0, 1) := by decide +kernel
theorem dX6_foot_56 : decode cX6_foot 56 = .ok (.getfield 68, 3) := by decide +kernel
theorem dX6_foot_59 : decode cX6_foot 59 = .ok (.lload_n 3, 1) := by decide +kernel
theorem dX6_foot_60 : decode cX6_foot 60 = .ok (.lastore, 1) := by decide +kernel
theorem dX6_foot_61 : decode cX6_foot 61 = .ok (.aload_n 0, 1) := by decide +kernel
theorem dX6_foot_62 : decode cX6_foot 62 = .ok (.dup, 1) := by decide +kernel
theorem dX6_foot_63 : decode cX6_foot 63 = .ok (.getfield 68, 3) := by decide +kernel
theorem dX6_foot_66 : decode cX6_foot 66 = .ok (.iconst 1, 1) := by decide +kernel
theorem dX6_foot_67 : decode cX6_foot 67 = .ok (.iadd, 1) := by decide +kernel
theorem dX6_foot_68 : decode cX6_foot 68 = .ok (.putfield 68, 3) := by decide +kernel
theorem dX6_foot_71 : decode cX6_foot 71 = .ok (.aload_n 0, 1) := by decide +kernel
theorem dX6_foot_72 : decode cX6_foot 72 = .ok (.invokevirtual 71, 3) := by decide +kernel
theorem dX6_foot_75 : decode cX6_foot 75 = .ok (.iconst 1, 1) := by decide +kernel
theorem dX6_foot_76 : decode cX6_foot 76 = .ok (.ireturn, 1) := by decide +kernel
theorem dX6_drawer_0 : decode cX6_drawer 0 = .ok (.aload_n 0, 1) := by decide +kernel
theorem dX6_drawer_1 : decode cX6_drawer 1 = .ok (.iload_n 1, 1) := by decide +kernel
theorem dX6_drawer_2 : decode cX6_drawer 2 = .ok (.ifCond .lt 11, 3) := by decide +kernel
theorem dX6_drawer_5 : decode cX6_drawer 5 = .ok (.iload_n 1, 1) := by decide +kernel
theorem dX6_drawer_6 : decode cX6_drawer 6 = .ok (.aload_n 0, 1) := by decide +kernel
theorem dX6_drawer_7 : decode cX6_drawer 7 = .ok (.getfield 65, 3) := by decide +kernel
theorem dX6_drawer_10 : decode cX6_drawer 10 = .ok (.if_icmp .lt 7, 3) := by decide +kernel
theorem dX6_drawer_13 : decode cX6_drawer 13 = .ok (.iconst 1, 1) := by decide +kernel
theorem dX6_drawer_14 : decode cX6_drawer 14 = .ok (.goto 19, 3) := by decide +kernel
theorem dX6_drawer_17 : decode cX6_drawer 17 = .ok (.lload_n 2, 1) := by decide +kernel
theorem dX6_drawer_18 : decode cX6_drawer 18 = .ok (.lconst 1, 1) := by decide +kernel
theorem dX6_drawer_19 : decode cX6_drawer 19 = .ok (.ldc2_w 53, 3) := by decide +kernel
theorem dX6_drawer_22 : decode cX6_drawer 22 = .ok (.invokestatic 61, 3) := by decide +kernel
theorem dX6_drawer_25 : decode cX6_drawer 25 = .ok (.ifCond .eq 7, 3) := by decide +kernel
theorem dX6_drawer_28 : decode cX6_drawer 28 = .ok (.iconst 0, 1) := by decide +kernel
theorem dX6_drawer_29 : decode cX6_drawer 29 = .ok (.goto 4, 3) := by decide +kernel
theorem dX6_drawer_32 : decode cX6_drawer 32 = .ok (.iconst 2, 1) := by decide +kernel
theorem dX6_drawer_33 : decode cX6_drawer 33 = .ok (.putfield 47, 3) := by decide +kernel
theorem dX6_drawer_36 : decode cX6_drawer 36 = .ok (.aload_n 0, 1) := by decide +kernel
theorem dX6_drawer_37 : decode cX6_drawer 37 = .ok (.getfield 47, 3) := by decide +kernel
theorem dX6_drawer_40 : decode cX6_drawer 40 = .ok (.ifCond .gt 23, 3) := by decide +kernel
theorem dX6_drawer_43 : decode cX6_drawer 43 = .ok (.aload_n 0, 1) := by decide +kernel
theorem dX6_drawer_44 : decode cX6_drawer 44 = .ok (.getfield 74, 3) := by decide +kernel
theorem dX6_drawer_47 : decode cX6_drawer 47 = .ok (.bipush 8, 2) := by decide +kernel
theorem dX6_drawer_49 : decode cX6_drawer 49 = .ok (.if_icmp .eq 14, 3) := by decide +kernel
theorem dX6_drawer_52 : decode cX6_drawer 52 = .ok (.aload_n 0, 1) := by decide +kernel
theorem dX6_drawer_53 : decode cX6_drawer 53 = .ok (.getfield 22, 3) := by decide +kernel
theorem dX6_drawer_56 : decode cX6_drawer 56 = .ok (.iload_n 1, 1) := by decide +kernel
theorem dX6_drawer_57 : decode cX6_drawer 57 = .ok (.laload, 1) := by decide +kernel
theorem dX6_drawer_58 : decode cX6_drawer 58 = .ok (.lconst 0, 1) := by decide +kernel
theorem dX6_drawer_59 : decode cX6_drawer 59 = .ok (.lcmp, 1) := by decide +kernel
theorem dX6_drawer_60 : decode cX6_drawer 60 = .ok (.ifCond .le 5, 3) := by decide +kernel
theorem dX6_drawer_63 : decode cX6_drawer 63 = .ok (.iconst 0, 1) := by decide +kernel
theorem dX6_drawer_64 : decode cX6_drawer 64 = .ok (.ireturn, 1) := by decide +kernel
theorem dX6_drawer_65 : decode cX6_drawer 65 = .ok (.aload_n 0, 1) := by decide +kernel
theorem dX6_drawer_66 : decode cX6_drawer 66 = .ok (.getfield 22, 3) := by decide +kernel
theorem dX6_drawer_69 : decode cX6_drawer 69 = .ok (.iload_n 1, 1) := by decide +kernel
theorem dX6_drawer_70 : decode cX6_drawer 70 = .ok (.lload_n 2, 1) := by decide +kernel
theorem dX6_drawer_71 : decode cX6_drawer 71 = .ok (.lastore, 1) := by decide +kernel
theorem dX6_drawer_72 : decode cX6_drawer 72 = .ok (.aload_n 0, 1) := by decide +kernel
theorem dX6_drawer_73 : decode cX6_drawer 73 = .ok (.getfield 31, 3) := by decide +kernel
theorem dX6_drawer_76 : decode cX6_drawer 76 = .ok (.aload_n 0, 1) := by decide +kernel
theorem dX6_drawer_77 : decode cX6_drawer 77 = .ok (.getfield 74, 3) := by decide +kernel
theorem dX6_drawer_80 : decode cX6_drawer 80 = .ok (.iload_n 1, 1) := by decide +kernel
theorem dX6_drawer_81 : decode cX6_drawer 81 = .ok (.iastore, 1) := by decide +kernel
theorem dX6_drawer_82 : decode cX6_drawer 82 = .ok (.aload_n 0, 1) := by decide +kernel
theorem dX6_drawer_83 : decode cX6_drawer 83 = .ok (.dup, 1) := by decide +kernel
theorem dX6_drawer_84 : decode cX6_drawer 84 = .ok (.getfield 74, 3) := by decide +kernel
theorem dX6_drawer_87 : decode cX6_drawer 87 = .ok (.iconst 1, 1) := by decide +kernel
theorem dX6_drawer_88 : decode cX6_drawer 88 = .ok (.iadd, 1) := by decide +kernel
theorem dX6_drawer_89 : decode cX6_drawer 89 = .ok (.putfield 74, 3) := by decide +kernel
theorem dX6_drawer_92 : decode cX6_drawer 92 = .ok (.iconst 1, 1) := by decide +kernel
theorem dX6_drawer_93 : decode cX6_drawer 93 = .ok (.ireturn, 1) := by decide +kernel
theorem dX6_person_0 : decode cX6_person 0 = .ok (.aload_n 0, 1) := by decide +kernel
theorem dX6_person_1 : decode cX6_person 1 = .ok (.lload_n 1, 1) := by decide +kernel
theorem dX6_person_2 : decode cX6_person 2 = .ok (.invokestatic 55, 3) := by decide +kernel
theorem dX6_person_5 : decode cX6_person 5 = .ok (.ifCond .eq 26, 3) := by decide +kernel
theorem dX6_person_8 : decode cX6_person 8 = .ok (.lload_n 3, 1) := by decide +kernel
theorem dX6_person_9 : decode cX6_person 9 = .ok (.invokestatic 55, 3) := by decide +kernel
theorem dX6_person_12 : decode cX6_person 12 = .ok (.ifCond .eq 19, 3) := by decide +kernel
theorem dX6_person_15 : decode cX6_person 15 = .ok (.lload 5, 2) := by decide +kernel
theorem dX6_person_17 : decode cX6_person 17 = .ok (.lconst 0, 1) := by decide +kernel
theorem dX6_person_18 : decode cX6_person 18 = .ok (.ldc2_w 59, 3) := by decide +kernel
theorem dX6_person_21 : decode cX6_person 21 = .ok (.invokestatic 61, 3) := by decide +kernel
theorem dX6_person_24 : decode cX6_person 24 = .ok (.ifCond .eq 7, 3) := by decide +kernel
theorem dX6_person_27 : decode cX6_person 27 = .ok (.iconst 0, 1) := by decide +kernel
theorem dX6_person_28 : decode cX6_person 28 = .ok (.goto 4, 3) := by decide +kernel
theorem dX6_person_31 : decode cX6_person 31 = .ok (.iconst 1, 1) := by decide +kernel
theorem dX6_person_32 : decode cX6_person 32 = .ok (.putfield 47, 3) := by decide +kernel
theorem dX6_person_35 : decode cX6_person 35 = .ok (.aload_n 0, 1) := by decide +kernel
theorem dX6_person_36 : decode cX6_person 36 = .ok (.getfield 47, 3) := by decide +kernel
theorem dX6_person_39 : decode cX6_person 39 = .ok (.ifCond .gt 31, 3) := by decide +kernel
theorem dX6_person_42 : decode cX6_person 42 = .ok (.lload_n 1, 1) := by decide +kernel
theorem dX6_person_43 : decode cX6_person 43 = .ok (.aload_n 0, 1) := by decide +kernel
theorem dX6_person_44 : decode cX6_person 44 = .ok (.getfield 77, 3) := by decide +kernel
theorem dX6_person_47 : decode cX6_person 47 = .ok (.lcmp, 1) := by decide +kernel
theorem dX6_person_48 : decode cX6_person 48 = .ok (.ifCond .ne 24, 3) := by decide +kernel
theorem dX6_person_51 : decode cX6_person 51 = .ok (.lload_n 3, 1) := by decide +kernel
theorem dX6_person_52 : decode cX6_person 52 = .ok (.aload_n 0, 1) := by decide +kernel
theorem dX6_person_53 : decode cX6_person 53 = .ok (.getfield 81, 3) := by decide +kernel
theorem dX6_person_56 : decode cX6_person 56 = .ok (.lcmp, 1) := by decide +kernel
theorem dX6_person_57 : decode cX6_person 57 = .ok (.ifCond .ne 15, 3) := by decide +kernel
theorem dX6_person_60 : decode cX6_person 60 = .ok (.lload 5, 2) := by decide +kernel
theorem dX6_person_62 : decode cX6_person 62 = .ok (.aload_n 0, 1) := by decide +kernel
theorem dX6_person_63 : decode cX6_person 63 = .ok (.getfield 84, 3) := by decide +kernel
theorem dX6_person_66 : decode cX6_person 66 = .ok (.lcmp, 1) := by decide +kernel
theorem dX6_person_67 : decode cX6_person 67 = .ok (.ifCond .ne 5, 3) := by decide +kernel
theorem dX6_person_70 : decode cX6_person 70 = .ok (.iconst 0, 1) := by decide +kernel
theorem dX6_person_71 : decode cX6_person 71 = .ok (.ireturn, 1) := by decide +kernel
theorem dX6_person_72 : decode cX6_person 72 = .ok (.aload_n 0, 1) := by decide +kernel
theorem dX6_person_73 : decode cX6_person 73 = .ok (.lload_n 1, 1) := by decide +kernel
theorem dX6_person_74 : decode cX6_person 74 = .ok (.putfield 77, 3) := by decide +kernel
theorem dX6_person_77 : decode cX6_person 77 = .ok (.aload_n 0, 1) := by decide +kernel
theorem dX6_person_78 : decode cX6_person 78 = .ok (.lload_n 3, 1) := by decide +kernel
theorem dX6_person_79 : decode cX6_person 79 = .ok (.putfield 81, 3) := by decide +kernel
theorem dX6_person_82 : decode cX6_person 82 = .ok (.aload_n 0, 1) := by decide +kernel
theorem dX6_person_83 : decode cX6_person 83 = .ok (.lload 5, 2) := by decide +kernel
theorem dX6_person_85 : decode cX6_person 85 = .ok (.putfield 84, 3) := by decide +kernel
theorem dX6_person_88 : decode cX6_person 88 = .ok (.iconst 1, 1) := by decide +kernel
theorem dX6_person_89 : decode cX6_person 89 = .ok (.ireturn, 1) := by decide +kernel
theorem dX6_turn_0 : decode cX6_turn 0 = .ok (.aload_n 0, 1) := by decide +kernel
theorem dX6_turn_1 : decode cX6_turn 1 = .ok (.getfield 25, 3) := by decide +kernel
theorem dX6_turn_4 : decode cX6_turn 4 = .ok (.iload_n 2, 1) := by decide +kernel
theorem dX6_turn_5 : decode cX6_turn 5 = .ok (.laload, 1) := by decide +kernel
theorem dX6_turn_6 : decode cX6_turn 6 = .ok (.aload_n 0, 1) := by decide +kernel
theorem dX6_turn_7 : decode cX6_turn 7 = .ok (.getfield 25, 3) := by decide +kernel
theorem dX6_turn_10 : decode cX6_turn 10 = .ok (.iload_n 1, 1) := by decide +kernel
theorem dX6_turn_11 : decode cX6_turn 11 = .ok (.laload, 1) := by decide +kernel
theorem dX6_turn_12 : decode cX6_turn 12 = .ok (.lsub, 1) := by decide +kernel
theorem dX6_turn_13 : decode cX6_turn 13 = .ok (.lload 5, 2) := by decide +kernel
theorem dX6_turn_15 : decode cX6_turn 15 = .ok (.aload_n 0, 1) := by decide +kernel
theorem dX6_turn_16 : decode cX6_turn 16 = .ok (.getfield 28, 3) := by decide +kernel
theorem dX6_turn_19 : decode cX6_turn 19 = .ok (.iload_n 1, 1) := by decide +kernel
theorem dX6_turn_20 : decode cX6_turn 20 = .ok (.laload, 1) := by decide +kernel
theorem dX6_turn_21 : decode cX6_turn 21 = .ok (.lsub, 1) := by decide +kernel
theorem dX6_turn_22 : decode cX6_turn 22 = .ok (.lmul, 1) := by decide +kernel
theorem dX6_turn_23 : decode cX6_turn 23 = .ok (.aload_n 0, 1) := by decide +kernel
theorem dX6_turn_24 : decode cX6_turn 24 = .ok (.getfield 28, 3) := by decide +kernel
theorem dX6_turn_27 : decode cX6_turn 27 = .ok (.iload_n 2, 1) := by decide +kernel
theorem dX6_turn_28 : decode cX6_turn 28 = .ok (.laload, 1) := by decide +kernel
theorem dX6_turn_29 : decode cX6_turn 29 = .ok (.aload_n 0, 1) := by decide +kernel
theorem dX6_turn_30 : decode cX6_turn 30 = .ok (.getfield 28, 3) := by decide +kernel
theorem dX6_turn_33 : decode cX6_turn 33 = .ok (.iload_n 1, 1) := by decide +kernel
theorem dX6_turn_34 : decode cX6_turn 34 = .ok (.laload, 1) := by decide +kernel
theorem dX6_turn_35 : decode cX6_turn 35 = .ok (.lsub, 1) := by decide +kernel
theorem dX6_turn_36 : decode cX6_turn 36 = .ok (.lload_n 3, 1) := by decide +kernel
theorem dX6_turn_37 : decode cX6_turn 37 = .ok (.aload_n 0, 1) := by decide +kernel
theorem dX6_turn_38 : decode cX6_turn 38 = .ok (.getfield 25, 3) := by decide +kernel
theorem dX6_turn_41 : decode cX6_turn 41 = .ok (.iload_n 1, 1) := by decide +kernel
theorem dX6_turn_42 : decode cX6_turn 42 = .ok (.laload, 1) := by decide +kernel
theorem dX6_turn_43 : decode cX6_turn 43 = .ok (.lsub, 1) := by decide +kernel
theorem dX6_turn_44 : decode cX6_turn 44 = .ok (.lmul, 1) := by decide +kernel
theorem dX6_turn_45 : decode cX6_turn 45 = .ok (.lsub, 1) := by decide +kernel
theorem dX6_turn_46 : decode cX6_turn 46 = .ok (.lreturn, 1) := by decide +kernel
theorem dX6_isSide_0 : decode cX6_isSide 0 = .ok (.aload_n 0, 1) := by decide +kernel
theorem dX6_isSide_1 : decode cX6_isSide 1 = .ok (.getfield 25, 3) := by decide +kernel
theorem dX6_isSide_4 : decode cX6_isSide 4 = .ok (.iload_n 1, 1) := by decide +kernel
theorem dX6_isSide_5 : decode cX6_isSide 5 = .ok (.laload, 1) := by decide +kernel
theorem dX6_isSide_6 : decode cX6_isSide 6 = .ok (.aload_n 0, 1) := by decide +kernel
theorem dX6_isSide_7 : decode cX6_isSide 7 = .ok (.getfield 25, 3) := by decide +kernel
theorem dX6_isSide_10 : decode cX6_isSide 10 = .ok (.iload_n 2, 1) := by decide +kernel
theorem dX6_isSide_11 : decode cX6_isSide 11 = .ok (.laload, 1) := by decide +kernel
theorem dX6_isSide_12 : decode cX6_isSide 12 = .ok (.lcmp, 1) := by decide +kernel
theorem dX6_isSide_13 : decode cX6_isSide 13 = .ok (.ifCond .ne 19, 3) := by decide +kernel
theorem dX6_isSide_16 : decode cX6_isSide 16 = .ok (.aload_n 0, 1) := by decide +kernel
theorem dX6_isSide_17 : decode cX6_isSide 17 = .ok (.getfield 28, 3) := by decide +kernel
theorem dX6_isSide_20 : decode cX6_isSide 20 = .ok (.iload_n 1, 1) := by decide +kernel
theorem dX6_isSide_21 : decode cX6_isSide 21 = .ok (.laload, 1) := by decide +kernel
theorem dX6_isSide_22 : decode cX6_isSide 22 = .ok (.aload_n 0, 1) := by decide +kernel
theorem dX6_isSide_23 : decode cX6_isSide 23 = .ok (.getfield 28, 3) := by decide +kernel
theorem dX6_isSide_26 : decode cX6_isSide 26 = .ok (.iload_n 2, 1) := by decide +kernel
theorem dX6_isSide_27 : decode cX6_isSide 27 = .ok (.laload, 1) := by decide +kernel
theorem dX6_isSide_28 : decode cX6_isSide 28 = .ok (.lcmp, 1) := by decide +kernel
theorem dX6_isSide_29 : decode cX6_isSide 29 = .ok (.ifCond .eq 7, 3) := by decide +kernel
theorem dX6_isSide_32 : decode cX6_isSide 32 = .ok (.iconst 1, 1) := by decide +kernel
theorem dX6_isSide_33 : decode cX6_isSide 33 = .ok (.goto 4, 3) := by decide +kernel
theorem dX6_isSide_36 : decode cX6_isSide 36 = .ok (.iconst 0, 1) := by decide +kernel
theorem dX6_isSide_37 : decode cX6_isSide 37 = .ok (.istore_n 3, 1) := by decide +kernel
theorem dX6_isSide_38 : decode cX6_isSide 38 = .ok (.iconst 0, 1) := by decide +kernel
theorem dX6_isSide_39 : decode cX6_isSide 39 = .ok (.istore 4, 2) := by decide +kernel
theorem dX6_isSide_41 : decode cX6_isSide 41 = .ok (.iload 4, 2) := by decide +kernel
theorem dX6_isSide_43 : decode cX6_isSide 43 = .ok (.aload_n 0, 1) := by decide +kernel
theorem dX6_isSide_44 : decode cX6_isSide 44 = .ok (.getfield 68, 3) := by decide +kernel
theorem dX6_isSide_47 : decode cX6_isSide 47 = .ok (.if_icmp .ge 187, 3) := by decide +kernel
theorem dX6_isSide_50 : decode cX6_isSide 50 = .ok (.iload_n 3, 1) := by decide +kernel
theorem dX6_isSide_51 : decode cX6_isSide 51 = .ok (.ifCond .eq 183, 3) := by decide +kernel
theorem dX6_isSide_54 : decode cX6_isSide 54 = .ok (.aload_n 0, 1) := by decide +kernel
theorem dX6_isSide_55 : decode cX6_isSide 55 = .ok (.iload_n 1, 1) := by decide +kernel
theorem dX6_isSide_56 : decode cX6_isSide 56 = .ok (.iload_n 2, 1) := by decide +kernel
theorem dX6_isSide_57 : decode cX6_isSide 57 = .ok (.aload_n 0, 1) := by decide +kernel
theorem dX6_isSide_58 : decode cX6_isSide 58 = .ok (.getfield 25, 3) := by decide +kernel
theorem dX6_isSide_61 : decode cX6_isSide 61 = .ok (.iload 4, 2) := by decide +kernel
theorem dX6_isSide_63 : decode cX6_isSide 63 = .ok (.laload, 1) := by decide +kernel
theorem dX6_isSide_64 : decode cX6_isSide 64 = .ok (.aload_n 0, 1) := by decide +kernel
theorem dX6_isSide_65 : decode cX6_isSide 65 = .ok (.getfield 28, 3) := by decide +kernel
theorem dX6_isSide_68 : decode cX6_isSide 68 = .ok (.iload 4, 2) := by decide +kernel
theorem dX6_isSide_70 : decode cX6_isSide 70 = .ok (.laload, 1) := by decide +kernel
theorem dX6_isSide_71 : decode cX6_isSide 71 = .ok (.invokevirtual 87, 3) := by decide +kernel
theorem dX6_isSide_74 : decode cX6_isSide 74 = .ok (.lstore 5, 2) := by decide +kernel
theorem dX6_isSide_76 : decode cX6_isSide 76 = .ok (.aload_n 0, 1) := by decide +kernel
theorem dX6_isSide_77 : decode cX6_isSide 77 = .ok (.getfield 25, 3) := by decide +kernel
theorem dX6_isSide_80 : decode cX6_isSide 80 = .ok (.iload 4, 2) := by decide +kernel
theorem dX6_isSide_82 : decode cX6_isSide 82 = .ok (.laload, 1) := by decide +kernel
theorem dX6_isSide_83 : decode cX6_isSide 83 = .ok (.aload_n 0, 1) := by decide +kernel
theorem dX6_isSide_84 : decode cX6_isSide 84 = .ok (.getfield 25, 3) := by decide +kernel
theorem dX6_isSide_87 : decode cX6_isSide 87 = .ok (.iload_n 1, 1) := by decide +kernel
theorem dX6_isSide_88 : decode cX6_isSide 88 = .ok (.laload, 1) := by decide +kernel
theorem dX6_isSide_89 : decode cX6_isSide 89 = .ok (.lsub, 1) := by decide +kernel
theorem dX6_isSide_90 : decode cX6_isSide 90 = .ok (.aload_n 0, 1) := by decide +kernel
theorem dX6_isSide_91 : decode cX6_isSide 91 = .ok (.getfield 25, 3) := by decide +kernel
theorem dX6_isSide_94 : decode cX6_isSide 94 = .ok (.iload_n 2, 1) := by decide +kernel
theorem dX6_isSide_95 : decode cX6_isSide 95 = .ok (.laload, 1) := by decide +kernel
theorem dX6_isSide_96 : decode cX6_isSide 96 = .ok (.aload_n 0, 1) := by decide +kernel
theorem dX6_isSide_97 : decode cX6_isSide 97 = .ok (.getfield 25, 3) := by decide +kernel
theorem dX6_isSide_100 : decode cX6_isSide 100 = .ok (.iload_n 1, 1) := by decide +kernel
theorem dX6_isSide_101 : decode cX6_isSide 101 = .ok (.laload, 1) := by decide +kernel
theorem dX6_isSide_102 : decode cX6_isSide 102 = .ok (.lsub, 1) := by decide +kernel
theorem dX6_isSide_103 : decode cX6_isSide 103 = .ok (.lmul, 1) := by decide +kernel
theorem dX6_isSide_104 : decode cX6_isSide 104 = .ok (.aload_n 0, 1) := by decide +kernel
theorem dX6_isSide_105 : decode cX6_isSide 105 = .ok (.getfield 28, 3) := by decide +kernel
theorem dX6_isSide_108 : decode cX6_isSide 108 = .ok (.iload 4, 2) := by decide +kernel
theorem dX6_isSide_110 : decode cX6_isSide 110 = .ok (.laload, 1) := by decide +kernel
theorem dX6_isSide_111 : decode cX6_isSide 111 = .ok (.aload_n 0, 1) := by decide +kernel
theorem dX6_isSide_112 : decode cX6_isSide 112 = .ok (.getfield 28, 3) := by decide +kernel
theorem dX6_isSide_115 : decode cX6_isSide 115 = .ok (.iload_n 1, 1) := by decide +kernel
theorem dX6_isSide_116 : decode cX6_isSide 116 = .ok (.laload, 1) := by decide +kernel
theorem dX6_isSide_117 : decode cX6_isSide 117 = .ok (.lsub, 1) := by decide +kernel
theorem dX6_isSide_118 : decode cX6_isSide 118 = .ok (.aload_n 0, 1) := by decide +kernel
theorem dX6_isSide_119 : decode cX6_isSide 119 = .ok (.getfield 28, 3) := by decide +kernel
theorem dX6_isSide_122 : decode cX6_isSide 122 = .ok (.iload_n 2, 1) := by decide +kernel
theorem dX6_isSide_123 : decode cX6_isSide 123 = .ok (.laload, 1) := by decide +kernel
theorem dX6_isSide_124 : decode cX6_isSide 124 = .ok (.aload_n 0, 1) := by decide +kernel
theorem dX6_isSide_125 : decode cX6_isSide 125 = .ok (.getfield 28, 3) := by decide +kernel
theorem dX6_isSide_128 : decode cX6_isSide 128 = .ok (.iload_n 1, 1) := by decide +kernel
theorem dX6_isSide_129 : decode cX6_isSide 129 = .ok (.laload, 1) := by decide +kernel
theorem dX6_isSide_130 : decode cX6_isSide 130 = .ok (.lsub, 1) := by decide +kernel
theorem dX6_isSide_131 : decode cX6_isSide 131 = .ok (.lmul, 1) := by decide +kernel
theorem dX6_isSide_132 : decode cX6_isSide 132 = .ok (.ladd, 1) := by decide +kernel
theorem dX6_isSide_133 : decode cX6_isSide 133 = .ok (.lstore 7, 2) := by decide +kernel
theorem dX6_isSide_135 : decode cX6_isSide 135 = .ok (.aload_n 0, 1) := by decide +kernel
theorem dX6_isSide_136 : decode cX6_isSide 136 = .ok (.getfield 25, 3) := by decide +kernel
theorem dX6_isSide_139 : decode cX6_isSide 139 = .ok (.iload 4, 2) := by decide +kernel
theorem dX6_isSide_141 : decode cX6_isSide 141 = .ok (.laload, 1) := by decide +kernel
theorem dX6_isSide_142 : decode cX6_isSide 142 = .ok (.aload_n 0, 1) := by decide +kernel
theorem dX6_isSide_143 : decode cX6_isSide 143 = .ok (.getfield 25, 3) := by decide +kernel
theorem dX6_isSide_146 : decode cX6_isSide 146 = .ok (.iload_n 2, 1) := by decide +kernel
theorem dX6_isSide_147 : decode cX6_isSide 147 = .ok (.laload, 1) := by decide +kernel
theorem dX6_isSide_148 : decode cX6_isSide 148 = .ok (.lsub, 1) := by decide +kernel
theorem dX6_isSide_149 : decode cX6_isSide 149 = .ok (.aload_n 0, 1) := by decide +kernel
theorem dX6_isSide_150 : decode cX6_isSide 150 = .ok (.getfield 25, 3) := by decide +kernel
theorem dX6_isSide_153 : decode cX6_isSide 153 = .ok (.iload_n 1, 1) := by decide +kernel
theorem dX6_isSide_154 : decode cX6_isSide 154 = .ok (.laload, 1) := by decide +kernel
theorem dX6_isSide_155 : decode cX6_isSide 155 = .ok (.aload_n 0, 1) := by decide +kernel
theorem dX6_isSide_156 : decode cX6_isSide 156 = .ok (.getfield 25, 3) := by decide +kernel
theorem dX6_isSide_159 : decode cX6_isSide 159 = .ok (.iload_n 2, 1) := by decide +kernel
theorem dX6_isSide_160 : decode cX6_isSide 160 = .ok (.laload, 1) := by decide +kernel
theorem dX6_isSide_161 : decode cX6_isSide 161 = .ok (.lsub, 1) := by decide +kernel
theorem dX6_isSide_162 : decode cX6_isSide 162 = .ok (.lmul, 1) := by decide +kernel
theorem dX6_isSide_163 : decode cX6_isSide 163 = .ok (.aload_n 0, 1) := by decide +kernel
theorem dX6_isSide_164 : decode cX6_isSide 164 = .ok (.getfield 28, 3) := by decide +kernel
theorem dX6_isSide_167 : decode cX6_isSide 167 = .ok (.iload 4, 2) := by decide +kernel
theorem dX6_isSide_169 : decode cX6_isSide 169 = .ok (.laload, 1) := by decide +kernel
theorem dX6_isSide_170 : decode cX6_isSide 170 = .ok (.aload_n 0, 1) := by decide +kernel
theorem dX6_isSide_171 : decode cX6_isSide 171 = .ok (.getfield 28, 3) := by decide +kernel
theorem dX6_isSide_174 : decode cX6_isSide 174 = .ok (.iload_n 2, 1) := by decide +kernel
theorem dX6_isSide_175 : decode cX6_isSide 175 = .ok (.laload, 1) := by decide +kernel
theorem dX6_isSide_176 : decode cX6_isSide 176 = .ok (.lsub, 1) := by decide +kernel
theorem dX6_isSide_177 : decode cX6_isSide 177 = .ok (.aload_n 0, 1) := by decide +kernel
theorem dX6_isSide_178 : decode cX6_isSide 178 = .ok (.getfield 28, 3) := by decide +kernel
theorem dX6_isSide_181 : decode cX6_isSide 181 = .ok (.iload_n 1, 1) := by decide +kernel
theorem dX6_isSide_182 : decode cX6_isSide 182 = .ok (.laload, 1) := by decide +kernel
theorem dX6_isSide_183 : decode cX6_isSide 183 = .ok (.aload_n 0, 1) := by decide +kernel
theorem dX6_isSide_184 : decode cX6_isSide 184 = .ok (.getfield 28, 3) := by decide +kernel
theorem dX6_isSide_187 : decode cX6_isSide 187 = .ok (.iload_n 2, 1) := by decide +kernel
theorem dX6_isSide_188 : decode cX6_isSide 188 = .ok (.laload, 1) := by decide +kernel
theorem dX6_isSide_189 : decode cX6_isSide 189 = .ok (.lsub, 1) := by decide +kernel
theorem dX6_isSide_190 : decode cX6_isSide 190 = .ok (.lmul, 1) := by decide +kernel
theorem dX6_isSide_191 : decode cX6_isSide 191 = .ok (.ladd, 1) := by decide +kernel
theorem dX6_isSide_192 : decode cX6_isSide 192 = .ok (.lstore 9, 2) := by decide +kernel
theorem dX6_isSide_194 : decode cX6_isSide 194 = .ok (.lload 5, 2) := by decide +kernel
theorem dX6_isSide_196 : decode cX6_isSide 196 = .ok (.lconst 0, 1) := by decide +kernel
theorem dX6_isSide_197 : decode cX6_isSide 197 = .ok (.lcmp, 1) := by decide +kernel
theorem dX6_isSide_198 : decode cX6_isSide 198 = .ok (.ifCond .gt 24, 3) := by decide +kernel
theorem dX6_isSide_201 : decode cX6_isSide 201 = .ok (.lload 5, 2) := by decide +kernel
theorem dX6_isSide_203 : decode cX6_isSide 203 = .ok (.lconst 0, 1) := by decide +kernel
theorem dX6_isSide_204 : decode cX6_isSide 204 = .ok (.lcmp, 1) := by decide +kernel
theorem dX6_isSide_205 : decode cX6_isSide 205 = .ok (.ifCond .ne 21, 3) := by decide +kernel
theorem dX6_isSide_208 : decode cX6_isSide 208 = .ok (.lload 7, 2) := by decide +kernel
theorem dX6_isSide_210 : decode cX6_isSide 210 = .ok (.lconst 0, 1) := by decide +kernel
theorem dX6_isSide_211 : decode cX6_isSide 211 = .ok (.lcmp, 1) := by decide +kernel
theorem dX6_isSide_212 : decode cX6_isSide 212 = .ok (.ifCond .lt 14, 3) := by decide +kernel
theorem dX6_isSide_215 : decode cX6_isSide 215 = .ok (.lload 9, 2) := by decide +kernel
theorem dX6_isSide_217 : decode cX6_isSide 217 = .ok (.lconst 0, 1) := by decide +kernel
theorem dX6_isSide_218 : decode cX6_isSide 218 = .ok (.lcmp, 1) := by decide +kernel
theorem dX6_isSide_219 : decode cX6_isSide 219 = .ok (.ifCond .lt 7, 3) := by decide +kernel
theorem dX6_isSide_222 : decode cX6_isSide 222 = .ok (.iconst 1, 1) := by decide +kernel
theorem dX6_isSide_223 : decode cX6_isSide 223 = .ok (.goto 4, 3) := by decide +kernel
theorem dX6_isSide_226 : decode cX6_isSide 226 = .ok (.iconst 0, 1) := by decide +kernel
theorem dX6_isSide_227 : decode cX6_isSide 227 = .ok (.istore_n 3, 1) := by decide +kernel
theorem dX6_isSide_228 : decode cX6_isSide 228 = .ok (.iinc 4 1, 3) := by decide +kernel
theorem dX6_isSide_231 : decode cX6_isSide 231 = .ok (.goto (-190), 3) := by decide +kernel
theorem dX6_isSide_234 : decode cX6_isSide 234 = .ok (.iload_n 3, 1) := by decide +kernel
theorem dX6_isSide_235 : decode cX6_isSide 235 = .ok (.ireturn, 1) := by decide +kernel
theorem dX6_next_0 : decode cX6_next 0 = .ok (.iconst 0, 1) := by decide +kernel
theorem dX6_next_1 : decode cX6_next 1 = .ok (.istore_n 2, 1) := by decide +kernel
theorem dX6_next_2 : decode cX6_next 2 = .ok (.iload_n 2, 1) := by decide +kernel
theorem dX6_next_3 : decode cX6_next 3 = .ok (.aload_n 0, 1) := by decide +kernel
theorem dX6_next_4 : decode cX6_next 4 = .ok (.getfield 68, 3) := by decide +kernel
theorem dX6_next_7 : decode cX6_next 7 = .ok (.if_icmp .ge 20, 3) := by decide +kernel
theorem dX6_next_10 : decode cX6_next 10 = .ok (.aload_n 0, 1) := by decide +kernel
theorem dX6_next_11 : decode cX6_next 11 = .ok (.iload_n 1, 1) := by decide +kernel
theorem dX6_next_12 : decode cX6_next 12 = .ok (.iload_n 2, 1) := by decide +kernel
theorem dX6_next_13 : decode cX6_next 13 = .ok (.invokevirtual 91, 3) := by decide +kernel
theorem dX6_next_16 : decode cX6_next 16 = .ok (.ifCond .eq 5, 3) := by decide +kernel
theorem dX6_next_19 : decode cX6_next 19 = .ok (.iload_n 2, 1) := by decide +kernel
theorem dX6_next_20 : decode cX6_next 20 = .ok (.ireturn, 1) := by decide +kernel
theorem dX6_next_21 : decode cX6_next 21 = .ok (.iinc 2 1, 3) := by decide +kernel
theorem dX6_next_24 : decode cX6_next 24 = .ok (.goto (-22), 3) := by decide +kernel
theorem dX6_next_27 : decode cX6_next 27 = .ok (.iload_n 1, 1) := by decide +kernel
theorem dX6_next_28 : decode cX6_next 28 = .ok (.ireturn, 1) := by decide +kernel
theorem dX6_wind_0 : decode cX6_wind 0 = .ok (.iconst 0, 1) := by decide +kernel
theorem dX6_wind_1 : decode cX6_wind 1 = .ok (.istore_n 1, 1) := by decide +kernel
theorem dX6_wind_2 : decode cX6_wind 2 = .ok (.iconst 1, 1) := by decide +kernel
theorem dX6_wind_3 : decode cX6_wind 3 = .ok (.istore_n 2, 1) := by decide +kernel
theorem dX6_wind_4 : decode cX6_wind 4 = .ok (.iload_n 2, 1) := by decide +kernel
theorem dX6_wind_5 : decode cX6_wind 5 = .ok (.aload_n 0, 1) := by decide +kernel
theorem dX6_wind_6 : decode cX6_wind 6 = .ok (.getfield 68, 3) := by decide +kernel
theorem dX6_wind_9 : decode cX6_wind 9 = .ok (.if_icmp .ge 63, 3) := by decide +kernel
theorem dX6_wind_12 : decode cX6_wind 12 = .ok (.aload_n 0, 1) := by decide +kernel
theorem dX6_wind_13 : decode cX6_wind 13 = .ok (.getfield 25, 3) := by decide +kernel
theorem dX6_wind_16 : decode cX6_wind 16 = .ok (.iload_n 2, 1) := by decide +kernel
theorem dX6_wind_17 : decode cX6_wind 17 = .ok (.laload, 1) := by decide +kernel
theorem dX6_wind_18 : decode cX6_wind 18 = .ok (.aload_n 0, 1) := by decide +kernel
theorem dX6_wind_19 : decode cX6_wind 19 = .ok (.getfield 25, 3) := by decide +kernel
theorem dX6_wind_22 : decode cX6_wind 22 = .ok (.iload_n 1, 1) := by decide +kernel
theorem dX6_wind_23 : decode cX6_wind 23 = .ok (.laload, 1) := by decide +kernel
theorem dX6_wind_24 : decode cX6_wind 24 = .ok (.lcmp, 1) := by decide +kernel
theorem dX6_wind_25 : decode cX6_wind 25 = .ok (.ifCond .lt 35, 3) := by decide +kernel
theorem dX6_wind_28 : decode cX6_wind 28 = .ok (.aload_n 0, 1) := by decide +kernel
theorem dX6_wind_29 : decode cX6_wind 29 = .ok (.getfield 25, 3) := by decide +kernel
theorem dX6_wind_32 : decode cX6_wind 32 = .ok (.iload_n 2, 1) := by decide +kernel
theorem dX6_wind_33 : decode cX6_wind 33 = .ok (.laload, 1) := by decide +kernel
theorem dX6_wind_34 : decode cX6_wind 34 = .ok (.aload_n 0, 1) := by decide +kernel
theorem dX6_wind_35 : decode cX6_wind 35 = .ok (.getfield 25, 3) := by decide +kernel
theorem dX6_wind_38 : decode cX6_wind 38 = .ok (.iload_n 1, 1) := by decide +kernel
theorem dX6_wind_39 : decode cX6_wind 39 = .ok (.laload, 1) := by decide +kernel
theorem dX6_wind_40 : decode cX6_wind 40 = .ok (.lcmp, 1) := by decide +kernel
theorem dX6_wind_41 : decode cX6_wind 41 = .ok (.ifCond .ne 23, 3) := by decide +kernel
theorem dX6_wind_44 : decode cX6_wind 44 = .ok (.aload_n 0, 1) := by decide +kernel
theorem dX6_wind_45 : decode cX6_wind 45 = .ok (.getfield 28, 3) := by decide +kernel
theorem dX6_wind_48 : decode cX6_wind 48 = .ok (.iload_n 2, 1) := by decide +kernel
theorem dX6_wind_49 : decode cX6_wind 49 = .ok (.laload, 1) := by decide +kernel
theorem dX6_wind_50 : decode cX6_wind 50 = .ok (.aload_n 0, 1) := by decide +kernel
theorem dX6_wind_51 : decode cX6_wind 51 = .ok (.getfield 28, 3) := by decide +kernel
theorem dX6_wind_54 : decode cX6_wind 54 = .ok (.iload_n 1, 1) := by decide +kernel
theorem dX6_wind_55 : decode cX6_wind 55 = .ok (.laload, 1) := by decide +kernel
theorem dX6_wind_56 : decode cX6_wind 56 = .ok (.lcmp, 1) := by decide +kernel
theorem dX6_wind_57 : decode cX6_wind 57 = .ok (.ifCond .ge 7, 3) := by decide +kernel
theorem dX6_wind_60 : decode cX6_wind 60 = .ok (.iload_n 2, 1) := by decide +kernel
theorem dX6_wind_61 : decode cX6_wind 61 = .ok (.goto 4, 3) := by decide +kernel
theorem dX6_wind_64 : decode cX6_wind 64 = .ok (.iload_n 1, 1) := by decide +kernel
theorem dX6_wind_65 : decode cX6_wind 65 = .ok (.istore_n 1, 1) := by decide +kernel
theorem dX6_wind_66 : decode cX6_wind 66 = .ok (.iinc 2 1, 3) := by decide +kernel
theorem dX6_wind_69 : decode cX6_wind 69 = .ok (.goto (-65), 3) := by decide +kernel
theorem dX6_wind_72 : decode cX6_wind 72 = .ok (.aload_n 0, 1) := by decide +kernel
theorem dX6_wind_73 : decode cX6_wind 73 = .ok (.iconst 0, 1) := by decide +kernel
theorem dX6_wind_74 : decode cX6_wind 74 = .ok (.putfield 95, 3) := by decide +kernel
theorem dX6_wind_77 : decode cX6_wind 77 = .ok (.iload_n 1, 1) := by decide +kernel
theorem dX6_wind_78 : decode cX6_wind 78 = .ok (.istore_n 2, 1) := by decide +kernel
theorem dX6_wind_79 : decode cX6_wind 79 = .ok (.iconst 1, 1) := by decide +kernel
theorem dX6_wind_80 : decode cX6_wind 80 = .ok (.istore_n 3, 1) := by decide +kernel
theorem dX6_wind_81 : decode cX6_wind 81 = .ok (.iload_n 3, 1) := by decide +kernel
theorem dX6_wind_82 : decode cX6_wind 82 = .ok (.ifCond .eq 43, 3) := by decide +kernel
theorem dX6_wind_85 : decode cX6_wind 85 = .ok (.aload_n 0, 1) := by decide +kernel
theorem dX6_wind_86 : decode cX6_wind 86 = .ok (.getfield 35, 3) := by decide +kernel
theorem dX6_wind_89 : decode cX6_wind 89 = .ok (.aload_n 0, 1) := by decide +kernel
theorem dX6_wind_90 : decode cX6_wind 90 = .ok (.getfield 95, 3) := by decide +kernel
theorem dX6_wind_93 : decode cX6_wind 93 = .ok (.iload_n 2, 1) := by decide +kernel
theorem dX6_wind_94 : decode cX6_wind 94 = .ok (.iastore, 1) := by decide +kernel
theorem dX6_wind_95 : decode cX6_wind 95 = .ok (.aload_n 0, 1) := by decide +kernel
theorem dX6_wind_96 : decode cX6_wind 96 = .ok (.dup, 1) := by decide +kernel
theorem dX6_wind_97 : decode cX6_wind 97 = .ok (.getfield 95, 3) := by decide +kernel
theorem dX6_wind_100 : decode cX6_wind 100 = .ok (.iconst 1, 1) := by decide +kernel
theorem dX6_wind_101 : decode cX6_wind 101 = .ok (.iadd, 1) := by decide +kernel
theorem dX6_wind_102 : decode cX6_wind 102 = .ok (.putfield 95, 3) := by decide +kernel
theorem dX6_wind_105 : decode cX6_wind 105 = .ok (.aload_n 0, 1) := by decide +kernel
theorem dX6_wind_106 : decode cX6_wind 106 = .ok (.iload_n 2, 1) := by decide +kernel
theorem dX6_wind_107 : decode cX6_wind 107 = .ok (.invokevirtual 98, 3) := by decide +kernel
theorem dX6_wind_110 : decode cX6_wind 110 = .ok (.istore_n 2, 1) := by decide +kernel
theorem dX6_wind_111 : decode cX6_wind 111 = .ok (.iload_n 2, 1) := by decide +kernel
theorem dX6_wind_112 : decode cX6_wind 112 = .ok (.iload_n 1, 1) := by decide +kernel
theorem dX6_wind_113 : decode cX6_wind 113 = .ok (.if_icmp .eq 7, 3) := by decide +kernel
theorem dX6_wind_116 : decode cX6_wind 116 = .ok (.iconst 1, 1) := by decide +kernel
theorem dX6_wind_117 : decode cX6_wind 117 = .ok (.goto 4, 3) := by decide +kernel
theorem dX6_wind_120 : decode cX6_wind 120 = .ok (.iconst 0, 1) := by decide +kernel
theorem dX6_wind_121 : decode cX6_wind 121 = .ok (.istore_n 3, 1) := by decide +kernel
theorem dX6_wind_122 : decode cX6_wind 122 = .ok (.goto (-41), 3) := by decide +kernel
theorem dX6_wind_125 : decode cX6_wind 125 = .ok (.return_, 1) := by decide +kernel
theorem dX6_noPolygon_0 : decode cX6_noPolygon 0 = .ok (.aload_n 0, 1) := by decide +kernel
theorem dX6_noPolygon_1 : decode cX6_noPolygon 1 = .ok (.aload_n 0, 1) := by decide +kernel
theorem dX6_noPolygon_2 : decode cX6_noPolygon 2 = .ok (.getfield 95, 3) := by decide +kernel
theorem dX6_noPolygon_5 : decode cX6_noPolygon 5 = .ok (.iconst 3, 1) := by decide +kernel
theorem dX6_noPolygon_6 : decode cX6_noPolygon 6 = .ok (.if_icmp .ge 7, 3) := by decide +kernel
theorem dX6_noPolygon_9 : decode cX6_noPolygon 9 = .ok (.iconst 1, 1) := by decide +kernel
theorem dX6_noPolygon_10 : decode cX6_noPolygon 10 = .ok (.goto 4, 3) := by decide +kernel
theorem dX6_noPolygon_13 : decode cX6_noPolygon 13 = .ok (.iconst 0, 1) := by decide +kernel
theorem dX6_noPolygon_14 : decode cX6_noPolygon 14 = .ok (.putfield 47, 3) := by decide +kernel
theorem dX6_noPolygon_17 : decode cX6_noPolygon 17 = .ok (.aload_n 0, 1) := by decide +kernel
theorem dX6_noPolygon_18 : decode cX6_noPolygon 18 = .ok (.getfield 47, 3) := by decide +kernel
theorem dX6_noPolygon_21 : decode cX6_noPolygon 21 = .ok (.ifCond .le 7, 3) := by decide +kernel
theorem dX6_noPolygon_24 : decode cX6_noPolygon 24 = .ok (.iconst 1, 1) := by decide +kernel
theorem dX6_noPolygon_25 : decode cX6_noPolygon 25 = .ok (.goto 4, 3) := by decide +kernel
theorem dX6_noPolygon_28 : decode cX6_noPolygon 28 = .ok (.iconst 0, 1) := by decide +kernel
theorem dX6_noPolygon_29 : decode cX6_noPolygon 29 = .ok (.ireturn, 1) := by decide +kernel
theorem dX6_common_0 : decode cX6_common 0 = .ok (.lload_n 0, 1) := by decide +kernel
theorem dX6_common_1 : decode cX6_common 1 = .ok (.lconst 0, 1) := by decide +kernel
theorem dX6_common_2 : decode cX6_common 2 = .ok (.lcmp, 1) := by decide +kernel
theorem dX6_common_3 : decode cX6_common 3 = .ok (.ifCond .ge 8, 3) := by decide +kernel
theorem dX6_common_6 : decode cX6_common 6 = .ok (.lload_n 0, 1) := by decide +kernel
theorem dX6_common_7 : decode cX6_common 7 = .ok (.lneg, 1) := by decide +kernel
theorem dX6_common_8 : decode cX6_common 8 = .ok (.goto 4, 3) := by decide +kernel
theorem dX6_common_11 : decode cX6_common 11 = .ok (.lload_n 0, 1) := by decide +kernel
theorem dX6_common_12 : decode cX6_common 12 = .ok (.lstore 4, 2) := by decide +kernel
theorem dX6_common_14 : decode cX6_common 14 = .ok (.lload_n 2, 1) := by decide +kernel
theorem dX6_common_15 : decode cX6_common 15 = .ok (.lstore 6, 2) := by decide +kernel
theorem dX6_common_17 : decode cX6_common 17 = .ok (.lload 6, 2) := by decide +kernel
theorem dX6_common_19 : decode cX6_common 19 = .ok (.lconst 0, 1) := by decide +kernel
theorem dX6_common_20 : decode cX6_common 20 = .ok (.lcmp, 1) := by decide +kernel
theorem dX6_common_21 : decode cX6_common 21 = .ok (.ifCond .eq 21, 3) := by decide +kernel
theorem dX6_common_24 : decode cX6_common 24 = .ok (.lload 4, 2) := by decide +kernel
theorem dX6_common_26 : decode cX6_common 26 = .ok (.lload 6, 2) := by decide +kernel
theorem dX6_common_28 : decode cX6_common 28 = .ok (.lrem, 1) := by decide +kernel
theorem dX6_common_29 : decode cX6_common 29 = .ok (.lstore 8, 2) := by decide +kernel
theorem dX6_common_31 : decode cX6_common 31 = .ok (.lload 6, 2) := by decide +kernel
theorem dX6_common_33 : decode cX6_common 33 = .ok (.lstore 4, 2) := by decide +kernel
theorem dX6_common_35 : decode cX6_common 35 = .ok (.lload 8, 2) := by decide +kernel
theorem dX6_common_37 : decode cX6_common 37 = .ok (.lstore 6, 2) := by decide +kernel
theorem dX6_common_39 : decode cX6_common 39 = .ok (.goto (-22), 3) := by decide +kernel
theorem dX6_common_42 : decode cX6_common 42 = .ok (.lload 4, 2) := by decide +kernel
theorem dX6_common_44 : decode cX6_common 44 = .ok (.lreturn, 1) := by decide +kernel
theorem dX6_centre_0 : decode cX6_centre 0 = .ok (.aload_n 0, 1) := by decide +kernel
theorem dX6_centre_1 : decode cX6_centre 1 = .ok (.getfield 84, 3) := by decide +kernel
theorem dX6_centre_4 : decode cX6_centre 4 = .ok (.lstore_n 3, 1) := by decide +kernel
theorem dX6_centre_5 : decode cX6_centre 5 = .ok (.iconst 0, 1) := by decide +kernel
theorem dX6_centre_6 : decode cX6_centre 6 = .ok (.istore 5, 2) := by decide +kernel
theorem dX6_centre_8 : decode cX6_centre 8 = .ok (.iload 5, 2) := by decide +kernel
theorem dX6_centre_10 : decode cX6_centre 10 = .ok (.aload_n 0, 1) := by decide +kernel
theorem dX6_centre_11 : decode cX6_centre 11 = .ok (.getfield 65, 3) := by decide +kernel
theorem dX6_centre_14 : decode cX6_centre 14 = .ok (.if_icmp .ge 19, 3) := by decide +kernel
theorem dX6_centre_17 : decode cX6_centre 17 = .ok (.lload_n 3, 1) := by decide +kernel
theorem dX6_centre_18 : decode cX6_centre 18 = .ok (.aload_n 0, 1) := by decide +kernel
theorem dX6_centre_19 : decode cX6_centre 19 = .ok (.getfield 19, 3) := by decide +kernel
theorem dX6_centre_22 : decode cX6_centre 22 = .ok (.iload 5, 2) := by decide +kernel
theorem dX6_centre_24 : decode cX6_centre 24 = .ok (.laload, 1) := by decide +kernel
theorem dX6_centre_25 : decode cX6_centre 25 = .ok (.ladd, 1) := by decide +kernel
theorem dX6_centre_26 : decode cX6_centre 26 = .ok (.lstore_n 3, 1) := by decide +kernel
theorem dX6_centre_27 : decode cX6_centre 27 = .ok (.iinc 5 1, 3) := by decide +kernel
theorem dX6_centre_30 : decode cX6_centre 30 = .ok (.goto (-22), 3) := by decide +kernel
theorem dX6_centre_33 : decode cX6_centre 33 = .ok (.aload_n 0, 1) := by decide +kernel
theorem dX6_centre_34 : decode cX6_centre 34 = .ok (.iload_n 1, 1) := by decide +kernel
theorem dX6_centre_35 : decode cX6_centre 35 = .ok (.ifCond .lt 17, 3) := by decide +kernel
theorem dX6_centre_38 : decode cX6_centre 38 = .ok (.iload_n 1, 1) := by decide +kernel
theorem dX6_centre_39 : decode cX6_centre 39 = .ok (.iconst 2, 1) := by decide +kernel
theorem dX6_centre_40 : decode cX6_centre 40 = .ok (.if_icmp .gt 12, 3) := by decide +kernel
theorem dX6_centre_43 : decode cX6_centre 43 = .ok (.iload_n 2, 1) := by decide +kernel
theorem dX6_centre_44 : decode cX6_centre 44 = .ok (.ifCond .lt 8, 3) := by decide +kernel
theorem dX6_centre_47 : decode cX6_centre 47 = .ok (.iload_n 2, 1) := by decide +kernel
theorem dX6_centre_48 : decode cX6_centre 48 = .ok (.iconst 1, 1) := by decide +kernel
theorem dX6_centre_49 : decode cX6_centre 49 = .ok (.if_icmp .le 7, 3) := by decide +kernel
theorem dX6_centre_52 : decode cX6_centre 52 = .ok (.iconst 1, 1) := by decide +kernel
theorem dX6_centre_53 : decode cX6_centre 53 = .ok (.goto 14, 3) := by decide +kernel
theorem dX6_centre_56 : decode cX6_centre 56 = .ok (.lload_n 3, 1) := by decide +kernel
theorem dX6_centre_57 : decode cX6_centre 57 = .ok (.lconst 0, 1) := by decide +kernel
theorem dX6_centre_58 : decode cX6_centre 58 = .ok (.lcmp, 1) := by decide +kernel
theorem dX6_centre_59 : decode cX6_centre 59 = .ok (.ifCond .ne 7, 3) := by decide +kernel
theorem dX6_centre_62 : decode cX6_centre 62 = .ok (.iconst 2, 1) := by decide +kernel
theorem dX6_centre_63 : decode cX6_centre 63 = .ok (.goto 4, 3) := by decide +kernel
theorem dX6_centre_66 : decode cX6_centre 66 = .ok (.iconst 0, 1) := by decide +kernel
theorem dX6_centre_67 : decode cX6_centre 67 = .ok (.putfield 47, 3) := by decide +kernel
theorem dX6_centre_70 : decode cX6_centre 70 = .ok (.aload_n 0, 1) := by decide +kernel
theorem dX6_centre_71 : decode cX6_centre 71 = .ok (.getfield 47, 3) := by decide +kernel
theorem dX6_centre_74 : decode cX6_centre 74 = .ok (.ifCond .le 5, 3) := by decide +kernel
theorem dX6_centre_77 : decode cX6_centre 77 = .ok (.lconst 0, 1) := by decide +kernel
theorem dX6_centre_78 : decode cX6_centre 78 = .ok (.lreturn, 1) := by decide +kernel
theorem dX6_centre_79 : decode cX6_centre 79 = .ok (.iload_n 1, 1) := by decide +kernel
theorem dX6_centre_80 : decode cX6_centre 80 = .ok (.ifCond .ne 15, 3) := by decide +kernel
theorem dX6_centre_83 : decode cX6_centre 83 = .ok (.aload_n 0, 1) := by decide +kernel
theorem dX6_centre_84 : decode cX6_centre 84 = .ok (.getfield 84, 3) := by decide +kernel
theorem dX6_centre_87 : decode cX6_centre 87 = .ok (.aload_n 0, 1) := by decide +kernel
theorem dX6_centre_88 : decode cX6_centre 88 = .ok (.getfield 77, 3) := by decide +kernel
theorem dX6_centre_91 : decode cX6_centre 91 = .ok (.lmul, 1) := by decide +kernel
theorem dX6_centre_92 : decode cX6_centre 92 = .ok (.goto 21, 3) := by decide +kernel
theorem dX6_centre_95 : decode cX6_centre 95 = .ok (.iload_n 1, 1) := by decide +kernel
theorem dX6_centre_96 : decode cX6_centre 96 = .ok (.iconst 1, 1) := by decide +kernel
theorem dX6_centre_97 : decode cX6_centre 97 = .ok (.if_icmp .ne 15, 3) := by decide +kernel
theorem dX6_centre_100 : decode cX6_centre 100 = .ok (.aload_n 0, 1) := by decide +kernel
theorem dX6_centre_101 : decode cX6_centre 101 = .ok (.getfield 84, 3) := by decide +kernel
theorem dX6_centre_104 : decode cX6_centre 104 = .ok (.aload_n 0, 1) := by decide +kernel
theorem dX6_centre_105 : decode cX6_centre 105 = .ok (.getfield 81, 3) := by decide +kernel
theorem dX6_centre_108 : decode cX6_centre 108 = .ok (.lmul, 1) := by decide +kernel
theorem dX6_centre_109 : decode cX6_centre 109 = .ok (.goto 4, 3) := by decide +kernel
theorem dX6_centre_112 : decode cX6_centre 112 = .ok (.lconst 0, 1) := by decide +kernel
theorem dX6_centre_113 : decode cX6_centre 113 = .ok (.lstore 5, 2) := by decide +kernel
theorem dX6_centre_115 : decode cX6_centre 115 = .ok (.iconst 0, 1) := by decide +kernel
theorem dX6_centre_116 : decode cX6_centre 116 = .ok (.istore 7, 2) := by decide +kernel
theorem dX6_centre_118 : decode cX6_centre 118 = .ok (.iload 7, 2) := by decide +kernel
theorem dX6_centre_120 : decode cX6_centre 120 = .ok (.aload_n 0, 1) := by decide +kernel
theorem dX6_centre_121 : decode cX6_centre 121 = .ok (.getfield 65, 3) := by decide +kernel
theorem dX6_centre_124 : decode cX6_centre 124 = .ok (.if_icmp .ge 58, 3) := by decide +kernel
theorem dX6_centre_127 : decode cX6_centre 127 = .ok (.lload 5, 2) := by decide +kernel
theorem dX6_centre_129 : decode cX6_centre 129 = .ok (.aload_n 0, 1) := by decide +kernel
theorem dX6_centre_130 : decode cX6_centre 130 = .ok (.getfield 19, 3) := by decide +kernel
theorem dX6_centre_133 : decode cX6_centre 133 = .ok (.iload 7, 2) := by decide +kernel
theorem dX6_centre_135 : decode cX6_centre 135 = .ok (.laload, 1) := by decide +kernel
theorem dX6_centre_136 : decode cX6_centre 136 = .ok (.iload_n 1, 1) := by decide +kernel
theorem dX6_centre_137 : decode cX6_centre 137 = .ok (.ifCond .ne 13, 3) := by decide +kernel
theorem dX6_centre_140 : decode cX6_centre 140 = .ok (.aload_n 0, 1) := by decide +kernel
theorem dX6_centre_141 : decode cX6_centre 141 = .ok (.getfield 7, 3) := by decide +kernel
theorem dX6_centre_144 : decode cX6_centre 144 = .ok (.iload 7, 2) := by decide +kernel
theorem dX6_centre_146 : decode cX6_centre 146 = .ok (.laload, 1) := by decide +kernel
theorem dX6_centre_147 : decode cX6_centre 147 = .ok (.goto 25, 3) := by decide +kernel
theorem dX6_centre_150 : decode cX6_centre 150 = .ok (.iload_n 1, 1) := by decide +kernel
theorem dX6_centre_151 : decode cX6_centre 151 = .ok (.iconst 1, 1) := by decide +kernel
theorem dX6_centre_152 : decode cX6_centre 152 = .ok (.if_icmp .ne 13, 3) := by decide +kernel
theorem dX6_centre_155 : decode cX6_centre 155 = .ok (.aload_n 0, 1) := by decide +kernel
theorem dX6_centre_156 : decode cX6_centre 156 = .ok (.getfield 13, 3) := by decide +kernel
theorem dX6_centre_159 : decode cX6_centre 159 = .ok (.iload 7, 2) := by decide +kernel
theorem dX6_centre_161 : decode cX6_centre 161 = .ok (.laload, 1) := by decide +kernel
theorem dX6_centre_162 : decode cX6_centre 162 = .ok (.goto 10, 3) := by decide +kernel
theorem dX6_centre_165 : decode cX6_centre 165 = .ok (.aload_n 0, 1) := by decide +kernel
theorem dX6_centre_166 : decode cX6_centre 166 = .ok (.getfield 16, 3) := by decide +kernel
theorem dX6_centre_169 : decode cX6_centre 169 = .ok (.iload 7, 2) := by decide +kernel
theorem dX6_centre_171 : decode cX6_centre 171 = .ok (.laload, 1) := by decide +kernel
theorem dX6_centre_172 : decode cX6_centre 172 = .ok (.lmul, 1) := by decide +kernel
theorem dX6_centre_173 : decode cX6_centre 173 = .ok (.ladd, 1) := by decide +kernel
theorem dX6_centre_174 : decode cX6_centre 174 = .ok (.lstore 5, 2) := by decide +kernel
theorem dX6_centre_176 : decode cX6_centre 176 = .ok (.iinc 7 1, 3) := by decide +kernel
theorem dX6_centre_179 : decode cX6_centre 179 = .ok (.goto (-61), 3) := by decide +kernel
theorem dX6_centre_182 : decode cX6_centre 182 = .ok (.lload 5, 2) := by decide +kernel
theorem dX6_centre_184 : decode cX6_centre 184 = .ok (.lload_n 3, 1) := by decide +kernel
theorem dX6_centre_185 : decode cX6_centre 185 = .ok (.invokestatic 102, 3) := by decide +kernel
theorem dX6_centre_188 : decode cX6_centre 188 = .ok (.lstore 7, 2) := by decide +kernel
theorem dX6_centre_190 : decode cX6_centre 190 = .ok (.iload_n 2, 1) := by decide +kernel
theorem dX6_centre_191 : decode cX6_centre 191 = .ok (.ifCond .ne 11, 3) := by decide +kernel
theorem dX6_centre_194 : decode cX6_centre 194 = .ok (.lload 5, 2) := by decide +kernel
theorem dX6_centre_196 : decode cX6_centre 196 = .ok (.lload 7, 2) := by decide +kernel
theorem dX6_centre_198 : decode cX6_centre 198 = .ok (.ldiv, 1) := by decide +kernel
theorem dX6_centre_199 : decode cX6_centre 199 = .ok (.goto 7, 3) := by decide +kernel
theorem dX6_centre_202 : decode cX6_centre 202 = .ok (.lload_n 3, 1) := by decide +kernel
theorem dX6_centre_203 : decode cX6_centre 203 = .ok (.lload 7, 2) := by decide +kernel
theorem dX6_centre_205 : decode cX6_centre 205 = .ok (.ldiv, 1) := by decide +kernel
theorem dX6_centre_206 : decode cX6_centre 206 = .ok (.lreturn, 1) := by decide +kernel
theorem dX6_isOut_0 : decode cX6_isOut 0 = .ok (.iconst 0, 1) := by decide +kernel
theorem dX6_isOut_1 : decode cX6_isOut 1 = .ok (.istore_n 3, 1) := by decide +kernel
theorem dX6_isOut_2 : decode cX6_isOut 2 = .ok (.iconst 0, 1) := by decide +kernel
theorem dX6_isOut_3 : decode cX6_isOut 3 = .ok (.istore 4, 2) := by decide +kernel
theorem dX6_isOut_5 : decode cX6_isOut 5 = .ok (.iload 4, 2) := by decide +kernel
theorem dX6_isOut_7 : decode cX6_isOut 7 = .ok (.iload_n 2, 1) := by decide +kernel
theorem dX6_isOut_8 : decode cX6_isOut 8 = .ok (.if_icmp .ge 30, 3) := by decide +kernel
theorem dX6_isOut_11 : decode cX6_isOut 11 = .ok (.iload_n 3, 1) := by decide +kernel
theorem dX6_isOut_12 : decode cX6_isOut 12 = .ok (.ifCond .ne 14, 3) := by decide +kernel
theorem dX6_isOut_15 : decode cX6_isOut 15 = .ok (.aload_n 0, 1) := by decide +kernel
theorem dX6_isOut_16 : decode cX6_isOut 16 = .ok (.getfield 31, 3) := by decide +kernel
theorem dX6_isOut_19 : decode cX6_isOut 19 = .ok (.iload 4, 2) := by decide +kernel
theorem dX6_isOut_21 : decode cX6_isOut 21 = .ok (.iaload, 1) := by decide +kernel
theorem dX6_isOut_22 : decode cX6_isOut 22 = .ok (.iload_n 1, 1) := by decide +kernel
theorem dX6_isOut_23 : decode cX6_isOut 23 = .ok (.if_icmp .ne 7, 3) := by decide +kernel
theorem dX6_isOut_26 : decode cX6_isOut 26 = .ok (.iconst 1, 1) := by decide +kernel
theorem dX6_isOut_27 : decode cX6_isOut 27 = .ok (.goto 4, 3) := by decide +kernel
theorem dX6_isOut_30 : decode cX6_isOut 30 = .ok (.iconst 0, 1) := by decide +kernel
theorem dX6_isOut_31 : decode cX6_isOut 31 = .ok (.istore_n 3, 1) := by decide +kernel
theorem dX6_isOut_32 : decode cX6_isOut 32 = .ok (.iinc 4 1, 3) := by decide +kernel
theorem dX6_isOut_35 : decode cX6_isOut 35 = .ok (.goto (-30), 3) := by decide +kernel
theorem dX6_isOut_38 : decode cX6_isOut 38 = .ok (.iload_n 3, 1) := by decide +kernel
theorem dX6_isOut_39 : decode cX6_isOut 39 = .ok (.ireturn, 1) := by decide +kernel
theorem dX6_momentOf_0 : decode cX6_momentOf 0 = .ok (.aload_n 0, 1) := by decide +kernel
theorem dX6_momentOf_1 : decode cX6_momentOf 1 = .ok (.getfield 35, 3) := by decide +kernel
theorem dX6_momentOf_4 : decode cX6_momentOf 4 = .ok (.iload_n 1, 1) := by decide +kernel
theorem dX6_momentOf_5 : decode cX6_momentOf 5 = .ok (.iaload, 1) := by decide +kernel
theorem dX6_momentOf_6 : decode cX6_momentOf 6 = .ok (.istore 9, 2) := by decide +kernel
theorem dX6_momentOf_8 : decode cX6_momentOf 8 = .ok (.aload_n 0, 1) := by decide +kernel
theorem dX6_momentOf_9 : decode cX6_momentOf 9 = .ok (.getfield 35, 3) := by decide +kernel
theorem dX6_momentOf_12 : decode cX6_momentOf 12 = .ok (.iload_n 1, 1) := by decide +kernel
theorem dX6_momentOf_13 : decode cX6_momentOf 13 = .ok (.iconst 1, 1) := by decide +kernel
theorem dX6_momentOf_14 : decode cX6_momentOf 14 = .ok (.iadd, 1) := by decide +kernel
theorem dX6_momentOf_15 : decode cX6_momentOf 15 = .ok (.aload_n 0, 1) := by decide +kernel
theorem dX6_momentOf_16 : decode cX6_momentOf 16 = .ok (.getfield 95, 3) := by decide +kernel
theorem dX6_momentOf_19 : decode cX6_momentOf 19 = .ok (.if_icmp .ne 7, 3) := by decide +kernel
theorem dX6_momentOf_22 : decode cX6_momentOf 22 = .ok (.iconst 0, 1) := by decide +kernel
theorem dX6_momentOf_23 : decode cX6_momentOf 23 = .ok (.goto 6, 3) := by decide +kernel
theorem dX6_momentOf_26 : decode cX6_momentOf 26 = .ok (.iload_n 1, 1) := by decide +kernel
theorem dX6_momentOf_27 : decode cX6_momentOf 27 = .ok (.iconst 1, 1) := by decide +kernel
theorem dX6_momentOf_28 : decode cX6_momentOf 28 = .ok (.iadd, 1) := by decide +kernel
theorem dX6_momentOf_29 : decode cX6_momentOf 29 = .ok (.iaload, 1) := by decide +kernel
theorem dX6_momentOf_30 : decode cX6_momentOf 30 = .ok (.istore 10, 2) := by decide +kernel
theorem dX6_momentOf_32 : decode cX6_momentOf 32 = .ok (.lload 7, 2) := by decide +kernel
theorem dX6_momentOf_34 : decode cX6_momentOf 34 = .ok (.aload_n 0, 1) := by decide +kernel
theorem dX6_momentOf_35 : decode cX6_momentOf 35 = .ok (.iload 9, 2) := by decide +kernel
theorem dX6_momentOf_37 : decode cX6_momentOf 37 = .ok (.iload 10, 2) := by decide +kernel
theorem dX6_momentOf_39 : decode cX6_momentOf 39 = .ok (.lload_n 3, 1) := by decide +kernel
theorem dX6_momentOf_40 : decode cX6_momentOf 40 = .ok (.lload 5, 2) := by decide +kernel
theorem dX6_momentOf_42 : decode cX6_momentOf 42 = .ok (.invokevirtual 87, 3) := by decide +kernel
theorem dX6_momentOf_45 : decode cX6_momentOf 45 = .ok (.lmul, 1) := by decide +kernel
theorem dX6_momentOf_46 : decode cX6_momentOf 46 = .ok (.lstore 11, 2) := by decide +kernel
theorem dX6_momentOf_48 : decode cX6_momentOf 48 = .ok (.iconst 0, 1) := by decide +kernel
theorem dX6_momentOf_49 : decode cX6_momentOf 49 = .ok (.istore 13, 2) := by decide +kernel
theorem dX6_momentOf_51 : decode cX6_momentOf 51 = .ok (.iload 13, 2) := by decide +kernel
theorem dX6_momentOf_53 : decode cX6_momentOf 53 = .ok (.aload_n 0, 1) := by decide +kernel
theorem dX6_momentOf_54 : decode cX6_momentOf 54 = .ok (.getfield 65, 3) := by decide +kernel
theorem dX6_momentOf_57 : decode cX6_momentOf 57 = .ok (.if_icmp .ge 72, 3) := by decide +kernel
theorem dX6_momentOf_60 : decode cX6_momentOf 60 = .ok (.lload 11, 2) := by decide +kernel
theorem dX6_momentOf_62 : decode cX6_momentOf 62 = .ok (.aload_n 0, 1) := by decide +kernel
theorem dX6_momentOf_63 : decode cX6_momentOf 63 = .ok (.getfield 19, 3) := by decide +kernel
theorem dX6_momentOf_66 : decode cX6_momentOf 66 = .ok (.iload 13, 2) := by decide +kernel
theorem dX6_momentOf_68 : decode cX6_momentOf 68 = .ok (.laload, 1) := by decide +kernel
theorem dX6_momentOf_69 : decode cX6_momentOf 69 = .ok (.aload_n 0, 1) := by decide +kernel
end
section
theorem dX6_momentOf_70 : decode cX6_momentOf 70 = .ok (.iload 9, 2) := by decide +kernel
theorem dX6_momentOf_72 : decode cX6_momentOf 72 = .ok (.iload 10, 2) := by decide +kernel
theorem dX6_momentOf_74 : decode cX6_momentOf 74 = .ok (.aload_n 0, 1) := by decide +kernel
theorem dX6_momentOf_75 : decode cX6_momentOf 75 = .ok (.getfield 7, 3) := by decide +kernel
theorem dX6_momentOf_78 : decode cX6_momentOf 78 = .ok (.iload 13, 2) := by decide +kernel
theorem dX6_momentOf_80 : decode cX6_momentOf 80 = .ok (.laload, 1) := by decide +kernel
theorem dX6_momentOf_81 : decode cX6_momentOf 81 = .ok (.aload_n 0, 1) := by decide +kernel
theorem dX6_momentOf_82 : decode cX6_momentOf 82 = .ok (.iload 13, 2) := by decide +kernel
theorem dX6_momentOf_84 : decode cX6_momentOf 84 = .ok (.iload_n 2, 1) := by decide +kernel
theorem dX6_momentOf_85 : decode cX6_momentOf 85 = .ok (.invokevirtual 106, 3) := by decide +kernel
theorem dX6_momentOf_88 : decode cX6_momentOf 88 = .ok (.ifCond .eq 21, 3) := by decide +kernel
theorem dX6_momentOf_91 : decode cX6_momentOf 91 = .ok (.aload_n 0, 1) := by decide +kernel
theorem dX6_momentOf_92 : decode cX6_momentOf 92 = .ok (.getfield 13, 3) := by decide +kernel
theorem dX6_momentOf_95 : decode cX6_momentOf 95 = .ok (.iload 13, 2) := by decide +kernel
theorem dX6_momentOf_97 : decode cX6_momentOf 97 = .ok (.laload, 1) := by decide +kernel
theorem dX6_momentOf_98 : decode cX6_momentOf 98 = .ok (.aload_n 0, 1) := by decide +kernel
theorem dX6_momentOf_99 : decode cX6_momentOf 99 = .ok (.getfield 22, 3) := by decide +kernel
theorem dX6_momentOf_102 : decode cX6_momentOf 102 = .ok (.iload 13, 2) := by decide +kernel
theorem dX6_momentOf_104 : decode cX6_momentOf 104 = .ok (.laload, 1) := by decide +kernel
theorem dX6_momentOf_105 : decode cX6_momentOf 105 = .ok (.ladd, 1) := by decide +kernel
theorem dX6_momentOf_106 : decode cX6_momentOf 106 = .ok (.goto 10, 3) := by decide +kernel
theorem dX6_momentOf_109 : decode cX6_momentOf 109 = .ok (.aload_n 0, 1) := by decide +kernel
theorem dX6_momentOf_110 : decode cX6_momentOf 110 = .ok (.getfield 13, 3) := by decide +kernel
theorem dX6_momentOf_113 : decode cX6_momentOf 113 = .ok (.iload 13, 2) := by decide +kernel
theorem dX6_momentOf_115 : decode cX6_momentOf 115 = .ok (.laload, 1) := by decide +kernel
theorem dX6_momentOf_116 : decode cX6_momentOf 116 = .ok (.invokevirtual 87, 3) := by decide +kernel
theorem dX6_momentOf_119 : decode cX6_momentOf 119 = .ok (.lmul, 1) := by decide +kernel
theorem dX6_momentOf_120 : decode cX6_momentOf 120 = .ok (.ladd, 1) := by decide +kernel
theorem dX6_momentOf_121 : decode cX6_momentOf 121 = .ok (.lstore 11, 2) := by decide +kernel
theorem dX6_momentOf_123 : decode cX6_momentOf 123 = .ok (.iinc 13 1, 3) := by decide +kernel
theorem dX6_momentOf_126 : decode cX6_momentOf 126 = .ok (.goto (-75), 3) := by decide +kernel
theorem dX6_momentOf_129 : decode cX6_momentOf 129 = .ok (.lload 11, 2) := by decide +kernel
theorem dX6_momentOf_131 : decode cX6_momentOf 131 = .ok (.lreturn, 1) := by decide +kernel
theorem dX6_tipping_0 : decode cX6_tipping 0 = .ok (.iconst 0, 1) := by decide +kernel
theorem dX6_tipping_1 : decode cX6_tipping 1 = .ok (.istore 8, 2) := by decide +kernel
theorem dX6_tipping_3 : decode cX6_tipping 3 = .ok (.aload_n 0, 1) := by decide +kernel
theorem dX6_tipping_4 : decode cX6_tipping 4 = .ok (.getfield 95, 3) := by decide +kernel
theorem dX6_tipping_7 : decode cX6_tipping 7 = .ok (.iconst 1, 1) := by decide +kernel
theorem dX6_tipping_8 : decode cX6_tipping 8 = .ok (.isub, 1) := by decide +kernel
theorem dX6_tipping_9 : decode cX6_tipping 9 = .ok (.istore 9, 2) := by decide +kernel
theorem dX6_tipping_11 : decode cX6_tipping 11 = .ok (.iload 9, 2) := by decide +kernel
theorem dX6_tipping_13 : decode cX6_tipping 13 = .ok (.ifCond .lt 37, 3) := by decide +kernel
theorem dX6_tipping_16 : decode cX6_tipping 16 = .ok (.aload_n 0, 1) := by decide +kernel
theorem dX6_tipping_17 : decode cX6_tipping 17 = .ok (.iload 9, 2) := by decide +kernel
theorem dX6_tipping_19 : decode cX6_tipping 19 = .ok (.iload_n 1, 1) := by decide +kernel
theorem dX6_tipping_20 : decode cX6_tipping 20 = .ok (.lload_n 2, 1) := by decide +kernel
theorem dX6_tipping_21 : decode cX6_tipping 21 = .ok (.lload 4, 2) := by decide +kernel
theorem dX6_tipping_23 : decode cX6_tipping 23 = .ok (.lload 6, 2) := by decide +kernel
theorem dX6_tipping_25 : decode cX6_tipping 25 = .ok (.invokevirtual 109, 3) := by decide +kernel
theorem dX6_tipping_28 : decode cX6_tipping 28 = .ok (.lconst 0, 1) := by decide +kernel
theorem dX6_tipping_29 : decode cX6_tipping 29 = .ok (.lcmp, 1) := by decide +kernel
theorem dX6_tipping_30 : decode cX6_tipping 30 = .ok (.ifCond .ge 10, 3) := by decide +kernel
theorem dX6_tipping_33 : decode cX6_tipping 33 = .ok (.iload 9, 2) := by decide +kernel
theorem dX6_tipping_35 : decode cX6_tipping 35 = .ok (.iconst 1, 1) := by decide +kernel
theorem dX6_tipping_36 : decode cX6_tipping 36 = .ok (.iadd, 1) := by decide +kernel
theorem dX6_tipping_37 : decode cX6_tipping 37 = .ok (.goto 5, 3) := by decide +kernel
theorem dX6_tipping_40 : decode cX6_tipping 40 = .ok (.iload 8, 2) := by decide +kernel
theorem dX6_tipping_42 : decode cX6_tipping 42 = .ok (.istore 8, 2) := by decide +kernel
theorem dX6_tipping_44 : decode cX6_tipping 44 = .ok (.iinc 9 (-1), 3) := by decide +kernel
theorem dX6_tipping_47 : decode cX6_tipping 47 = .ok (.goto (-36), 3) := by decide +kernel
theorem dX6_tipping_50 : decode cX6_tipping 50 = .ok (.iload 8, 2) := by decide +kernel
theorem dX6_tipping_52 : decode cX6_tipping 52 = .ok (.ireturn, 1) := by decide +kernel
theorem dX6_side_0 : decode cX6_side 0 = .ok (.aload_n 0, 1) := by decide +kernel
theorem dX6_side_1 : decode cX6_side 1 = .ok (.invokevirtual 113, 3) := by decide +kernel
theorem dX6_side_4 : decode cX6_side 4 = .ok (.ifCond .eq 5, 3) := by decide +kernel
theorem dX6_side_7 : decode cX6_side 7 = .ok (.iconst 0, 1) := by decide +kernel
theorem dX6_side_8 : decode cX6_side 8 = .ok (.ireturn, 1) := by decide +kernel
theorem dX6_side_9 : decode cX6_side 9 = .ok (.aload_n 0, 1) := by decide +kernel
theorem dX6_side_10 : decode cX6_side 10 = .ok (.iload_n 1, 1) := by decide +kernel
theorem dX6_side_11 : decode cX6_side 11 = .ok (.ifCond .ge 7, 3) := by decide +kernel
theorem dX6_side_14 : decode cX6_side 14 = .ok (.iconst 2, 1) := by decide +kernel
theorem dX6_side_15 : decode cX6_side 15 = .ok (.goto 4, 3) := by decide +kernel
theorem dX6_side_18 : decode cX6_side 18 = .ok (.iconst 0, 1) := by decide +kernel
theorem dX6_side_19 : decode cX6_side 19 = .ok (.putfield 47, 3) := by decide +kernel
theorem dX6_side_22 : decode cX6_side 22 = .ok (.aload_n 0, 1) := by decide +kernel
theorem dX6_side_23 : decode cX6_side 23 = .ok (.getfield 47, 3) := by decide +kernel
theorem dX6_side_26 : decode cX6_side 26 = .ok (.ifCond .le 7, 3) := by decide +kernel
theorem dX6_side_29 : decode cX6_side 29 = .ok (.iconst 0, 1) := by decide +kernel
theorem dX6_side_30 : decode cX6_side 30 = .ok (.goto 21, 3) := by decide +kernel
theorem dX6_side_33 : decode cX6_side 33 = .ok (.iload_n 1, 1) := by decide +kernel
theorem dX6_side_34 : decode cX6_side 34 = .ok (.aload_n 0, 1) := by decide +kernel
theorem dX6_side_35 : decode cX6_side 35 = .ok (.getfield 95, 3) := by decide +kernel
theorem dX6_side_38 : decode cX6_side 38 = .ok (.if_icmp .ge 12, 3) := by decide +kernel
theorem dX6_side_41 : decode cX6_side 41 = .ok (.aload_n 0, 1) := by decide +kernel
theorem dX6_side_42 : decode cX6_side 42 = .ok (.getfield 35, 3) := by decide +kernel
theorem dX6_side_45 : decode cX6_side 45 = .ok (.iload_n 1, 1) := by decide +kernel
theorem dX6_side_46 : decode cX6_side 46 = .ok (.iaload, 1) := by decide +kernel
theorem dX6_side_47 : decode cX6_side 47 = .ok (.goto 4, 3) := by decide +kernel
theorem dX6_side_50 : decode cX6_side 50 = .ok (.iconst (-1), 1) := by decide +kernel
theorem dX6_side_51 : decode cX6_side 51 = .ok (.ireturn, 1) := by decide +kernel
theorem dX6_tips_0 : decode cX6_tips 0 = .ok (.aload_n 0, 1) := by decide +kernel
theorem dX6_tips_1 : decode cX6_tips 1 = .ok (.invokevirtual 113, 3) := by decide +kernel
theorem dX6_tips_4 : decode cX6_tips 4 = .ok (.ifCond .eq 5, 3) := by decide +kernel
theorem dX6_tips_7 : decode cX6_tips 7 = .ok (.iconst 0, 1) := by decide +kernel
theorem dX6_tips_8 : decode cX6_tips 8 = .ok (.ireturn, 1) := by decide +kernel
theorem dX6_tips_9 : decode cX6_tips 9 = .ok (.aload_n 0, 1) := by decide +kernel
theorem dX6_tips_10 : decode cX6_tips 10 = .ok (.iload_n 1, 1) := by decide +kernel
theorem dX6_tips_11 : decode cX6_tips 11 = .ok (.ifCond .lt 11, 3) := by decide +kernel
theorem dX6_tips_14 : decode cX6_tips 14 = .ok (.iload_n 1, 1) := by decide +kernel
theorem dX6_tips_15 : decode cX6_tips 15 = .ok (.aload_n 0, 1) := by decide +kernel
theorem dX6_tips_16 : decode cX6_tips 16 = .ok (.getfield 74, 3) := by decide +kernel
theorem dX6_tips_19 : decode cX6_tips 19 = .ok (.if_icmp .le 7, 3) := by decide +kernel
theorem dX6_tips_22 : decode cX6_tips 22 = .ok (.iconst 2, 1) := by decide +kernel
theorem dX6_tips_23 : decode cX6_tips 23 = .ok (.goto 4, 3) := by decide +kernel
theorem dX6_tips_26 : decode cX6_tips 26 = .ok (.iconst 0, 1) := by decide +kernel
theorem dX6_tips_27 : decode cX6_tips 27 = .ok (.putfield 47, 3) := by decide +kernel
theorem dX6_tips_30 : decode cX6_tips 30 = .ok (.aload_n 0, 1) := by decide +kernel
theorem dX6_tips_31 : decode cX6_tips 31 = .ok (.getfield 47, 3) := by decide +kernel
theorem dX6_tips_34 : decode cX6_tips 34 = .ok (.ifCond .le 7, 3) := by decide +kernel
theorem dX6_tips_37 : decode cX6_tips 37 = .ok (.iconst 0, 1) := by decide +kernel
theorem dX6_tips_38 : decode cX6_tips 38 = .ok (.goto 20, 3) := by decide +kernel
theorem dX6_tips_41 : decode cX6_tips 41 = .ok (.aload_n 0, 1) := by decide +kernel
theorem dX6_tips_42 : decode cX6_tips 42 = .ok (.iload_n 1, 1) := by decide +kernel
theorem dX6_tips_43 : decode cX6_tips 43 = .ok (.aload_n 0, 1) := by decide +kernel
theorem dX6_tips_44 : decode cX6_tips 44 = .ok (.getfield 77, 3) := by decide +kernel
theorem dX6_tips_47 : decode cX6_tips 47 = .ok (.aload_n 0, 1) := by decide +kernel
theorem dX6_tips_48 : decode cX6_tips 48 = .ok (.getfield 81, 3) := by decide +kernel
theorem dX6_tips_51 : decode cX6_tips 51 = .ok (.aload_n 0, 1) := by decide +kernel
theorem dX6_tips_52 : decode cX6_tips 52 = .ok (.getfield 84, 3) := by decide +kernel
theorem dX6_tips_55 : decode cX6_tips 55 = .ok (.invokevirtual 117, 3) := by decide +kernel
theorem dX6_tips_58 : decode cX6_tips 58 = .ok (.ireturn, 1) := by decide +kernel
theorem dX6_moment_0 : decode cX6_moment 0 = .ok (.aload_n 0, 1) := by decide +kernel
theorem dX6_moment_1 : decode cX6_moment 1 = .ok (.invokevirtual 113, 3) := by decide +kernel
theorem dX6_moment_4 : decode cX6_moment 4 = .ok (.ifCond .eq 5, 3) := by decide +kernel
theorem dX6_moment_7 : decode cX6_moment 7 = .ok (.lconst 0, 1) := by decide +kernel
theorem dX6_moment_8 : decode cX6_moment 8 = .ok (.lreturn, 1) := by decide +kernel
theorem dX6_moment_9 : decode cX6_moment 9 = .ok (.aload_n 0, 1) := by decide +kernel
theorem dX6_moment_10 : decode cX6_moment 10 = .ok (.iload_n 1, 1) := by decide +kernel
theorem dX6_moment_11 : decode cX6_moment 11 = .ok (.ifCond .lt 20, 3) := by decide +kernel
theorem dX6_moment_14 : decode cX6_moment 14 = .ok (.iload_n 1, 1) := by decide +kernel
theorem dX6_moment_15 : decode cX6_moment 15 = .ok (.aload_n 0, 1) := by decide +kernel
theorem dX6_moment_16 : decode cX6_moment 16 = .ok (.getfield 95, 3) := by decide +kernel
theorem dX6_moment_19 : decode cX6_moment 19 = .ok (.if_icmp .ge 12, 3) := by decide +kernel
theorem dX6_moment_22 : decode cX6_moment 22 = .ok (.iload_n 2, 1) := by decide +kernel
theorem dX6_moment_23 : decode cX6_moment 23 = .ok (.ifCond .lt 8, 3) := by decide +kernel
theorem dX6_moment_26 : decode cX6_moment 26 = .ok (.iload_n 2, 1) := by decide +kernel
theorem dX6_moment_27 : decode cX6_moment 27 = .ok (.iconst 1, 1) := by decide +kernel
theorem dX6_moment_28 : decode cX6_moment 28 = .ok (.if_icmp .le 7, 3) := by decide +kernel
theorem dX6_moment_31 : decode cX6_moment 31 = .ok (.iconst 2, 1) := by decide +kernel
theorem dX6_moment_32 : decode cX6_moment 32 = .ok (.goto 4, 3) := by decide +kernel
theorem dX6_moment_35 : decode cX6_moment 35 = .ok (.iconst 0, 1) := by decide +kernel
theorem dX6_moment_36 : decode cX6_moment 36 = .ok (.putfield 47, 3) := by decide +kernel
theorem dX6_moment_39 : decode cX6_moment 39 = .ok (.aload_n 0, 1) := by decide +kernel
theorem dX6_moment_40 : decode cX6_moment 40 = .ok (.getfield 47, 3) := by decide +kernel
theorem dX6_moment_43 : decode cX6_moment 43 = .ok (.ifCond .le 7, 3) := by decide +kernel
theorem dX6_moment_46 : decode cX6_moment 46 = .ok (.lconst 0, 1) := by decide +kernel
theorem dX6_moment_47 : decode cX6_moment 47 = .ok (.goto 30, 3) := by decide +kernel
theorem dX6_moment_50 : decode cX6_moment 50 = .ok (.aload_n 0, 1) := by decide +kernel
theorem dX6_moment_51 : decode cX6_moment 51 = .ok (.iload_n 1, 1) := by decide +kernel
theorem dX6_moment_52 : decode cX6_moment 52 = .ok (.iconst 0, 1) := by decide +kernel
theorem dX6_moment_53 : decode cX6_moment 53 = .ok (.aload_n 0, 1) := by decide +kernel
theorem dX6_moment_54 : decode cX6_moment 54 = .ok (.getfield 77, 3) := by decide +kernel
theorem dX6_moment_57 : decode cX6_moment 57 = .ok (.aload_n 0, 1) := by decide +kernel
theorem dX6_moment_58 : decode cX6_moment 58 = .ok (.getfield 81, 3) := by decide +kernel
theorem dX6_moment_61 : decode cX6_moment 61 = .ok (.iload_n 2, 1) := by decide +kernel
theorem dX6_moment_62 : decode cX6_moment 62 = .ok (.iconst 1, 1) := by decide +kernel
theorem dX6_moment_63 : decode cX6_moment 63 = .ok (.if_icmp .ne 10, 3) := by decide +kernel
theorem dX6_moment_66 : decode cX6_moment 66 = .ok (.aload_n 0, 1) := by decide +kernel
theorem dX6_moment_67 : decode cX6_moment 67 = .ok (.getfield 84, 3) := by decide +kernel
theorem dX6_moment_70 : decode cX6_moment 70 = .ok (.goto 4, 3) := by decide +kernel
theorem dX6_moment_73 : decode cX6_moment 73 = .ok (.lconst 0, 1) := by decide +kernel
theorem dX6_moment_74 : decode cX6_moment 74 = .ok (.invokevirtual 109, 3) := by decide +kernel
theorem dX6_moment_77 : decode cX6_moment 77 = .ok (.lreturn, 1) := by decide +kernel
theorem dX6_most_0 : decode cX6_most 0 = .ok (.aload_n 0, 1) := by decide +kernel
theorem dX6_most_1 : decode cX6_most 1 = .ok (.invokevirtual 113, 3) := by decide +kernel
theorem dX6_most_4 : decode cX6_most 4 = .ok (.ifCond .eq 5, 3) := by decide +kernel
theorem dX6_most_7 : decode cX6_most 7 = .ok (.iconst 0, 1) := by decide +kernel
theorem dX6_most_8 : decode cX6_most 8 = .ok (.ireturn, 1) := by decide +kernel
theorem dX6_most_9 : decode cX6_most 9 = .ok (.iconst 0, 1) := by decide +kernel
theorem dX6_most_10 : decode cX6_most 10 = .ok (.istore_n 1, 1) := by decide +kernel
theorem dX6_most_11 : decode cX6_most 11 = .ok (.iload_n 1, 1) := by decide +kernel
theorem dX6_most_12 : decode cX6_most 12 = .ok (.aload_n 0, 1) := by decide +kernel
theorem dX6_most_13 : decode cX6_most 13 = .ok (.getfield 74, 3) := by decide +kernel
theorem dX6_most_16 : decode cX6_most 16 = .ok (.if_icmp .gt 29, 3) := by decide +kernel
theorem dX6_most_19 : decode cX6_most 19 = .ok (.aload_n 0, 1) := by decide +kernel
theorem dX6_most_20 : decode cX6_most 20 = .ok (.iload_n 1, 1) := by decide +kernel
theorem dX6_most_21 : decode cX6_most 21 = .ok (.aload_n 0, 1) := by decide +kernel
theorem dX6_most_22 : decode cX6_most 22 = .ok (.getfield 77, 3) := by decide +kernel
theorem dX6_most_25 : decode cX6_most 25 = .ok (.aload_n 0, 1) := by decide +kernel
theorem dX6_most_26 : decode cX6_most 26 = .ok (.getfield 81, 3) := by decide +kernel
theorem dX6_most_29 : decode cX6_most 29 = .ok (.aload_n 0, 1) := by decide +kernel
theorem dX6_most_30 : decode cX6_most 30 = .ok (.getfield 84, 3) := by decide +kernel
theorem dX6_most_33 : decode cX6_most 33 = .ok (.invokevirtual 117, 3) := by decide +kernel
theorem dX6_most_36 : decode cX6_most 36 = .ok (.ifCond .ne 9, 3) := by decide +kernel
theorem dX6_most_39 : decode cX6_most 39 = .ok (.iinc 1 1, 3) := by decide +kernel
theorem dX6_most_42 : decode cX6_most 42 = .ok (.goto (-31), 3) := by decide +kernel
theorem dX6_most_45 : decode cX6_most 45 = .ok (.iload_n 1, 1) := by decide +kernel
theorem dX6_most_46 : decode cX6_most 46 = .ok (.iconst 1, 1) := by decide +kernel
theorem dX6_most_47 : decode cX6_most 47 = .ok (.isub, 1) := by decide +kernel
theorem dX6_most_48 : decode cX6_most 48 = .ok (.ireturn, 1) := by decide +kernel
theorem dX6_unit_0 : decode cX6_unit 0 = .ok (.aload_n 0, 1) := by decide +kernel
theorem dX6_unit_1 : decode cX6_unit 1 = .ok (.iconst 0, 1) := by decide +kernel
theorem dX6_unit_2 : decode cX6_unit 2 = .ok (.putfield 47, 3) := by decide +kernel
theorem dX6_unit_5 : decode cX6_unit 5 = .ok (.aload_n 0, 1) := by decide +kernel
theorem dX6_unit_6 : decode cX6_unit 6 = .ok (.getfield 121, 3) := by decide +kernel
theorem dX6_unit_9 : decode cX6_unit 9 = .ok (.sipush 200, 3) := by decide +kernel
theorem dX6_unit_12 : decode cX6_unit 12 = .ok (.if_icmp .ge 19, 3) := by decide +kernel
theorem dX6_unit_15 : decode cX6_unit 15 = .ok (.iload_n 1, 1) := by decide +kernel
theorem dX6_unit_16 : decode cX6_unit 16 = .ok (.bipush 32, 2) := by decide +kernel
theorem dX6_unit_18 : decode cX6_unit 18 = .ok (.if_icmp .lt 13, 3) := by decide +kernel
theorem dX6_unit_21 : decode cX6_unit 21 = .ok (.iload_n 1, 1) := by decide +kernel
theorem dX6_unit_22 : decode cX6_unit 22 = .ok (.bipush 126, 2) := by decide +kernel
theorem dX6_unit_24 : decode cX6_unit 24 = .ok (.if_icmp .gt 7, 3) := by decide +kernel
theorem dX6_unit_27 : decode cX6_unit 27 = .ok (.iconst 1, 1) := by decide +kernel
theorem dX6_unit_28 : decode cX6_unit 28 = .ok (.goto 4, 3) := by decide +kernel
theorem dX6_unit_31 : decode cX6_unit 31 = .ok (.iconst 0, 1) := by decide +kernel
theorem dX6_unit_32 : decode cX6_unit 32 = .ok (.istore_n 2, 1) := by decide +kernel
theorem dX6_unit_33 : decode cX6_unit 33 = .ok (.iload_n 2, 1) := by decide +kernel
theorem dX6_unit_34 : decode cX6_unit 34 = .ok (.ifCond .eq 23, 3) := by decide +kernel
theorem dX6_unit_37 : decode cX6_unit 37 = .ok (.aload_n 0, 1) := by decide +kernel
theorem dX6_unit_38 : decode cX6_unit 38 = .ok (.getfield 38, 3) := by decide +kernel
theorem dX6_unit_41 : decode cX6_unit 41 = .ok (.aload_n 0, 1) := by decide +kernel
theorem dX6_unit_42 : decode cX6_unit 42 = .ok (.getfield 121, 3) := by decide +kernel
theorem dX6_unit_45 : decode cX6_unit 45 = .ok (.iload_n 1, 1) := by decide +kernel
theorem dX6_unit_46 : decode cX6_unit 46 = .ok (.iastore, 1) := by decide +kernel
theorem dX6_unit_47 : decode cX6_unit 47 = .ok (.aload_n 0, 1) := by decide +kernel
theorem dX6_unit_48 : decode cX6_unit 48 = .ok (.dup, 1) := by decide +kernel
theorem dX6_unit_49 : decode cX6_unit 49 = .ok (.getfield 121, 3) := by decide +kernel
theorem dX6_unit_52 : decode cX6_unit 52 = .ok (.iconst 1, 1) := by decide +kernel
theorem dX6_unit_53 : decode cX6_unit 53 = .ok (.iadd, 1) := by decide +kernel
theorem dX6_unit_54 : decode cX6_unit 54 = .ok (.putfield 121, 3) := by decide +kernel
theorem dX6_unit_57 : decode cX6_unit 57 = .ok (.iload_n 2, 1) := by decide +kernel
theorem dX6_unit_58 : decode cX6_unit 58 = .ok (.ireturn, 1) := by decide +kernel
theorem dX6_here_0 : decode cX6_here 0 = .ok (.aload_n 0, 1) := by decide +kernel
theorem dX6_here_1 : decode cX6_here 1 = .ok (.getfield 124, 3) := by decide +kernel
theorem dX6_here_4 : decode cX6_here 4 = .ok (.aload_n 0, 1) := by decide +kernel
theorem dX6_here_5 : decode cX6_here 5 = .ok (.getfield 121, 3) := by decide +kernel
theorem dX6_here_8 : decode cX6_here 8 = .ok (.if_icmp .ge 15, 3) := by decide +kernel
theorem dX6_here_11 : decode cX6_here 11 = .ok (.aload_n 0, 1) := by decide +kernel
theorem dX6_here_12 : decode cX6_here 12 = .ok (.getfield 38, 3) := by decide +kernel
theorem dX6_here_15 : decode cX6_here 15 = .ok (.aload_n 0, 1) := by decide +kernel
theorem dX6_here_16 : decode cX6_here 16 = .ok (.getfield 124, 3) := by decide +kernel
theorem dX6_here_19 : decode cX6_here 19 = .ok (.iaload, 1) := by decide +kernel
theorem dX6_here_20 : decode cX6_here 20 = .ok (.goto 4, 3) := by decide +kernel
theorem dX6_here_23 : decode cX6_here 23 = .ok (.iconst (-1), 1) := by decide +kernel
theorem dX6_here_24 : decode cX6_here 24 = .ok (.ireturn, 1) := by decide +kernel
theorem dX6_fail_0 : decode cX6_fail 0 = .ok (.aload_n 0, 1) := by decide +kernel
theorem dX6_fail_1 : decode cX6_fail 1 = .ok (.aload_n 0, 1) := by decide +kernel
theorem dX6_fail_2 : decode cX6_fail 2 = .ok (.getfield 127, 3) := by decide +kernel
theorem dX6_fail_5 : decode cX6_fail 5 = .ok (.ifCond .ge 10, 3) := by decide +kernel
theorem dX6_fail_8 : decode cX6_fail 8 = .ok (.aload_n 0, 1) := by decide +kernel
theorem dX6_fail_9 : decode cX6_fail 9 = .ok (.getfield 124, 3) := by decide +kernel
theorem dX6_fail_12 : decode cX6_fail 12 = .ok (.goto 7, 3) := by decide +kernel
theorem dX6_fail_15 : decode cX6_fail 15 = .ok (.aload_n 0, 1) := by decide +kernel
theorem dX6_fail_16 : decode cX6_fail 16 = .ok (.getfield 127, 3) := by decide +kernel
theorem dX6_fail_19 : decode cX6_fail 19 = .ok (.putfield 127, 3) := by decide +kernel
theorem dX6_fail_22 : decode cX6_fail 22 = .ok (.return_, 1) := by decide +kernel
theorem dX6_readNumber_0 : decode cX6_readNumber 0 = .ok (.iload_n 1, 1) := by decide +kernel
theorem dX6_readNumber_1 : decode cX6_readNumber 1 = .ok (.ifCond .eq 16, 3) := by decide +kernel
theorem dX6_readNumber_4 : decode cX6_readNumber 4 = .ok (.aload_n 0, 1) := by decide +kernel
theorem dX6_readNumber_5 : decode cX6_readNumber 5 = .ok (.invokevirtual 130, 3) := by decide +kernel
theorem dX6_readNumber_8 : decode cX6_readNumber 8 = .ok (.bipush 45, 2) := by decide +kernel
theorem dX6_readNumber_10 : decode cX6_readNumber 10 = .ok (.if_icmp .ne 7, 3) := by decide +kernel
theorem dX6_readNumber_13 : decode cX6_readNumber 13 = .ok (.iconst 1, 1) := by decide +kernel
theorem dX6_readNumber_14 : decode cX6_readNumber 14 = .ok (.goto 4, 3) := by decide +kernel
theorem dX6_readNumber_17 : decode cX6_readNumber 17 = .ok (.iconst 0, 1) := by decide +kernel
theorem dX6_readNumber_18 : decode cX6_readNumber 18 = .ok (.istore_n 2, 1) := by decide +kernel
theorem dX6_readNumber_19 : decode cX6_readNumber 19 = .ok (.aload_n 0, 1) := by decide +kernel
theorem dX6_readNumber_20 : decode cX6_readNumber 20 = .ok (.iload_n 2, 1) := by decide +kernel
theorem dX6_readNumber_21 : decode cX6_readNumber 21 = .ok (.ifCond .eq 12, 3) := by decide +kernel
theorem dX6_readNumber_24 : decode cX6_readNumber 24 = .ok (.aload_n 0, 1) := by decide +kernel
theorem dX6_readNumber_25 : decode cX6_readNumber 25 = .ok (.getfield 124, 3) := by decide +kernel
theorem dX6_readNumber_28 : decode cX6_readNumber 28 = .ok (.iconst 1, 1) := by decide +kernel
theorem dX6_readNumber_29 : decode cX6_readNumber 29 = .ok (.iadd, 1) := by decide +kernel
theorem dX6_readNumber_30 : decode cX6_readNumber 30 = .ok (.goto 7, 3) := by decide +kernel
theorem dX6_readNumber_33 : decode cX6_readNumber 33 = .ok (.aload_n 0, 1) := by decide +kernel
theorem dX6_readNumber_34 : decode cX6_readNumber 34 = .ok (.getfield 124, 3) := by decide +kernel
theorem dX6_readNumber_37 : decode cX6_readNumber 37 = .ok (.putfield 124, 3) := by decide +kernel
theorem dX6_readNumber_40 : decode cX6_readNumber 40 = .ok (.iconst 0, 1) := by decide +kernel
theorem dX6_readNumber_41 : decode cX6_readNumber 41 = .ok (.istore_n 3, 1) := by decide +kernel
theorem dX6_readNumber_42 : decode cX6_readNumber 42 = .ok (.iconst 0, 1) := by decide +kernel
theorem dX6_readNumber_43 : decode cX6_readNumber 43 = .ok (.istore 4, 2) := by decide +kernel
theorem dX6_readNumber_45 : decode cX6_readNumber 45 = .ok (.iload 4, 2) := by decide +kernel
theorem dX6_readNumber_47 : decode cX6_readNumber 47 = .ok (.iconst 5, 1) := by decide +kernel
theorem dX6_readNumber_48 : decode cX6_readNumber 48 = .ok (.if_icmp .ge 50, 3) := by decide +kernel
theorem dX6_readNumber_51 : decode cX6_readNumber 51 = .ok (.aload_n 0, 1) := by decide +kernel
theorem dX6_readNumber_52 : decode cX6_readNumber 52 = .ok (.invokevirtual 130, 3) := by decide +kernel
theorem dX6_readNumber_55 : decode cX6_readNumber 55 = .ok (.bipush 48, 2) := by decide +kernel
theorem dX6_readNumber_57 : decode cX6_readNumber 57 = .ok (.if_icmp .lt 41, 3) := by decide +kernel
theorem dX6_readNumber_60 : decode cX6_readNumber 60 = .ok (.aload_n 0, 1) := by decide +kernel
theorem dX6_readNumber_61 : decode cX6_readNumber 61 = .ok (.invokevirtual 130, 3) := by decide +kernel
theorem dX6_readNumber_64 : decode cX6_readNumber 64 = .ok (.bipush 57, 2) := by decide +kernel
theorem dX6_readNumber_66 : decode cX6_readNumber 66 = .ok (.if_icmp .gt 32, 3) := by decide +kernel
theorem dX6_readNumber_69 : decode cX6_readNumber 69 = .ok (.bipush 10, 2) := by decide +kernel
theorem dX6_readNumber_71 : decode cX6_readNumber 71 = .ok (.iload_n 3, 1) := by decide +kernel
theorem dX6_readNumber_72 : decode cX6_readNumber 72 = .ok (.imul, 1) := by decide +kernel
theorem dX6_readNumber_73 : decode cX6_readNumber 73 = .ok (.aload_n 0, 1) := by decide +kernel
theorem dX6_readNumber_74 : decode cX6_readNumber 74 = .ok (.invokevirtual 130, 3) := by decide +kernel
theorem dX6_readNumber_77 : decode cX6_readNumber 77 = .ok (.iadd, 1) := by decide +kernel
theorem dX6_readNumber_78 : decode cX6_readNumber 78 = .ok (.bipush 48, 2) := by decide +kernel
theorem dX6_readNumber_80 : decode cX6_readNumber 80 = .ok (.isub, 1) := by decide +kernel
theorem dX6_readNumber_81 : decode cX6_readNumber 81 = .ok (.istore_n 3, 1) := by decide +kernel
theorem dX6_readNumber_82 : decode cX6_readNumber 82 = .ok (.iinc 4 1, 3) := by decide +kernel
theorem dX6_readNumber_85 : decode cX6_readNumber 85 = .ok (.aload_n 0, 1) := by decide +kernel
theorem dX6_readNumber_86 : decode cX6_readNumber 86 = .ok (.dup, 1) := by decide +kernel
theorem dX6_readNumber_87 : decode cX6_readNumber 87 = .ok (.getfield 124, 3) := by decide +kernel
theorem dX6_readNumber_90 : decode cX6_readNumber 90 = .ok (.iconst 1, 1) := by decide +kernel
theorem dX6_readNumber_91 : decode cX6_readNumber 91 = .ok (.iadd, 1) := by decide +kernel
theorem dX6_readNumber_92 : decode cX6_readNumber 92 = .ok (.putfield 124, 3) := by decide +kernel
theorem dX6_readNumber_95 : decode cX6_readNumber 95 = .ok (.goto (-50), 3) := by decide +kernel
theorem dX6_readNumber_98 : decode cX6_readNumber 98 = .ok (.iload 4, 2) := by decide +kernel
theorem dX6_readNumber_100 : decode cX6_readNumber 100 = .ok (.ifCond .ne 7, 3) := by decide +kernel
theorem dX6_readNumber_103 : decode cX6_readNumber 103 = .ok (.aload_n 0, 1) := by decide +kernel
theorem dX6_readNumber_104 : decode cX6_readNumber 104 = .ok (.invokevirtual 134, 3) := by decide +kernel
theorem dX6_readNumber_107 : decode cX6_readNumber 107 = .ok (.iload_n 2, 1) := by decide +kernel
theorem dX6_readNumber_108 : decode cX6_readNumber 108 = .ok (.ifCond .eq 8, 3) := by decide +kernel
theorem dX6_readNumber_111 : decode cX6_readNumber 111 = .ok (.iload_n 3, 1) := by decide +kernel
theorem dX6_readNumber_112 : decode cX6_readNumber 112 = .ok (.ineg, 1) := by decide +kernel
theorem dX6_readNumber_113 : decode cX6_readNumber 113 = .ok (.goto 4, 3) := by decide +kernel
theorem dX6_readNumber_116 : decode cX6_readNumber 116 = .ok (.iload_n 3, 1) := by decide +kernel
theorem dX6_readNumber_117 : decode cX6_readNumber 117 = .ok (.ireturn, 1) := by decide +kernel
theorem dX6_readTest_0 : decode cX6_readTest 0 = .ok (.iconst 0, 1) := by decide +kernel
theorem dX6_readTest_1 : decode cX6_readTest 1 = .ok (.istore_n 2, 1) := by decide +kernel
theorem dX6_readTest_2 : decode cX6_readTest 2 = .ok (.iload_n 2, 1) := by decide +kernel
theorem dX6_readTest_3 : decode cX6_readTest 3 = .ok (.iconst 4, 1) := by decide +kernel
theorem dX6_readTest_4 : decode cX6_readTest 4 = .ok (.if_icmp .ge 74, 3) := by decide +kernel
theorem dX6_readTest_7 : decode cX6_readTest 7 = .ok (.aload_n 0, 1) := by decide +kernel
theorem dX6_readTest_8 : decode cX6_readTest 8 = .ok (.getfield 127, 3) := by decide +kernel
theorem dX6_readTest_11 : decode cX6_readTest 11 = .ok (.ifCond .ge 67, 3) := by decide +kernel
theorem dX6_readTest_14 : decode cX6_readTest 14 = .ok (.iload_n 2, 1) := by decide +kernel
theorem dX6_readTest_15 : decode cX6_readTest 15 = .ok (.ifCond .le 26, 3) := by decide +kernel
theorem dX6_readTest_18 : decode cX6_readTest 18 = .ok (.aload_n 0, 1) := by decide +kernel
theorem dX6_readTest_19 : decode cX6_readTest 19 = .ok (.invokevirtual 130, 3) := by decide +kernel
theorem dX6_readTest_22 : decode cX6_readTest 22 = .ok (.bipush 44, 2) := by decide +kernel
theorem dX6_readTest_24 : decode cX6_readTest 24 = .ok (.if_icmp .eq 7, 3) := by decide +kernel
theorem dX6_readTest_27 : decode cX6_readTest 27 = .ok (.aload_n 0, 1) := by decide +kernel
theorem dX6_readTest_28 : decode cX6_readTest 28 = .ok (.invokevirtual 134, 3) := by decide +kernel
theorem dX6_readTest_31 : decode cX6_readTest 31 = .ok (.aload_n 0, 1) := by decide +kernel
theorem dX6_readTest_32 : decode cX6_readTest 32 = .ok (.dup, 1) := by decide +kernel
theorem dX6_readTest_33 : decode cX6_readTest 33 = .ok (.getfield 124, 3) := by decide +kernel
theorem dX6_readTest_36 : decode cX6_readTest 36 = .ok (.iconst 1, 1) := by decide +kernel
theorem dX6_readTest_37 : decode cX6_readTest 37 = .ok (.iadd, 1) := by decide +kernel
theorem dX6_readTest_38 : decode cX6_readTest 38 = .ok (.putfield 124, 3) := by decide +kernel
theorem dX6_readTest_41 : decode cX6_readTest 41 = .ok (.aload_n 0, 1) := by decide +kernel
theorem dX6_readTest_42 : decode cX6_readTest 42 = .ok (.getfield 127, 3) := by decide +kernel
theorem dX6_readTest_45 : decode cX6_readTest 45 = .ok (.ifCond .ge 27, 3) := by decide +kernel
theorem dX6_readTest_48 : decode cX6_readTest 48 = .ok (.aload_n 0, 1) := by decide +kernel
theorem dX6_readTest_49 : decode cX6_readTest 49 = .ok (.getfield 44, 3) := by decide +kernel
theorem dX6_readTest_52 : decode cX6_readTest 52 = .ok (.iconst 4, 1) := by decide +kernel
theorem dX6_readTest_53 : decode cX6_readTest 53 = .ok (.iload_n 1, 1) := by decide +kernel
theorem dX6_readTest_54 : decode cX6_readTest 54 = .ok (.imul, 1) := by decide +kernel
theorem dX6_readTest_55 : decode cX6_readTest 55 = .ok (.iload_n 2, 1) := by decide +kernel
theorem dX6_readTest_56 : decode cX6_readTest 56 = .ok (.iadd, 1) := by decide +kernel
theorem dX6_readTest_57 : decode cX6_readTest 57 = .ok (.aload_n 0, 1) := by decide +kernel
theorem dX6_readTest_58 : decode cX6_readTest 58 = .ok (.iload_n 2, 1) := by decide +kernel
theorem dX6_readTest_59 : decode cX6_readTest 59 = .ok (.iconst 2, 1) := by decide +kernel
theorem dX6_readTest_60 : decode cX6_readTest 60 = .ok (.if_icmp .ge 7, 3) := by decide +kernel
theorem dX6_readTest_63 : decode cX6_readTest 63 = .ok (.iconst 1, 1) := by decide +kernel
theorem dX6_readTest_64 : decode cX6_readTest 64 = .ok (.goto 4, 3) := by decide +kernel
theorem dX6_readTest_67 : decode cX6_readTest 67 = .ok (.iconst 0, 1) := by decide +kernel
theorem dX6_readTest_68 : decode cX6_readTest 68 = .ok (.invokevirtual 137, 3) := by decide +kernel
theorem dX6_readTest_71 : decode cX6_readTest 71 = .ok (.iastore, 1) := by decide +kernel
theorem dX6_readTest_72 : decode cX6_readTest 72 = .ok (.iinc 2 1, 3) := by decide +kernel
theorem dX6_readTest_75 : decode cX6_readTest 75 = .ok (.goto (-73), 3) := by decide +kernel
theorem dX6_readTest_78 : decode cX6_readTest 78 = .ok (.return_, 1) := by decide +kernel
theorem dX6_rules_0 : decode cX6_rules 0 = .ok (.aload_n 0, 1) := by decide +kernel
theorem dX6_rules_1 : decode cX6_rules 1 = .ok (.iconst 0, 1) := by decide +kernel
theorem dX6_rules_2 : decode cX6_rules 2 = .ok (.putfield 47, 3) := by decide +kernel
theorem dX6_rules_5 : decode cX6_rules 5 = .ok (.aload_n 0, 1) := by decide +kernel
theorem dX6_rules_6 : decode cX6_rules 6 = .ok (.iconst 0, 1) := by decide +kernel
theorem dX6_rules_7 : decode cX6_rules 7 = .ok (.putfield 124, 3) := by decide +kernel
theorem dX6_rules_10 : decode cX6_rules 10 = .ok (.aload_n 0, 1) := by decide +kernel
theorem dX6_rules_11 : decode cX6_rules 11 = .ok (.iconst (-1), 1) := by decide +kernel
theorem dX6_rules_12 : decode cX6_rules 12 = .ok (.putfield 127, 3) := by decide +kernel
theorem dX6_rules_15 : decode cX6_rules 15 = .ok (.iconst 0, 1) := by decide +kernel
theorem dX6_rules_16 : decode cX6_rules 16 = .ok (.istore_n 1, 1) := by decide +kernel
theorem dX6_rules_17 : decode cX6_rules 17 = .ok (.aload_n 0, 1) := by decide +kernel
theorem dX6_rules_18 : decode cX6_rules 18 = .ok (.iconst 0, 1) := by decide +kernel
theorem dX6_rules_19 : decode cX6_rules 19 = .ok (.invokevirtual 141, 3) := by decide +kernel
theorem dX6_rules_22 : decode cX6_rules 22 = .ok (.iinc 1 1, 3) := by decide +kernel
theorem dX6_rules_25 : decode cX6_rules 25 = .ok (.aload_n 0, 1) := by decide +kernel
theorem dX6_rules_26 : decode cX6_rules 26 = .ok (.getfield 127, 3) := by decide +kernel
theorem dX6_rules_29 : decode cX6_rules 29 = .ok (.ifCond .ge 61, 3) := by decide +kernel
theorem dX6_rules_32 : decode cX6_rules 32 = .ok (.aload_n 0, 1) := by decide +kernel
theorem dX6_rules_33 : decode cX6_rules 33 = .ok (.getfield 124, 3) := by decide +kernel
theorem dX6_rules_36 : decode cX6_rules 36 = .ok (.aload_n 0, 1) := by decide +kernel
theorem dX6_rules_37 : decode cX6_rules 37 = .ok (.getfield 121, 3) := by decide +kernel
theorem dX6_rules_40 : decode cX6_rules 40 = .ok (.if_icmp .ge 50, 3) := by decide +kernel
theorem dX6_rules_43 : decode cX6_rules 43 = .ok (.aload_n 0, 1) := by decide +kernel
theorem dX6_rules_44 : decode cX6_rules 44 = .ok (.invokevirtual 130, 3) := by decide +kernel
theorem dX6_rules_47 : decode cX6_rules 47 = .ok (.bipush 59, 2) := by decide +kernel
theorem dX6_rules_49 : decode cX6_rules 49 = .ok (.if_icmp .ne 9, 3) := by decide +kernel
theorem dX6_rules_52 : decode cX6_rules 52 = .ok (.iload_n 1, 1) := by decide +kernel
theorem dX6_rules_53 : decode cX6_rules 53 = .ok (.bipush 12, 2) := by decide +kernel
theorem dX6_rules_55 : decode cX6_rules 55 = .ok (.if_icmp .ne 7, 3) := by decide +kernel
theorem dX6_rules_58 : decode cX6_rules 58 = .ok (.aload_n 0, 1) := by decide +kernel
theorem dX6_rules_59 : decode cX6_rules 59 = .ok (.invokevirtual 134, 3) := by decide +kernel
theorem dX6_rules_62 : decode cX6_rules 62 = .ok (.aload_n 0, 1) := by decide +kernel
theorem dX6_rules_63 : decode cX6_rules 63 = .ok (.dup, 1) := by decide +kernel
theorem dX6_rules_64 : decode cX6_rules 64 = .ok (.getfield 124, 3) := by decide +kernel
theorem dX6_rules_67 : decode cX6_rules 67 = .ok (.iconst 1, 1) := by decide +kernel
theorem dX6_rules_68 : decode cX6_rules 68 = .ok (.iadd, 1) := by decide +kernel
theorem dX6_rules_69 : decode cX6_rules 69 = .ok (.putfield 124, 3) := by decide +kernel
theorem dX6_rules_72 : decode cX6_rules 72 = .ok (.aload_n 0, 1) := by decide +kernel
theorem dX6_rules_73 : decode cX6_rules 73 = .ok (.getfield 127, 3) := by decide +kernel
theorem dX6_rules_76 : decode cX6_rules 76 = .ok (.ifCond .ge (-51), 3) := by decide +kernel
theorem dX6_rules_79 : decode cX6_rules 79 = .ok (.aload_n 0, 1) := by decide +kernel
theorem dX6_rules_80 : decode cX6_rules 80 = .ok (.iload_n 1, 1) := by decide +kernel
theorem dX6_rules_81 : decode cX6_rules 81 = .ok (.invokevirtual 141, 3) := by decide +kernel
theorem dX6_rules_84 : decode cX6_rules 84 = .ok (.iinc 1 1, 3) := by decide +kernel
theorem dX6_rules_87 : decode cX6_rules 87 = .ok (.goto (-62), 3) := by decide +kernel
theorem dX6_rules_90 : decode cX6_rules 90 = .ok (.aload_n 0, 1) := by decide +kernel
theorem dX6_rules_91 : decode cX6_rules 91 = .ok (.iconst 0, 1) := by decide +kernel
theorem dX6_rules_92 : decode cX6_rules 92 = .ok (.putfield 121, 3) := by decide +kernel
theorem dX6_rules_95 : decode cX6_rules 95 = .ok (.aload_n 0, 1) := by decide +kernel
theorem dX6_rules_96 : decode cX6_rules 96 = .ok (.getfield 127, 3) := by decide +kernel
theorem dX6_rules_99 : decode cX6_rules 99 = .ok (.ifCond .lt 10, 3) := by decide +kernel
theorem dX6_rules_102 : decode cX6_rules 102 = .ok (.iconst (-1), 1) := by decide +kernel
theorem dX6_rules_103 : decode cX6_rules 103 = .ok (.aload_n 0, 1) := by decide +kernel
theorem dX6_rules_104 : decode cX6_rules 104 = .ok (.getfield 127, 3) := by decide +kernel
theorem dX6_rules_107 : decode cX6_rules 107 = .ok (.isub, 1) := by decide +kernel
theorem dX6_rules_108 : decode cX6_rules 108 = .ok (.ireturn, 1) := by decide +kernel
theorem dX6_rules_109 : decode cX6_rules 109 = .ok (.aload_n 0, 1) := by decide +kernel
theorem dX6_rules_110 : decode cX6_rules 110 = .ok (.iload_n 1, 1) := by decide +kernel
theorem dX6_rules_111 : decode cX6_rules 111 = .ok (.putfield 145, 3) := by decide +kernel
theorem dX6_rules_114 : decode cX6_rules 114 = .ok (.iconst 0, 1) := by decide +kernel
theorem dX6_rules_115 : decode cX6_rules 115 = .ok (.istore_n 2, 1) := by decide +kernel
theorem dX6_rules_116 : decode cX6_rules 116 = .ok (.iload_n 2, 1) := by decide +kernel
theorem dX6_rules_117 : decode cX6_rules 117 = .ok (.iconst 4, 1) := by decide +kernel
theorem dX6_rules_118 : decode cX6_rules 118 = .ok (.iload_n 1, 1) := by decide +kernel
theorem dX6_rules_119 : decode cX6_rules 119 = .ok (.imul, 1) := by decide +kernel
theorem dX6_rules_120 : decode cX6_rules 120 = .ok (.if_icmp .ge 21, 3) := by decide +kernel
theorem dX6_rules_123 : decode cX6_rules 123 = .ok (.aload_n 0, 1) := by decide +kernel
theorem dX6_rules_124 : decode cX6_rules 124 = .ok (.getfield 41, 3) := by decide +kernel
theorem dX6_rules_127 : decode cX6_rules 127 = .ok (.iload_n 2, 1) := by decide +kernel
theorem dX6_rules_128 : decode cX6_rules 128 = .ok (.aload_n 0, 1) := by decide +kernel
theorem dX6_rules_129 : decode cX6_rules 129 = .ok (.getfield 44, 3) := by decide +kernel
theorem dX6_rules_132 : decode cX6_rules 132 = .ok (.iload_n 2, 1) := by decide +kernel
theorem dX6_rules_133 : decode cX6_rules 133 = .ok (.iaload, 1) := by decide +kernel
theorem dX6_rules_134 : decode cX6_rules 134 = .ok (.iastore, 1) := by decide +kernel
theorem dX6_rules_135 : decode cX6_rules 135 = .ok (.iinc 2 1, 3) := by decide +kernel
theorem dX6_rules_138 : decode cX6_rules 138 = .ok (.goto (-22), 3) := by decide +kernel
theorem dX6_rules_141 : decode cX6_rules 141 = .ok (.iload_n 1, 1) := by decide +kernel
theorem dX6_rules_142 : decode cX6_rules 142 = .ok (.ireturn, 1) := by decide +kernel
theorem dX6_openIn_0 : decode cX6_openIn 0 = .ok (.aload_n 0, 1) := by decide +kernel
theorem dX6_openIn_1 : decode cX6_openIn 1 = .ok (.getfield 41, 3) := by decide +kernel
theorem dX6_openIn_4 : decode cX6_openIn 4 = .ok (.iconst 4, 1) := by decide +kernel
theorem dX6_openIn_5 : decode cX6_openIn 5 = .ok (.iload_n 1, 1) := by decide +kernel
theorem dX6_openIn_6 : decode cX6_openIn 6 = .ok (.imul, 1) := by decide +kernel
theorem dX6_openIn_7 : decode cX6_openIn 7 = .ok (.iconst 3, 1) := by decide +kernel
theorem dX6_openIn_8 : decode cX6_openIn 8 = .ok (.iadd, 1) := by decide +kernel
theorem dX6_openIn_9 : decode cX6_openIn 9 = .ok (.iaload, 1) := by decide +kernel
theorem dX6_openIn_10 : decode cX6_openIn 10 = .ok (.aload_n 0, 1) := by decide +kernel
theorem dX6_openIn_11 : decode cX6_openIn 11 = .ok (.getfield 74, 3) := by decide +kernel
theorem dX6_openIn_14 : decode cX6_openIn 14 = .ok (.if_icmp .le 10, 3) := by decide +kernel
theorem dX6_openIn_17 : decode cX6_openIn 17 = .ok (.aload_n 0, 1) := by decide +kernel
theorem dX6_openIn_18 : decode cX6_openIn 18 = .ok (.getfield 74, 3) := by decide +kernel
theorem dX6_openIn_21 : decode cX6_openIn 21 = .ok (.goto 13, 3) := by decide +kernel
theorem dX6_openIn_24 : decode cX6_openIn 24 = .ok (.aload_n 0, 1) := by decide +kernel
theorem dX6_openIn_25 : decode cX6_openIn 25 = .ok (.getfield 41, 3) := by decide +kernel
theorem dX6_openIn_28 : decode cX6_openIn 28 = .ok (.iconst 4, 1) := by decide +kernel
theorem dX6_openIn_29 : decode cX6_openIn 29 = .ok (.iload_n 1, 1) := by decide +kernel
theorem dX6_openIn_30 : decode cX6_openIn 30 = .ok (.imul, 1) := by decide +kernel
theorem dX6_openIn_31 : decode cX6_openIn 31 = .ok (.iconst 3, 1) := by decide +kernel
theorem dX6_openIn_32 : decode cX6_openIn 32 = .ok (.iadd, 1) := by decide +kernel
theorem dX6_openIn_33 : decode cX6_openIn 33 = .ok (.iaload, 1) := by decide +kernel
theorem dX6_openIn_34 : decode cX6_openIn 34 = .ok (.ireturn, 1) := by decide +kernel
theorem dX6_testAt_0 : decode cX6_testAt 0 = .ok (.aload_n 0, 1) := by decide +kernel
theorem dX6_testAt_1 : decode cX6_testAt 1 = .ok (.aload_n 0, 1) := by decide +kernel
theorem dX6_testAt_2 : decode cX6_testAt 2 = .ok (.iload_n 1, 1) := by decide +kernel
theorem dX6_testAt_3 : decode cX6_testAt 3 = .ok (.invokevirtual 148, 3) := by decide +kernel
theorem dX6_testAt_6 : decode cX6_testAt 6 = .ok (.aload_n 0, 1) := by decide +kernel
theorem dX6_testAt_7 : decode cX6_testAt 7 = .ok (.getfield 41, 3) := by decide +kernel
theorem dX6_testAt_10 : decode cX6_testAt 10 = .ok (.iconst 4, 1) := by decide +kernel
theorem dX6_testAt_11 : decode cX6_testAt 11 = .ok (.iload_n 1, 1) := by decide +kernel
theorem dX6_testAt_12 : decode cX6_testAt 12 = .ok (.imul, 1) := by decide +kernel
theorem dX6_testAt_13 : decode cX6_testAt 13 = .ok (.iaload, 1) := by decide +kernel
theorem dX6_testAt_14 : decode cX6_testAt 14 = .ok (.i2l, 1) := by decide +kernel
theorem dX6_testAt_15 : decode cX6_testAt 15 = .ok (.aload_n 0, 1) := by decide +kernel
theorem dX6_testAt_16 : decode cX6_testAt 16 = .ok (.getfield 41, 3) := by decide +kernel
theorem dX6_testAt_19 : decode cX6_testAt 19 = .ok (.iconst 4, 1) := by decide +kernel
theorem dX6_testAt_20 : decode cX6_testAt 20 = .ok (.iload_n 1, 1) := by decide +kernel
theorem dX6_testAt_21 : decode cX6_testAt 21 = .ok (.imul, 1) := by decide +kernel
theorem dX6_testAt_22 : decode cX6_testAt 22 = .ok (.iconst 1, 1) := by decide +kernel
theorem dX6_testAt_23 : decode cX6_testAt 23 = .ok (.iadd, 1) := by decide +kernel
theorem dX6_testAt_24 : decode cX6_testAt 24 = .ok (.iaload, 1) := by decide +kernel
theorem dX6_testAt_25 : decode cX6_testAt 25 = .ok (.i2l, 1) := by decide +kernel
theorem dX6_testAt_26 : decode cX6_testAt 26 = .ok (.aload_n 0, 1) := by decide +kernel
theorem dX6_testAt_27 : decode cX6_testAt 27 = .ok (.getfield 41, 3) := by decide +kernel
theorem dX6_testAt_30 : decode cX6_testAt 30 = .ok (.iconst 4, 1) := by decide +kernel
theorem dX6_testAt_31 : decode cX6_testAt 31 = .ok (.iload_n 1, 1) := by decide +kernel
theorem dX6_testAt_32 : decode cX6_testAt 32 = .ok (.imul, 1) := by decide +kernel
theorem dX6_testAt_33 : decode cX6_testAt 33 = .ok (.iconst 2, 1) := by decide +kernel
theorem dX6_testAt_34 : decode cX6_testAt 34 = .ok (.iadd, 1) := by decide +kernel
theorem dX6_testAt_35 : decode cX6_testAt 35 = .ok (.iaload, 1) := by decide +kernel
theorem dX6_testAt_36 : decode cX6_testAt 36 = .ok (.i2l, 1) := by decide +kernel
theorem dX6_testAt_37 : decode cX6_testAt 37 = .ok (.invokevirtual 117, 3) := by decide +kernel
theorem dX6_testAt_40 : decode cX6_testAt 40 = .ok (.ireturn, 1) := by decide +kernel
theorem dX6_test_0 : decode cX6_test 0 = .ok (.aload_n 0, 1) := by decide +kernel
theorem dX6_test_1 : decode cX6_test 1 = .ok (.iload_n 1, 1) := by decide +kernel
theorem dX6_test_2 : decode cX6_test 2 = .ok (.ifCond .lt 11, 3) := by decide +kernel
theorem dX6_test_5 : decode cX6_test 5 = .ok (.iload_n 1, 1) := by decide +kernel
theorem dX6_test_6 : decode cX6_test 6 = .ok (.aload_n 0, 1) := by decide +kernel
theorem dX6_test_7 : decode cX6_test 7 = .ok (.getfield 145, 3) := by decide +kernel
theorem dX6_test_10 : decode cX6_test 10 = .ok (.if_icmp .lt 7, 3) := by decide +kernel
theorem dX6_test_13 : decode cX6_test 13 = .ok (.iconst 1, 1) := by decide +kernel
theorem dX6_test_14 : decode cX6_test 14 = .ok (.goto 33, 3) := by decide +kernel
theorem dX6_test_17 : decode cX6_test 17 = .ok (.iload_n 2, 1) := by decide +kernel
theorem dX6_test_18 : decode cX6_test 18 = .ok (.ifCond .lt 8, 3) := by decide +kernel
theorem dX6_test_21 : decode cX6_test 21 = .ok (.iload_n 2, 1) := by decide +kernel
theorem dX6_test_22 : decode cX6_test 22 = .ok (.iconst 2, 1) := by decide +kernel
theorem dX6_test_23 : decode cX6_test 23 = .ok (.if_icmp .le 7, 3) := by decide +kernel
theorem dX6_test_26 : decode cX6_test 26 = .ok (.iconst 2, 1) := by decide +kernel
theorem dX6_test_27 : decode cX6_test 27 = .ok (.goto 20, 3) := by decide +kernel
theorem dX6_test_30 : decode cX6_test 30 = .ok (.iload_n 2, 1) := by decide +kernel
theorem dX6_test_31 : decode cX6_test 31 = .ok (.ifCond .ne 15, 3) := by decide +kernel
theorem dX6_test_34 : decode cX6_test 34 = .ok (.aload_n 0, 1) := by decide +kernel
theorem dX6_test_35 : decode cX6_test 35 = .ok (.getfield 95, 3) := by decide +kernel
theorem dX6_test_38 : decode cX6_test 38 = .ok (.iconst 3, 1) := by decide +kernel
theorem dX6_test_39 : decode cX6_test 39 = .ok (.if_icmp .ge 7, 3) := by decide +kernel
theorem dX6_test_42 : decode cX6_test 42 = .ok (.iconst 3, 1) := by decide +kernel
theorem dX6_test_43 : decode cX6_test 43 = .ok (.goto 4, 3) := by decide +kernel
theorem dX6_test_46 : decode cX6_test 46 = .ok (.iconst 0, 1) := by decide +kernel
theorem dX6_test_47 : decode cX6_test 47 = .ok (.putfield 47, 3) := by decide +kernel
theorem dX6_test_50 : decode cX6_test 50 = .ok (.aload_n 0, 1) := by decide +kernel
theorem dX6_test_51 : decode cX6_test 51 = .ok (.getfield 47, 3) := by decide +kernel
theorem dX6_test_54 : decode cX6_test 54 = .ok (.ifCond .le 5, 3) := by decide +kernel
theorem dX6_test_57 : decode cX6_test 57 = .ok (.iconst 0, 1) := by decide +kernel
theorem dX6_test_58 : decode cX6_test 58 = .ok (.ireturn, 1) := by decide +kernel
theorem dX6_test_59 : decode cX6_test 59 = .ok (.iload_n 2, 1) := by decide +kernel
theorem dX6_test_60 : decode cX6_test 60 = .ok (.ifCond .ne 11, 3) := by decide +kernel
theorem dX6_test_63 : decode cX6_test 63 = .ok (.aload_n 0, 1) := by decide +kernel
theorem dX6_test_64 : decode cX6_test 64 = .ok (.iload_n 1, 1) := by decide +kernel
theorem dX6_test_65 : decode cX6_test 65 = .ok (.invokevirtual 151, 3) := by decide +kernel
theorem dX6_test_68 : decode cX6_test 68 = .ok (.goto 26, 3) := by decide +kernel
theorem dX6_test_71 : decode cX6_test 71 = .ok (.iload_n 2, 1) := by decide +kernel
theorem dX6_test_72 : decode cX6_test 72 = .ok (.iconst 1, 1) := by decide +kernel
theorem dX6_test_73 : decode cX6_test 73 = .ok (.if_icmp .ne 16, 3) := by decide +kernel
theorem dX6_test_76 : decode cX6_test 76 = .ok (.aload_n 0, 1) := by decide +kernel
theorem dX6_test_77 : decode cX6_test 77 = .ok (.getfield 41, 3) := by decide +kernel
theorem dX6_test_80 : decode cX6_test 80 = .ok (.iconst 4, 1) := by decide +kernel
theorem dX6_test_81 : decode cX6_test 81 = .ok (.iload_n 1, 1) := by decide +kernel
theorem dX6_test_82 : decode cX6_test 82 = .ok (.imul, 1) := by decide +kernel
theorem dX6_test_83 : decode cX6_test 83 = .ok (.iconst 2, 1) := by decide +kernel
theorem dX6_test_84 : decode cX6_test 84 = .ok (.iadd, 1) := by decide +kernel
theorem dX6_test_85 : decode cX6_test 85 = .ok (.iaload, 1) := by decide +kernel
theorem dX6_test_86 : decode cX6_test 86 = .ok (.goto 8, 3) := by decide +kernel
theorem dX6_test_89 : decode cX6_test 89 = .ok (.aload_n 0, 1) := by decide +kernel
theorem dX6_test_90 : decode cX6_test 90 = .ok (.iload_n 1, 1) := by decide +kernel
theorem dX6_test_91 : decode cX6_test 91 = .ok (.invokevirtual 148, 3) := by decide +kernel
theorem dX6_test_94 : decode cX6_test 94 = .ok (.ireturn, 1) := by decide +kernel
theorem dX6_anchor_0 : decode cX6_anchor 0 = .ok (.aload_n 0, 1) := by decide +kernel
theorem dX6_anchor_1 : decode cX6_anchor 1 = .ok (.invokevirtual 113, 3) := by decide +kernel
theorem dX6_anchor_4 : decode cX6_anchor 4 = .ok (.ifCond .eq 5, 3) := by decide +kernel
theorem dX6_anchor_7 : decode cX6_anchor 7 = .ok (.iconst 0, 1) := by decide +kernel
theorem dX6_anchor_8 : decode cX6_anchor 8 = .ok (.ireturn, 1) := by decide +kernel
theorem dX6_anchor_9 : decode cX6_anchor 9 = .ok (.iconst 0, 1) := by decide +kernel
theorem dX6_anchor_10 : decode cX6_anchor 10 = .ok (.istore_n 1, 1) := by decide +kernel
theorem dX6_anchor_11 : decode cX6_anchor 11 = .ok (.iconst 0, 1) := by decide +kernel
theorem dX6_anchor_12 : decode cX6_anchor 12 = .ok (.istore_n 2, 1) := by decide +kernel
theorem dX6_anchor_13 : decode cX6_anchor 13 = .ok (.iload_n 2, 1) := by decide +kernel
theorem dX6_anchor_14 : decode cX6_anchor 14 = .ok (.aload_n 0, 1) := by decide +kernel
theorem dX6_anchor_15 : decode cX6_anchor 15 = .ok (.getfield 145, 3) := by decide +kernel
theorem dX6_anchor_18 : decode cX6_anchor 18 = .ok (.if_icmp .ge 27, 3) := by decide +kernel
theorem dX6_anchor_21 : decode cX6_anchor 21 = .ok (.iload_n 1, 1) := by decide +kernel
theorem dX6_anchor_22 : decode cX6_anchor 22 = .ok (.ifCond .ne 11, 3) := by decide +kernel
theorem dX6_anchor_25 : decode cX6_anchor 25 = .ok (.aload_n 0, 1) := by decide +kernel
theorem dX6_anchor_26 : decode cX6_anchor 26 = .ok (.iload_n 2, 1) := by decide +kernel
theorem dX6_anchor_27 : decode cX6_anchor 27 = .ok (.invokevirtual 151, 3) := by decide +kernel
theorem dX6_anchor_30 : decode cX6_anchor 30 = .ok (.ifCond .le 7, 3) := by decide +kernel
theorem dX6_anchor_33 : decode cX6_anchor 33 = .ok (.iconst 1, 1) := by decide +kernel
theorem dX6_anchor_34 : decode cX6_anchor 34 = .ok (.goto 4, 3) := by decide +kernel
theorem dX6_anchor_37 : decode cX6_anchor 37 = .ok (.iconst 0, 1) := by decide +kernel
theorem dX6_anchor_38 : decode cX6_anchor 38 = .ok (.istore_n 1, 1) := by decide +kernel
theorem dX6_anchor_39 : decode cX6_anchor 39 = .ok (.iinc 2 1, 3) := by decide +kernel
theorem dX6_anchor_42 : decode cX6_anchor 42 = .ok (.goto (-29), 3) := by decide +kernel
theorem dX6_anchor_45 : decode cX6_anchor 45 = .ok (.iload_n 1, 1) := by decide +kernel
theorem dX6_anchor_46 : decode cX6_anchor 46 = .ok (.ireturn, 1) := by decide +kernel
theorem dX6_cross_0 : decode cX6_cross 0 = .ok (.aload_n 0, 1) := by decide +kernel
theorem dX6_cross_1 : decode cX6_cross 1 = .ok (.getfield 25, 3) := by decide +kernel
theorem dX6_cross_4 : decode cX6_cross 4 = .ok (.iload_n 1, 1) := by decide +kernel
theorem dX6_cross_5 : decode cX6_cross 5 = .ok (.laload, 1) := by decide +kernel
theorem dX6_cross_6 : decode cX6_cross 6 = .ok (.aload_n 0, 1) := by decide +kernel
theorem dX6_cross_7 : decode cX6_cross 7 = .ok (.getfield 25, 3) := by decide +kernel
theorem dX6_cross_10 : decode cX6_cross 10 = .ok (.iconst 0, 1) := by decide +kernel
theorem dX6_cross_11 : decode cX6_cross 11 = .ok (.laload, 1) := by decide +kernel
theorem dX6_cross_12 : decode cX6_cross 12 = .ok (.lsub, 1) := by decide +kernel
theorem dX6_cross_13 : decode cX6_cross 13 = .ok (.aload_n 0, 1) := by decide +kernel
theorem dX6_cross_14 : decode cX6_cross 14 = .ok (.getfield 28, 3) := by decide +kernel
theorem dX6_cross_17 : decode cX6_cross 17 = .ok (.iload_n 2, 1) := by decide +kernel
theorem dX6_cross_18 : decode cX6_cross 18 = .ok (.laload, 1) := by decide +kernel
theorem dX6_cross_19 : decode cX6_cross 19 = .ok (.aload_n 0, 1) := by decide +kernel
theorem dX6_cross_20 : decode cX6_cross 20 = .ok (.getfield 28, 3) := by decide +kernel
theorem dX6_cross_23 : decode cX6_cross 23 = .ok (.iconst 0, 1) := by decide +kernel
theorem dX6_cross_24 : decode cX6_cross 24 = .ok (.laload, 1) := by decide +kernel
theorem dX6_cross_25 : decode cX6_cross 25 = .ok (.lsub, 1) := by decide +kernel
theorem dX6_cross_26 : decode cX6_cross 26 = .ok (.lmul, 1) := by decide +kernel
theorem dX6_cross_27 : decode cX6_cross 27 = .ok (.aload_n 0, 1) := by decide +kernel
theorem dX6_cross_28 : decode cX6_cross 28 = .ok (.getfield 28, 3) := by decide +kernel
theorem dX6_cross_31 : decode cX6_cross 31 = .ok (.iload_n 1, 1) := by decide +kernel
theorem dX6_cross_32 : decode cX6_cross 32 = .ok (.laload, 1) := by decide +kernel
theorem dX6_cross_33 : decode cX6_cross 33 = .ok (.aload_n 0, 1) := by decide +kernel
theorem dX6_cross_34 : decode cX6_cross 34 = .ok (.getfield 28, 3) := by decide +kernel
theorem dX6_cross_37 : decode cX6_cross 37 = .ok (.iconst 0, 1) := by decide +kernel
theorem dX6_cross_38 : decode cX6_cross 38 = .ok (.laload, 1) := by decide +kernel
theorem dX6_cross_39 : decode cX6_cross 39 = .ok (.lsub, 1) := by decide +kernel
theorem dX6_cross_40 : decode cX6_cross 40 = .ok (.aload_n 0, 1) := by decide +kernel
theorem dX6_cross_41 : decode cX6_cross 41 = .ok (.getfield 25, 3) := by decide +kernel
theorem dX6_cross_44 : decode cX6_cross 44 = .ok (.iload_n 2, 1) := by decide +kernel
theorem dX6_cross_45 : decode cX6_cross 45 = .ok (.laload, 1) := by decide +kernel
theorem dX6_cross_46 : decode cX6_cross 46 = .ok (.aload_n 0, 1) := by decide +kernel
theorem dX6_cross_47 : decode cX6_cross 47 = .ok (.getfield 25, 3) := by decide +kernel
theorem dX6_cross_50 : decode cX6_cross 50 = .ok (.iconst 0, 1) := by decide +kernel
theorem dX6_cross_51 : decode cX6_cross 51 = .ok (.laload, 1) := by decide +kernel
theorem dX6_cross_52 : decode cX6_cross 52 = .ok (.lsub, 1) := by decide +kernel
theorem dX6_cross_53 : decode cX6_cross 53 = .ok (.lmul, 1) := by decide +kernel
theorem dX6_cross_54 : decode cX6_cross 54 = .ok (.lsub, 1) := by decide +kernel
theorem dX6_cross_55 : decode cX6_cross 55 = .ok (.lreturn, 1) := by decide +kernel
theorem dX6_wobble_0 : decode cX6_wobble 0 = .ok (.lload_n 1, 1) := by decide +kernel
theorem dX6_wobble_1 : decode cX6_wobble 1 = .ok (.ldc2_w 154, 3) := by decide +kernel
theorem dX6_wobble_4 : decode cX6_wobble 4 = .ok (.ldc2_w 156, 3) := by decide +kernel
theorem dX6_wobble_7 : decode cX6_wobble 7 = .ok (.invokestatic 61, 3) := by decide +kernel
theorem dX6_wobble_10 : decode cX6_wobble 10 = .ok (.ifCond .eq 48, 3) := by decide +kernel
theorem dX6_wobble_13 : decode cX6_wobble 13 = .ok (.lload_n 3, 1) := by decide +kernel
theorem dX6_wobble_14 : decode cX6_wobble 14 = .ok (.ldc2_w 154, 3) := by decide +kernel
theorem dX6_wobble_17 : decode cX6_wobble 17 = .ok (.ldc2_w 156, 3) := by decide +kernel
theorem dX6_wobble_20 : decode cX6_wobble 20 = .ok (.invokestatic 61, 3) := by decide +kernel
theorem dX6_wobble_23 : decode cX6_wobble 23 = .ok (.ifCond .eq 35, 3) := by decide +kernel
theorem dX6_wobble_26 : decode cX6_wobble 26 = .ok (.lload 5, 2) := by decide +kernel
theorem dX6_wobble_28 : decode cX6_wobble 28 = .ok (.ldc2_w 154, 3) := by decide +kernel
theorem dX6_wobble_31 : decode cX6_wobble 31 = .ok (.ldc2_w 156, 3) := by decide +kernel
theorem dX6_wobble_34 : decode cX6_wobble 34 = .ok (.invokestatic 61, 3) := by decide +kernel
theorem dX6_wobble_37 : decode cX6_wobble 37 = .ok (.ifCond .eq 21, 3) := by decide +kernel
theorem dX6_wobble_40 : decode cX6_wobble 40 = .ok (.lload 7, 2) := by decide +kernel
theorem dX6_wobble_42 : decode cX6_wobble 42 = .ok (.ldc2_w 154, 3) := by decide +kernel
theorem dX6_wobble_45 : decode cX6_wobble 45 = .ok (.ldc2_w 156, 3) := by decide +kernel
theorem dX6_wobble_48 : decode cX6_wobble 48 = .ok (.invokestatic 61, 3) := by decide +kernel
theorem dX6_wobble_51 : decode cX6_wobble 51 = .ok (.ifCond .eq 7, 3) := by decide +kernel
theorem dX6_wobble_54 : decode cX6_wobble 54 = .ok (.iconst 1, 1) := by decide +kernel
theorem dX6_wobble_55 : decode cX6_wobble 55 = .ok (.goto 4, 3) := by decide +kernel
theorem dX6_wobble_58 : decode cX6_wobble 58 = .ok (.iconst 0, 1) := by decide +kernel
theorem dX6_wobble_59 : decode cX6_wobble 59 = .ok (.istore 9, 2) := by decide +kernel
theorem dX6_wobble_61 : decode cX6_wobble 61 = .ok (.aload_n 0, 1) := by decide +kernel
theorem dX6_wobble_62 : decode cX6_wobble 62 = .ok (.aload_n 0, 1) := by decide +kernel
theorem dX6_wobble_63 : decode cX6_wobble 63 = .ok (.getfield 68, 3) := by decide +kernel
theorem dX6_wobble_66 : decode cX6_wobble 66 = .ok (.iconst 4, 1) := by decide +kernel
theorem dX6_wobble_67 : decode cX6_wobble 67 = .ok (.if_icmp .lt 14, 3) := by decide +kernel
theorem dX6_wobble_70 : decode cX6_wobble 70 = .ok (.aload_n 0, 1) := by decide +kernel
theorem dX6_wobble_71 : decode cX6_wobble 71 = .ok (.iconst 1, 1) := by decide +kernel
theorem dX6_wobble_72 : decode cX6_wobble 72 = .ok (.iconst 2, 1) := by decide +kernel
theorem dX6_wobble_73 : decode cX6_wobble 73 = .ok (.invokevirtual 158, 3) := by decide +kernel
theorem dX6_wobble_76 : decode cX6_wobble 76 = .ok (.lconst 0, 1) := by decide +kernel
theorem dX6_wobble_77 : decode cX6_wobble 77 = .ok (.lcmp, 1) := by decide +kernel
theorem dX6_wobble_78 : decode cX6_wobble 78 = .ok (.ifCond .ne 7, 3) := by decide +kernel
theorem dX6_wobble_81 : decode cX6_wobble 81 = .ok (.iconst 1, 1) := by decide +kernel
theorem dX6_wobble_82 : decode cX6_wobble 82 = .ok (.goto 13, 3) := by decide +kernel
theorem dX6_wobble_85 : decode cX6_wobble 85 = .ok (.iload 9, 2) := by decide +kernel
theorem dX6_wobble_87 : decode cX6_wobble 87 = .ok (.ifCond .eq 7, 3) := by decide +kernel
theorem dX6_wobble_90 : decode cX6_wobble 90 = .ok (.iconst 0, 1) := by decide +kernel
theorem dX6_wobble_91 : decode cX6_wobble 91 = .ok (.goto 4, 3) := by decide +kernel
theorem dX6_wobble_94 : decode cX6_wobble 94 = .ok (.iconst 2, 1) := by decide +kernel
theorem dX6_wobble_95 : decode cX6_wobble 95 = .ok (.putfield 47, 3) := by decide +kernel
theorem dX6_wobble_98 : decode cX6_wobble 98 = .ok (.aload_n 0, 1) := by decide +kernel
theorem dX6_wobble_99 : decode cX6_wobble 99 = .ok (.getfield 47, 3) := by decide +kernel
theorem dX6_wobble_102 : decode cX6_wobble 102 = .ok (.ifCond .le 5, 3) := by decide +kernel
theorem dX6_wobble_105 : decode cX6_wobble 105 = .ok (.dconst 0, 1) := by decide +kernel
theorem dX6_wobble_106 : decode cX6_wobble 106 = .ok (.dreturn, 1) := by decide +kernel
theorem dX6_wobble_107 : decode cX6_wobble 107 = .ok (.lload_n 3, 1) := by decide +kernel
theorem dX6_wobble_108 : decode cX6_wobble 108 = .ok (.lload_n 1, 1) := by decide +kernel
theorem dX6_wobble_109 : decode cX6_wobble 109 = .ok (.lsub, 1) := by decide +kernel
theorem dX6_wobble_110 : decode cX6_wobble 110 = .ok (.aload_n 0, 1) := by decide +kernel
theorem dX6_wobble_111 : decode cX6_wobble 111 = .ok (.iconst 3, 1) := by decide +kernel
theorem dX6_wobble_112 : decode cX6_wobble 112 = .ok (.iconst 2, 1) := by decide +kernel
theorem dX6_wobble_113 : decode cX6_wobble 113 = .ok (.invokevirtual 158, 3) := by decide +kernel
theorem dX6_wobble_116 : decode cX6_wobble 116 = .ok (.lmul, 1) := by decide +kernel
theorem dX6_wobble_117 : decode cX6_wobble 117 = .ok (.lload 5, 2) := by decide +kernel
theorem dX6_wobble_119 : decode cX6_wobble 119 = .ok (.lload_n 1, 1) := by decide +kernel
theorem dX6_wobble_120 : decode cX6_wobble 120 = .ok (.lsub, 1) := by decide +kernel
theorem dX6_wobble_121 : decode cX6_wobble 121 = .ok (.aload_n 0, 1) := by decide +kernel
theorem dX6_wobble_122 : decode cX6_wobble 122 = .ok (.iconst 1, 1) := by decide +kernel
theorem dX6_wobble_123 : decode cX6_wobble 123 = .ok (.iconst 3, 1) := by decide +kernel
theorem dX6_wobble_124 : decode cX6_wobble 124 = .ok (.invokevirtual 158, 3) := by decide +kernel
theorem dX6_wobble_127 : decode cX6_wobble 127 = .ok (.lmul, 1) := by decide +kernel
theorem dX6_wobble_128 : decode cX6_wobble 128 = .ok (.ladd, 1) := by decide +kernel
theorem dX6_wobble_129 : decode cX6_wobble 129 = .ok (.lstore 10, 2) := by decide +kernel
theorem dX6_wobble_131 : decode cX6_wobble 131 = .ok (.lload 7, 2) := by decide +kernel
theorem dX6_wobble_133 : decode cX6_wobble 133 = .ok (.lload_n 1, 1) := by decide +kernel
theorem dX6_wobble_134 : decode cX6_wobble 134 = .ok (.lsub, 1) := by decide +kernel
theorem dX6_wobble_135 : decode cX6_wobble 135 = .ok (.l2d, 1) := by decide +kernel
theorem dX6_wobble_136 : decode cX6_wobble 136 = .ok (.lload 10, 2) := by decide +kernel
theorem dX6_wobble_138 : decode cX6_wobble 138 = .ok (.l2d, 1) := by decide +kernel
theorem dX6_wobble_139 : decode cX6_wobble 139 = .ok (.aload_n 0, 1) := by decide +kernel
theorem dX6_wobble_140 : decode cX6_wobble 140 = .ok (.iconst 1, 1) := by decide +kernel
theorem dX6_wobble_141 : decode cX6_wobble 141 = .ok (.iconst 2, 1) := by decide +kernel
theorem dX6_wobble_142 : decode cX6_wobble 142 = .ok (.invokevirtual 158, 3) := by decide +kernel
theorem dX6_wobble_145 : decode cX6_wobble 145 = .ok (.l2d, 1) := by decide +kernel
theorem dX6_wobble_146 : decode cX6_wobble 146 = .ok (.ddiv, 1) := by decide +kernel
theorem dX6_wobble_147 : decode cX6_wobble 147 = .ok (.dsub, 1) := by decide +kernel
theorem dX6_wobble_148 : decode cX6_wobble 148 = .ok (.dstore 12, 2) := by decide +kernel
theorem dX6_wobble_150 : decode cX6_wobble 150 = .ok (.dload 12, 2) := by decide +kernel
theorem dX6_wobble_152 : decode cX6_wobble 152 = .ok (.dconst 0, 1) := by decide +kernel
theorem dX6_wobble_153 : decode cX6_wobble 153 = .ok (.dcmp .g, 1) := by decide +kernel
theorem dX6_wobble_154 : decode cX6_wobble 154 = .ok (.ifCond .ge 9, 3) := by decide +kernel
theorem dX6_wobble_157 : decode cX6_wobble 157 = .ok (.dload 12, 2) := by decide +kernel
theorem dX6_wobble_159 : decode cX6_wobble 159 = .ok (.dneg, 1) := by decide +kernel
theorem dX6_wobble_160 : decode cX6_wobble 160 = .ok (.goto 5, 3) := by decide +kernel
theorem dX6_wobble_163 : decode cX6_wobble 163 = .ok (.dload 12, 2) := by decide +kernel
theorem dX6_wobble_165 : decode cX6_wobble 165 = .ok (.dreturn, 1) := by decide +kernel
theorem dX6_isNumber_0 : decode cX6_isNumber 0 = .ok (.dload_n 0, 1) := by decide +kernel
theorem dX6_isNumber_1 : decode cX6_isNumber 1 = .ok (.dload_n 2, 1) := by decide +kernel
theorem dX6_isNumber_2 : decode cX6_isNumber 2 = .ok (.dcmp .l, 1) := by decide +kernel
theorem dX6_isNumber_3 : decode cX6_isNumber 3 = .ok (.ifCond .lt 14, 3) := by decide +kernel
theorem dX6_isNumber_6 : decode cX6_isNumber 6 = .ok (.dload_n 0, 1) := by decide +kernel
theorem dX6_isNumber_7 : decode cX6_isNumber 7 = .ok (.dload 4, 2) := by decide +kernel
theorem dX6_isNumber_9 : decode cX6_isNumber 9 = .ok (.dcmp .g, 1) := by decide +kernel
theorem dX6_isNumber_10 : decode cX6_isNumber 10 = .ok (.ifCond .gt 7, 3) := by decide +kernel
theorem dX6_isNumber_13 : decode cX6_isNumber 13 = .ok (.iconst 1, 1) := by decide +kernel
theorem dX6_isNumber_14 : decode cX6_isNumber 14 = .ok (.goto 4, 3) := by decide +kernel
theorem dX6_isNumber_17 : decode cX6_isNumber 17 = .ok (.iconst 0, 1) := by decide +kernel
theorem dX6_isNumber_18 : decode cX6_isNumber 18 = .ok (.ireturn, 1) := by decide +kernel
theorem dX6_bend_0 : decode cX6_bend 0 = .ok (.aload_n 0, 1) := by decide +kernel
theorem dX6_bend_1 : decode cX6_bend 1 = .ok (.dload 7, 2) := by decide +kernel
theorem dX6_bend_3 : decode cX6_bend 3 = .ok (.dconst 0, 1) := by decide +kernel
theorem dX6_bend_4 : decode cX6_bend 4 = .ok (.ldc2_w 162, 3) := by decide +kernel
theorem dX6_bend_7 : decode cX6_bend 7 = .ok (.invokestatic 164, 3) := by decide +kernel
theorem dX6_bend_10 : decode cX6_bend 10 = .ok (.ifCond .eq 45, 3) := by decide +kernel
theorem dX6_bend_13 : decode cX6_bend 13 = .ok (.dload_n 1, 1) := by decide +kernel
theorem dX6_bend_14 : decode cX6_bend 14 = .ok (.dconst 0, 1) := by decide +kernel
theorem dX6_bend_15 : decode cX6_bend 15 = .ok (.ldc2_w 162, 3) := by decide +kernel
theorem dX6_bend_18 : decode cX6_bend 18 = .ok (.invokestatic 164, 3) := by decide +kernel
theorem dX6_bend_21 : decode cX6_bend 21 = .ok (.ifCond .eq 34, 3) := by decide +kernel
theorem dX6_bend_24 : decode cX6_bend 24 = .ok (.dload_n 3, 1) := by decide +kernel
theorem dX6_bend_25 : decode cX6_bend 25 = .ok (.ldc2_w 168, 3) := by decide +kernel
theorem dX6_bend_28 : decode cX6_bend 28 = .ok (.ldc2_w 170, 3) := by decide +kernel
theorem dX6_bend_31 : decode cX6_bend 31 = .ok (.invokestatic 164, 3) := by decide +kernel
theorem dX6_bend_34 : decode cX6_bend 34 = .ok (.ifCond .eq 21, 3) := by decide +kernel
theorem dX6_bend_37 : decode cX6_bend 37 = .ok (.dload 5, 2) := by decide +kernel
theorem dX6_bend_39 : decode cX6_bend 39 = .ok (.ldc2_w 168, 3) := by decide +kernel
theorem dX6_bend_42 : decode cX6_bend 42 = .ok (.ldc2_w 170, 3) := by decide +kernel
theorem dX6_bend_45 : decode cX6_bend 45 = .ok (.invokestatic 164, 3) := by decide +kernel
theorem dX6_bend_48 : decode cX6_bend 48 = .ok (.ifCond .eq 7, 3) := by decide +kernel
theorem dX6_bend_51 : decode cX6_bend 51 = .ok (.iconst 0, 1) := by decide +kernel
theorem dX6_bend_52 : decode cX6_bend 52 = .ok (.goto 4, 3) := by decide +kernel
theorem dX6_bend_55 : decode cX6_bend 55 = .ok (.iconst 1, 1) := by decide +kernel
theorem dX6_bend_56 : decode cX6_bend 56 = .ok (.putfield 47, 3) := by decide +kernel
theorem dX6_bend_59 : decode cX6_bend 59 = .ok (.aload_n 0, 1) := by decide +kernel
theorem dX6_bend_60 : decode cX6_bend 60 = .ok (.getfield 47, 3) := by decide +kernel
theorem dX6_bend_63 : decode cX6_bend 63 = .ok (.ifCond .le 5, 3) := by decide +kernel
theorem dX6_bend_66 : decode cX6_bend 66 = .ok (.dconst 0, 1) := by decide +kernel
theorem dX6_bend_67 : decode cX6_bend 67 = .ok (.dreturn, 1) := by decide +kernel
theorem dX6_bend_68 : decode cX6_bend 68 = .ok (.dload_n 3, 1) := by decide +kernel
theorem dX6_bend_69 : decode cX6_bend 69 = .ok (.dload 5, 2) := by decide +kernel
theorem dX6_bend_71 : decode cX6_bend 71 = .ok (.dmul, 1) := by decide +kernel
theorem dX6_bend_72 : decode cX6_bend 72 = .ok (.dload 5, 2) := by decide +kernel
theorem dX6_bend_74 : decode cX6_bend 74 = .ok (.dmul, 1) := by decide +kernel
theorem dX6_bend_75 : decode cX6_bend 75 = .ok (.dload 5, 2) := by decide +kernel
theorem dX6_bend_77 : decode cX6_bend 77 = .ok (.dmul, 1) := by decide +kernel
theorem dX6_bend_78 : decode cX6_bend 78 = .ok (.dstore 9, 2) := by decide +kernel
theorem dX6_bend_80 : decode cX6_bend 80 = .ok (.ldc2_w 172, 3) := by decide +kernel
theorem dX6_bend_83 : decode cX6_bend 83 = .ok (.dload 7, 2) := by decide +kernel
theorem dX6_bend_85 : decode cX6_bend 85 = .ok (.dmul, 1) := by decide +kernel
theorem dX6_bend_86 : decode cX6_bend 86 = .ok (.dload_n 1, 1) := by decide +kernel
theorem dX6_bend_87 : decode cX6_bend 87 = .ok (.dmul, 1) := by decide +kernel
theorem dX6_bend_88 : decode cX6_bend 88 = .ok (.dload_n 1, 1) := by decide +kernel
theorem dX6_bend_89 : decode cX6_bend 89 = .ok (.dmul, 1) := by decide +kernel
theorem dX6_bend_90 : decode cX6_bend 90 = .ok (.dload_n 1, 1) := by decide +kernel
theorem dX6_bend_91 : decode cX6_bend 91 = .ok (.dmul, 1) := by decide +kernel
theorem dX6_bend_92 : decode cX6_bend 92 = .ok (.dload 9, 2) := by decide +kernel
theorem dX6_bend_94 : decode cX6_bend 94 = .ok (.ddiv, 1) := by decide +kernel
theorem dX6_bend_95 : decode cX6_bend 95 = .ok (.dreturn, 1) := by decide +kernel
theorem dX6_creep_0 : decode cX6_creep 0 = .ok (.aload_n 0, 1) := by decide +kernel
theorem dX6_creep_1 : decode cX6_creep 1 = .ok (.iload_n 1, 1) := by decide +kernel
theorem dX6_creep_2 : decode cX6_creep 2 = .ok (.ifCond .lt 10, 3) := by decide +kernel
theorem dX6_creep_5 : decode cX6_creep 5 = .ok (.iload_n 1, 1) := by decide +kernel
theorem dX6_creep_6 : decode cX6_creep 6 = .ok (.sipush 1000, 3) := by decide +kernel
theorem dX6_creep_9 : decode cX6_creep 9 = .ok (.if_icmp .le 7, 3) := by decide +kernel
theorem dX6_creep_12 : decode cX6_creep 12 = .ok (.iconst 1, 1) := by decide +kernel
theorem dX6_creep_13 : decode cX6_creep 13 = .ok (.goto 4, 3) := by decide +kernel
theorem dX6_creep_16 : decode cX6_creep 16 = .ok (.iconst 0, 1) := by decide +kernel
theorem dX6_creep_17 : decode cX6_creep 17 = .ok (.putfield 47, 3) := by decide +kernel
theorem dX6_creep_20 : decode cX6_creep 20 = .ok (.aload_n 0, 1) := by decide +kernel
theorem dX6_creep_21 : decode cX6_creep 21 = .ok (.getfield 47, 3) := by decide +kernel
theorem dX6_creep_24 : decode cX6_creep 24 = .ok (.ifCond .le 7, 3) := by decide +kernel
theorem dX6_creep_27 : decode cX6_creep 27 = .ok (.dconst 0, 1) := by decide +kernel
theorem dX6_creep_28 : decode cX6_creep 28 = .ok (.goto 16, 3) := by decide +kernel
theorem dX6_creep_31 : decode cX6_creep 31 = .ok (.dconst 1, 1) := by decide +kernel
theorem dX6_creep_32 : decode cX6_creep 32 = .ok (.ldc2_w 174, 3) := by decide +kernel
theorem dX6_creep_35 : decode cX6_creep 35 = .ok (.iload_n 1, 1) := by decide +kernel
theorem dX6_creep_36 : decode cX6_creep 36 = .ok (.i2d, 1) := by decide +kernel
theorem dX6_creep_37 : decode cX6_creep 37 = .ok (.dmul, 1) := by decide +kernel
theorem dX6_creep_38 : decode cX6_creep 38 = .ok (.iload_n 1, 1) := by decide +kernel
theorem dX6_creep_39 : decode cX6_creep 39 = .ok (.iconst 2, 1) := by decide +kernel
theorem dX6_creep_40 : decode cX6_creep 40 = .ok (.iadd, 1) := by decide +kernel
theorem dX6_creep_41 : decode cX6_creep 41 = .ok (.i2d, 1) := by decide +kernel
theorem dX6_creep_42 : decode cX6_creep 42 = .ok (.ddiv, 1) := by decide +kernel
theorem dX6_creep_43 : decode cX6_creep 43 = .ok (.dadd, 1) := by decide +kernel
theorem dX6_creep_44 : decode cX6_creep 44 = .ok (.dreturn, 1) := by decide +kernel
theorem dX6_gap_0 : decode cX6_gap 0 = .ok (.aload_n 0, 1) := by decide +kernel
theorem dX6_gap_1 : decode cX6_gap 1 = .ok (.iconst 0, 1) := by decide +kernel
theorem dX6_gap_2 : decode cX6_gap 2 = .ok (.putfield 47, 3) := by decide +kernel
theorem dX6_gap_5 : decode cX6_gap 5 = .ok (.lload_n 1, 1) := by decide +kernel
theorem dX6_gap_6 : decode cX6_gap 6 = .ok (.ldc2_w 176, 3) := by decide +kernel
theorem dX6_gap_9 : decode cX6_gap 9 = .ok (.lcmp, 1) := by decide +kernel
theorem dX6_gap_10 : decode cX6_gap 10 = .ok (.ifCond .le 15, 3) := by decide +kernel
theorem dX6_gap_13 : decode cX6_gap 13 = .ok (.lload_n 1, 1) := by decide +kernel
theorem dX6_gap_14 : decode cX6_gap 14 = .ok (.ldc2_w 178, 3) := by decide +kernel
theorem dX6_gap_17 : decode cX6_gap 17 = .ok (.lcmp, 1) := by decide +kernel
theorem dX6_gap_18 : decode cX6_gap 18 = .ok (.ifCond .ge 7, 3) := by decide +kernel
theorem dX6_gap_21 : decode cX6_gap 21 = .ok (.iconst 1, 1) := by decide +kernel
theorem dX6_gap_22 : decode cX6_gap 22 = .ok (.goto 24, 3) := by decide +kernel
theorem dX6_gap_25 : decode cX6_gap 25 = .ok (.lload_n 1, 1) := by decide +kernel
theorem dX6_gap_26 : decode cX6_gap 26 = .ok (.ldc2_w 180, 3) := by decide +kernel
theorem dX6_gap_29 : decode cX6_gap 29 = .ok (.lcmp, 1) := by decide +kernel
theorem dX6_gap_30 : decode cX6_gap 30 = .ok (.ifCond .le 15, 3) := by decide +kernel
theorem dX6_gap_33 : decode cX6_gap 33 = .ok (.lload_n 1, 1) := by decide +kernel
theorem dX6_gap_34 : decode cX6_gap 34 = .ok (.ldc2_w 182, 3) := by decide +kernel
theorem dX6_gap_37 : decode cX6_gap 37 = .ok (.lcmp, 1) := by decide +kernel
theorem dX6_gap_38 : decode cX6_gap 38 = .ok (.ifCond .ge 7, 3) := by decide +kernel
theorem dX6_gap_41 : decode cX6_gap 41 = .ok (.iconst 2, 1) := by decide +kernel
theorem dX6_gap_42 : decode cX6_gap 42 = .ok (.goto 4, 3) := by decide +kernel
theorem dX6_gap_45 : decode cX6_gap 45 = .ok (.iconst 0, 1) := by decide +kernel
theorem dX6_gap_46 : decode cX6_gap 46 = .ok (.ireturn, 1) := by decide +kernel
theorem dJ5_init_d00df_0 : decode cJ5_init_d00df 0 = .ok (.aload_n 0, 1) := by decide +kernel
theorem dJ5_init_d00df_1 : decode cJ5_init_d00df 1 = .ok (.invokespecial 3, 3) := by decide +kernel
theorem dJ5_init_d00df_4 : decode cJ5_init_d00df 4 = .ok (.getstatic 18, 3) := by decide +kernel
theorem dJ5_init_d00df_7 : decode cJ5_init_d00df 7 = .ok (.ifCond .eq 18, 3) := by decide +kernel
theorem dJ5_init_d00df_10 : decode cJ5_init_d00df 10 = .ok (.aload_n 0, 1) := by decide +kernel
theorem dJ5_init_d00df_11 : decode cJ5_init_d00df 11 = .ok (.iload_n 1, 1) := by decide +kernel
theorem dJ5_init_d00df_12 : decode cJ5_init_d00df 12 = .ok (.newarray .byte, 2) := by decide +kernel
theorem dJ5_init_d00df_14 : decode cJ5_init_d00df 14 = .ok (.putfield 15, 3) := by decide +kernel
theorem dJ5_init_d00df_17 : decode cJ5_init_d00df 17 = .ok (.aload_n 0, 1) := by decide +kernel
theorem dJ5_init_d00df_18 : decode cJ5_init_d00df 18 = .ok (.iconst 0, 1) := by decide +kernel
theorem dJ5_init_d00df_19 : decode cJ5_init_d00df 19 = .ok (.putfield 22, 3) := by decide +kernel
theorem dJ5_init_d00df_22 : decode cJ5_init_d00df 22 = .ok (.goto 16, 3) := by decide +kernel
theorem dJ5_init_d00df_25 : decode cJ5_init_d00df 25 = .ok (.aload_n 0, 1) := by decide +kernel
theorem dJ5_init_d00df_26 : decode cJ5_init_d00df 26 = .ok (.iload_n 1, 1) := by decide +kernel
theorem dJ5_init_d00df_27 : decode cJ5_init_d00df 27 = .ok (.invokestatic 26, 3) := by decide +kernel
theorem dJ5_init_d00df_30 : decode cJ5_init_d00df 30 = .ok (.putfield 15, 3) := by decide +kernel
theorem dJ5_init_d00df_33 : decode cJ5_init_d00df 33 = .ok (.aload_n 0, 1) := by decide +kernel
theorem dJ5_init_d00df_34 : decode cJ5_init_d00df 34 = .ok (.iconst 1, 1) := by decide +kernel
theorem dJ5_init_d00df_35 : decode cJ5_init_d00df 35 = .ok (.putfield 22, 3) := by decide +kernel
theorem dJ5_init_d00df_38 : decode cJ5_init_d00df 38 = .ok (.return_, 1) := by decide +kernel
theorem dJ5_length_8abf5_0 : decode cJ5_length_8abf5 0 = .ok (.aload_n 0, 1) := by decide +kernel
theorem dJ5_length_8abf5_1 : decode cJ5_length_8abf5 1 = .ok (.getfield 79, 3) := by decide +kernel
theorem dJ5_length_8abf5_4 : decode cJ5_length_8abf5 4 = .ok (.ireturn, 1) := by decide +kernel
theorem dJ5_ensureCapacityInternal_d00df_0 : decode cJ5_ensureCapacityInternal_d00df 0 = .ok (.aload_n 0, 1) := by decide +kernel
theorem dJ5_ensureCapacityInternal_d00df_1 : decode cJ5_ensureCapacityInternal_d00df 1 = .ok (.getfield 15, 3) := by decide +kernel
theorem dJ5_ensureCapacityInternal_d00df_4 : decode cJ5_ensureCapacityInternal_d00df 4 = .ok (.arraylength, 1) := by decide +kernel
theorem dJ5_ensureCapacityInternal_d00df_5 : decode cJ5_ensureCapacityInternal_d00df 5 = .ok (.aload_n 0, 1) := by decide +kernel
theorem dJ5_ensureCapacityInternal_d00df_6 : decode cJ5_ensureCapacityInternal_d00df 6 = .ok (.getfield 22, 3) := by decide +kernel
theorem dJ5_ensureCapacityInternal_d00df_9 : decode cJ5_ensureCapacityInternal_d00df 9 = .ok (.ishr, 1) := by decide +kernel
theorem dJ5_ensureCapacityInternal_d00df_10 : decode cJ5_ensureCapacityInternal_d00df 10 = .ok (.istore_n 2, 1) := by decide +kernel
theorem dJ5_ensureCapacityInternal_d00df_11 : decode cJ5_ensureCapacityInternal_d00df 11 = .ok (.iload_n 1, 1) := by decide +kernel
theorem dJ5_ensureCapacityInternal_d00df_12 : decode cJ5_ensureCapacityInternal_d00df 12 = .ok (.iload_n 2, 1) := by decide +kernel
theorem dJ5_ensureCapacityInternal_d00df_13 : decode cJ5_ensureCapacityInternal_d00df 13 = .ok (.isub, 1) := by decide +kernel
theorem dJ5_ensureCapacityInternal_d00df_14 : decode cJ5_ensureCapacityInternal_d00df 14 = .ok (.ifCond .le 24, 3) := by decide +kernel
theorem dJ5_ensureCapacityInternal_d00df_17 : decode cJ5_ensureCapacityInternal_d00df 17 = .ok (.aload_n 0, 1) := by decide +kernel
theorem dJ5_ensureCapacityInternal_d00df_18 : decode cJ5_ensureCapacityInternal_d00df 18 = .ok (.aload_n 0, 1) := by decide +kernel
theorem dJ5_ensureCapacityInternal_d00df_19 : decode cJ5_ensureCapacityInternal_d00df 19 = .ok (.getfield 15, 3) := by decide +kernel
theorem dJ5_ensureCapacityInternal_d00df_22 : decode cJ5_ensureCapacityInternal_d00df 22 = .ok (.aload_n 0, 1) := by decide +kernel
theorem dJ5_ensureCapacityInternal_d00df_23 : decode cJ5_ensureCapacityInternal_d00df 23 = .ok (.iload_n 1, 1) := by decide +kernel
theorem dJ5_ensureCapacityInternal_d00df_24 : decode cJ5_ensureCapacityInternal_d00df 24 = .ok (.invokevirtual 104, 3) := by decide +kernel
theorem dJ5_ensureCapacityInternal_d00df_27 : decode cJ5_ensureCapacityInternal_d00df 27 = .ok (.aload_n 0, 1) := by decide +kernel
theorem dJ5_ensureCapacityInternal_d00df_28 : decode cJ5_ensureCapacityInternal_d00df 28 = .ok (.getfield 22, 3) := by decide +kernel
theorem dJ5_ensureCapacityInternal_d00df_31 : decode cJ5_ensureCapacityInternal_d00df 31 = .ok (.ishl, 1) := by decide +kernel
theorem dJ5_ensureCapacityInternal_d00df_32 : decode cJ5_ensureCapacityInternal_d00df 32 = .ok (.invokestatic 108, 3) := by decide +kernel
theorem dJ5_ensureCapacityInternal_d00df_35 : decode cJ5_ensureCapacityInternal_d00df 35 = .ok (.putfield 15, 3) := by decide +kernel
theorem dJ5_ensureCapacityInternal_d00df_38 : decode cJ5_ensureCapacityInternal_d00df 38 = .ok (.return_, 1) := by decide +kernel
theorem dJ5_newCapacity_0f7a4_0 : decode cJ5_newCapacity_0f7a4 0 = .ok (.aload_n 0, 1) := by decide +kernel
theorem dJ5_newCapacity_0f7a4_1 : decode cJ5_newCapacity_0f7a4 1 = .ok (.getfield 15, 3) := by decide +kernel
theorem dJ5_newCapacity_0f7a4_4 : decode cJ5_newCapacity_0f7a4 4 = .ok (.arraylength, 1) := by decide +kernel
theorem dJ5_newCapacity_0f7a4_5 : decode cJ5_newCapacity_0f7a4 5 = .ok (.istore_n 2, 1) := by decide +kernel
theorem dJ5_newCapacity_0f7a4_6 : decode cJ5_newCapacity_0f7a4 6 = .ok (.iload_n 1, 1) := by decide +kernel
theorem dJ5_newCapacity_0f7a4_7 : decode cJ5_newCapacity_0f7a4 7 = .ok (.aload_n 0, 1) := by decide +kernel
theorem dJ5_newCapacity_0f7a4_8 : decode cJ5_newCapacity_0f7a4 8 = .ok (.getfield 22, 3) := by decide +kernel
theorem dJ5_newCapacity_0f7a4_11 : decode cJ5_newCapacity_0f7a4 11 = .ok (.ishl, 1) := by decide +kernel
theorem dJ5_newCapacity_0f7a4_12 : decode cJ5_newCapacity_0f7a4 12 = .ok (.istore_n 3, 1) := by decide +kernel
theorem dJ5_newCapacity_0f7a4_13 : decode cJ5_newCapacity_0f7a4 13 = .ok (.iload_n 3, 1) := by decide +kernel
theorem dJ5_newCapacity_0f7a4_14 : decode cJ5_newCapacity_0f7a4 14 = .ok (.iload_n 2, 1) := by decide +kernel
theorem dJ5_newCapacity_0f7a4_15 : decode cJ5_newCapacity_0f7a4 15 = .ok (.isub, 1) := by decide +kernel
theorem dJ5_newCapacity_0f7a4_16 : decode cJ5_newCapacity_0f7a4 16 = .ok (.istore 4, 2) := by decide +kernel
theorem dJ5_newCapacity_0f7a4_18 : decode cJ5_newCapacity_0f7a4 18 = .ok (.iload_n 2, 1) := by decide +kernel
theorem dJ5_newCapacity_0f7a4_19 : decode cJ5_newCapacity_0f7a4 19 = .ok (.iload 4, 2) := by decide +kernel
theorem dJ5_newCapacity_0f7a4_21 : decode cJ5_newCapacity_0f7a4 21 = .ok (.iload_n 2, 1) := by decide +kernel
theorem dJ5_newCapacity_0f7a4_22 : decode cJ5_newCapacity_0f7a4 22 = .ok (.iconst 2, 1) := by decide +kernel
theorem dJ5_newCapacity_0f7a4_23 : decode cJ5_newCapacity_0f7a4 23 = .ok (.aload_n 0, 1) := by decide +kernel
theorem dJ5_newCapacity_0f7a4_24 : decode cJ5_newCapacity_0f7a4 24 = .ok (.getfield 22, 3) := by decide +kernel
theorem dJ5_newCapacity_0f7a4_27 : decode cJ5_newCapacity_0f7a4 27 = .ok (.ishl, 1) := by decide +kernel
theorem dJ5_newCapacity_0f7a4_28 : decode cJ5_newCapacity_0f7a4 28 = .ok (.iadd, 1) := by decide +kernel
theorem dJ5_newCapacity_0f7a4_29 : decode cJ5_newCapacity_0f7a4 29 = .ok (.invokestatic 114, 3) := by decide +kernel
theorem dJ5_newCapacity_0f7a4_32 : decode cJ5_newCapacity_0f7a4 32 = .ok (.istore 5, 2) := by decide +kernel
theorem dJ5_newCapacity_0f7a4_34 : decode cJ5_newCapacity_0f7a4 34 = .ok (.iload 5, 2) := by decide +kernel
theorem dJ5_newCapacity_0f7a4_36 : decode cJ5_newCapacity_0f7a4 36 = .ok (.ldc 39, 2) := by decide +kernel
theorem dJ5_newCapacity_0f7a4_38 : decode cJ5_newCapacity_0f7a4 38 = .ok (.if_icmp .ne 13, 3) := by decide +kernel
theorem dJ5_newCapacity_0f7a4_41 : decode cJ5_newCapacity_0f7a4 41 = .ok (.new 120, 3) := by decide +kernel
theorem dJ5_newCapacity_0f7a4_44 : decode cJ5_newCapacity_0f7a4 44 = .ok (.dup, 1) := by decide +kernel
theorem dJ5_newCapacity_0f7a4_45 : decode cJ5_newCapacity_0f7a4 45 = .ok (.ldc 122, 2) := by decide +kernel
theorem dJ5_newCapacity_0f7a4_47 : decode cJ5_newCapacity_0f7a4 47 = .ok (.invokespecial 124, 3) := by decide +kernel
theorem dJ5_newCapacity_0f7a4_50 : decode cJ5_newCapacity_0f7a4 50 = .ok (.athrow, 1) := by decide +kernel
theorem dJ5_newCapacity_0f7a4_51 : decode cJ5_newCapacity_0f7a4 51 = .ok (.iload 5, 2) := by decide +kernel
theorem dJ5_newCapacity_0f7a4_53 : decode cJ5_newCapacity_0f7a4 53 = .ok (.aload_n 0, 1) := by decide +kernel
theorem dJ5_newCapacity_0f7a4_54 : decode cJ5_newCapacity_0f7a4 54 = .ok (.getfield 22, 3) := by decide +kernel
theorem dJ5_newCapacity_0f7a4_57 : decode cJ5_newCapacity_0f7a4 57 = .ok (.ishr, 1) := by decide +kernel
theorem dJ5_newCapacity_0f7a4_58 : decode cJ5_newCapacity_0f7a4 58 = .ok (.ireturn, 1) := by decide +kernel
theorem dJ5_inflate_da8c8_0 : decode cJ5_inflate_da8c8 0 = .ok (.aload_n 0, 1) := by decide +kernel
theorem dJ5_inflate_da8c8_1 : decode cJ5_inflate_da8c8 1 = .ok (.invokevirtual 83, 3) := by decide +kernel
theorem dJ5_inflate_da8c8_4 : decode cJ5_inflate_da8c8 4 = .ok (.ifCond .ne 4, 3) := by decide +kernel
theorem dJ5_inflate_da8c8_7 : decode cJ5_inflate_da8c8 7 = .ok (.return_, 1) := by decide +kernel
theorem dJ5_inflate_da8c8_8 : decode cJ5_inflate_da8c8 8 = .ok (.aload_n 0, 1) := by decide +kernel
theorem dJ5_inflate_da8c8_9 : decode cJ5_inflate_da8c8 9 = .ok (.getfield 15, 3) := by decide +kernel
theorem dJ5_inflate_da8c8_12 : decode cJ5_inflate_da8c8 12 = .ok (.arraylength, 1) := by decide +kernel
theorem dJ5_inflate_da8c8_13 : decode cJ5_inflate_da8c8 13 = .ok (.invokestatic 26, 3) := by decide +kernel
theorem dJ5_inflate_da8c8_16 : decode cJ5_inflate_da8c8 16 = .ok (.astore_n 1, 1) := by decide +kernel
theorem dJ5_inflate_da8c8_17 : decode cJ5_inflate_da8c8 17 = .ok (.aload_n 0, 1) := by decide +kernel
theorem dJ5_inflate_da8c8_18 : decode cJ5_inflate_da8c8 18 = .ok (.getfield 15, 3) := by decide +kernel
theorem dJ5_inflate_da8c8_21 : decode cJ5_inflate_da8c8 21 = .ok (.iconst 0, 1) := by decide +kernel
theorem dJ5_inflate_da8c8_22 : decode cJ5_inflate_da8c8 22 = .ok (.aload_n 1, 1) := by decide +kernel
theorem dJ5_inflate_da8c8_23 : decode cJ5_inflate_da8c8 23 = .ok (.iconst 0, 1) := by decide +kernel
theorem dJ5_inflate_da8c8_24 : decode cJ5_inflate_da8c8 24 = .ok (.aload_n 0, 1) := by decide +kernel
theorem dJ5_inflate_da8c8_25 : decode cJ5_inflate_da8c8 25 = .ok (.getfield 79, 3) := by decide +kernel
theorem dJ5_inflate_da8c8_28 : decode cJ5_inflate_da8c8 28 = .ok (.invokestatic 125, 3) := by decide +kernel
theorem dJ5_inflate_da8c8_31 : decode cJ5_inflate_da8c8 31 = .ok (.aload_n 0, 1) := by decide +kernel
theorem dJ5_inflate_da8c8_32 : decode cJ5_inflate_da8c8 32 = .ok (.aload_n 1, 1) := by decide +kernel
theorem dJ5_inflate_da8c8_33 : decode cJ5_inflate_da8c8 33 = .ok (.putfield 15, 3) := by decide +kernel
theorem dJ5_inflate_da8c8_36 : decode cJ5_inflate_da8c8 36 = .ok (.aload_n 0, 1) := by decide +kernel
theorem dJ5_inflate_da8c8_37 : decode cJ5_inflate_da8c8 37 = .ok (.iconst 1, 1) := by decide +kernel
theorem dJ5_inflate_da8c8_38 : decode cJ5_inflate_da8c8 38 = .ok (.putfield 22, 3) := by decide +kernel
theorem dJ5_inflate_da8c8_41 : decode cJ5_inflate_da8c8 41 = .ok (.return_, 1) := by decide +kernel
theorem dJ5_setLength_d00df_0 : decode cJ5_setLength_d00df 0 = .ok (.iload_n 1, 1) := by decide +kernel
theorem dJ5_setLength_d00df_1 : decode cJ5_setLength_d00df 1 = .ok (.ifCond .ge 12, 3) := by decide +kernel
theorem dJ5_setLength_d00df_4 : decode cJ5_setLength_d00df 4 = .ok (.new 129, 3) := by decide +kernel
theorem dJ5_setLength_d00df_7 : decode cJ5_setLength_d00df 7 = .ok (.dup, 1) := by decide +kernel
theorem dJ5_setLength_d00df_8 : decode cJ5_setLength_d00df 8 = .ok (.iload_n 1, 1) := by decide +kernel
theorem dJ5_setLength_d00df_9 : decode cJ5_setLength_d00df 9 = .ok (.invokespecial 131, 3) := by decide +kernel
theorem dJ5_setLength_d00df_12 : decode cJ5_setLength_d00df 12 = .ok (.athrow, 1) := by decide +kernel
theorem dJ5_setLength_d00df_13 : decode cJ5_setLength_d00df 13 = .ok (.aload_n 0, 1) := by decide +kernel
theorem dJ5_setLength_d00df_14 : decode cJ5_setLength_d00df 14 = .ok (.iload_n 1, 1) := by decide +kernel
theorem dJ5_setLength_d00df_15 : decode cJ5_setLength_d00df 15 = .ok (.invokevirtual 100, 3) := by decide +kernel
theorem dJ5_setLength_d00df_18 : decode cJ5_setLength_d00df 18 = .ok (.aload_n 0, 1) := by decide +kernel
theorem dJ5_setLength_d00df_19 : decode cJ5_setLength_d00df 19 = .ok (.getfield 79, 3) := by decide +kernel
theorem dJ5_setLength_d00df_22 : decode cJ5_setLength_d00df 22 = .ok (.iload_n 1, 1) := by decide +kernel
theorem dJ5_setLength_d00df_23 : decode cJ5_setLength_d00df 23 = .ok (.if_icmp .ge 40, 3) := by decide +kernel
theorem dJ5_setLength_d00df_26 : decode cJ5_setLength_d00df 26 = .ok (.aload_n 0, 1) := by decide +kernel
theorem dJ5_setLength_d00df_27 : decode cJ5_setLength_d00df 27 = .ok (.invokevirtual 83, 3) := by decide +kernel
theorem dJ5_setLength_d00df_30 : decode cJ5_setLength_d00df 30 = .ok (.ifCond .eq 18, 3) := by decide +kernel
theorem dJ5_setLength_d00df_33 : decode cJ5_setLength_d00df 33 = .ok (.aload_n 0, 1) := by decide +kernel
theorem dJ5_setLength_d00df_34 : decode cJ5_setLength_d00df 34 = .ok (.getfield 15, 3) := by decide +kernel
theorem dJ5_setLength_d00df_37 : decode cJ5_setLength_d00df 37 = .ok (.aload_n 0, 1) := by decide +kernel
theorem dJ5_setLength_d00df_38 : decode cJ5_setLength_d00df 38 = .ok (.getfield 79, 3) := by decide +kernel
theorem dJ5_setLength_d00df_41 : decode cJ5_setLength_d00df 41 = .ok (.iload_n 1, 1) := by decide +kernel
theorem dJ5_setLength_d00df_42 : decode cJ5_setLength_d00df 42 = .ok (.invokestatic 133, 3) := by decide +kernel
theorem dJ5_setLength_d00df_45 : decode cJ5_setLength_d00df 45 = .ok (.goto 31, 3) := by decide +kernel
theorem dJ5_setLength_d00df_48 : decode cJ5_setLength_d00df 48 = .ok (.aload_n 0, 1) := by decide +kernel
theorem dJ5_setLength_d00df_49 : decode cJ5_setLength_d00df 49 = .ok (.getfield 15, 3) := by decide +kernel
theorem dJ5_setLength_d00df_52 : decode cJ5_setLength_d00df 52 = .ok (.aload_n 0, 1) := by decide +kernel
theorem dJ5_setLength_d00df_53 : decode cJ5_setLength_d00df 53 = .ok (.getfield 79, 3) := by decide +kernel
theorem dJ5_setLength_d00df_56 : decode cJ5_setLength_d00df 56 = .ok (.iload_n 1, 1) := by decide +kernel
theorem dJ5_setLength_d00df_57 : decode cJ5_setLength_d00df 57 = .ok (.invokestatic 137, 3) := by decide +kernel
theorem dJ5_setLength_d00df_60 : decode cJ5_setLength_d00df 60 = .ok (.goto 16, 3) := by decide +kernel
theorem dJ5_setLength_d00df_63 : decode cJ5_setLength_d00df 63 = .ok (.aload_n 0, 1) := by decide +kernel
theorem dJ5_setLength_d00df_64 : decode cJ5_setLength_d00df 64 = .ok (.getfield 79, 3) := by decide +kernel
theorem dJ5_setLength_d00df_67 : decode cJ5_setLength_d00df 67 = .ok (.iload_n 1, 1) := by decide +kernel
theorem dJ5_setLength_d00df_68 : decode cJ5_setLength_d00df 68 = .ok (.if_icmp .le 8, 3) := by decide +kernel
theorem dJ5_setLength_d00df_71 : decode cJ5_setLength_d00df 71 = .ok (.aload_n 0, 1) := by decide +kernel
theorem dJ5_setLength_d00df_72 : decode cJ5_setLength_d00df 72 = .ok (.iconst 1, 1) := by decide +kernel
theorem dJ5_setLength_d00df_73 : decode cJ5_setLength_d00df 73 = .ok (.putfield 73, 3) := by decide +kernel
theorem dJ5_setLength_d00df_76 : decode cJ5_setLength_d00df 76 = .ok (.aload_n 0, 1) := by decide +kernel
theorem dJ5_setLength_d00df_77 : decode cJ5_setLength_d00df 77 = .ok (.iload_n 1, 1) := by decide +kernel
theorem dJ5_setLength_d00df_78 : decode cJ5_setLength_d00df 78 = .ok (.putfield 79, 3) := by decide +kernel
theorem dJ5_setLength_d00df_81 : decode cJ5_setLength_d00df 81 = .ok (.return_, 1) := by decide +kernel
theorem dJ5_charAt_5068e_0 : decode cJ5_charAt_5068e 0 = .ok (.aload_n 0, 1) := by decide +kernel
theorem dJ5_charAt_5068e_1 : decode cJ5_charAt_5068e 1 = .ok (.getfield 22, 3) := by decide +kernel
theorem dJ5_charAt_5068e_4 : decode cJ5_charAt_5068e 4 = .ok (.istore_n 2, 1) := by decide +kernel
theorem dJ5_charAt_5068e_5 : decode cJ5_charAt_5068e 5 = .ok (.aload_n 0, 1) := by decide +kernel
theorem dJ5_charAt_5068e_6 : decode cJ5_charAt_5068e 6 = .ok (.getfield 15, 3) := by decide +kernel
theorem dJ5_charAt_5068e_9 : decode cJ5_charAt_5068e 9 = .ok (.astore_n 3, 1) := by decide +kernel
theorem dJ5_charAt_5068e_10 : decode cJ5_charAt_5068e 10 = .ok (.aload_n 0, 1) := by decide +kernel
theorem dJ5_charAt_5068e_11 : decode cJ5_charAt_5068e 11 = .ok (.getfield 79, 3) := by decide +kernel
theorem dJ5_charAt_5068e_14 : decode cJ5_charAt_5068e 14 = .ok (.aload_n 3, 1) := by decide +kernel
theorem dJ5_charAt_5068e_15 : decode cJ5_charAt_5068e 15 = .ok (.arraylength, 1) := by decide +kernel
theorem dJ5_charAt_5068e_16 : decode cJ5_charAt_5068e 16 = .ok (.iload_n 2, 1) := by decide +kernel
theorem dJ5_charAt_5068e_17 : decode cJ5_charAt_5068e 17 = .ok (.ishr, 1) := by decide +kernel
theorem dJ5_charAt_5068e_18 : decode cJ5_charAt_5068e 18 = .ok (.invokestatic 138, 3) := by decide +kernel
theorem dJ5_charAt_5068e_21 : decode cJ5_charAt_5068e 21 = .ok (.istore 4, 2) := by decide +kernel
theorem dJ5_charAt_5068e_23 : decode cJ5_charAt_5068e 23 = .ok (.iload_n 1, 1) := by decide +kernel
theorem dJ5_charAt_5068e_24 : decode cJ5_charAt_5068e 24 = .ok (.iload 4, 2) := by decide +kernel
theorem dJ5_charAt_5068e_26 : decode cJ5_charAt_5068e 26 = .ok (.invokestatic 144, 3) := by decide +kernel
theorem dJ5_charAt_5068e_29 : decode cJ5_charAt_5068e 29 = .ok (.iload_n 2, 1) := by decide +kernel
theorem dJ5_charAt_5068e_30 : decode cJ5_charAt_5068e 30 = .ok (.ifCond .ne 12, 3) := by decide +kernel
theorem dJ5_charAt_5068e_33 : decode cJ5_charAt_5068e 33 = .ok (.aload_n 3, 1) := by decide +kernel
theorem dJ5_charAt_5068e_34 : decode cJ5_charAt_5068e 34 = .ok (.iload_n 1, 1) := by decide +kernel
theorem dJ5_charAt_5068e_35 : decode cJ5_charAt_5068e 35 = .ok (.baload, 1) := by decide +kernel
theorem dJ5_charAt_5068e_36 : decode cJ5_charAt_5068e 36 = .ok (.sipush 255, 3) := by decide +kernel
theorem dJ5_charAt_5068e_39 : decode cJ5_charAt_5068e 39 = .ok (.iand, 1) := by decide +kernel
theorem dJ5_charAt_5068e_40 : decode cJ5_charAt_5068e 40 = .ok (.i2c, 1) := by decide +kernel
theorem dJ5_charAt_5068e_41 : decode cJ5_charAt_5068e 41 = .ok (.ireturn, 1) := by decide +kernel
theorem dJ5_charAt_5068e_42 : decode cJ5_charAt_5068e 42 = .ok (.aload_n 3, 1) := by decide +kernel
theorem dJ5_charAt_5068e_43 : decode cJ5_charAt_5068e 43 = .ok (.iload_n 1, 1) := by decide +kernel
theorem dJ5_charAt_5068e_44 : decode cJ5_charAt_5068e 44 = .ok (.invokestatic 148, 3) := by decide +kernel
theorem dJ5_charAt_5068e_47 : decode cJ5_charAt_5068e 47 = .ok (.ireturn, 1) := by decide +kernel
theorem dJ5_append_cf1ce_0 : decode cJ5_append_cf1ce 0 = .ok (.aload_n 1, 1) := by decide +kernel
theorem dJ5_append_cf1ce_1 : decode cJ5_append_cf1ce 1 = .ok (.ifnonnull 8, 3) := by decide +kernel
theorem dJ5_append_cf1ce_4 : decode cJ5_append_cf1ce 4 = .ok (.aload_n 0, 1) := by decide +kernel
theorem dJ5_append_cf1ce_5 : decode cJ5_append_cf1ce 5 = .ok (.invokevirtual 204, 3) := by decide +kernel
theorem dJ5_append_cf1ce_8 : decode cJ5_append_cf1ce 8 = .ok (.areturn, 1) := by decide +kernel
theorem dJ5_append_cf1ce_9 : decode cJ5_append_cf1ce 9 = .ok (.aload_n 1, 1) := by decide +kernel
theorem dJ5_append_cf1ce_10 : decode cJ5_append_cf1ce 10 = .ok (.invokevirtual 32, 3) := by decide +kernel
theorem dJ5_append_cf1ce_13 : decode cJ5_append_cf1ce 13 = .ok (.istore_n 2, 1) := by decide +kernel
theorem dJ5_append_cf1ce_14 : decode cJ5_append_cf1ce 14 = .ok (.aload_n 0, 1) := by decide +kernel
theorem dJ5_append_cf1ce_15 : decode cJ5_append_cf1ce 15 = .ok (.aload_n 0, 1) := by decide +kernel
theorem dJ5_append_cf1ce_16 : decode cJ5_append_cf1ce 16 = .ok (.getfield 79, 3) := by decide +kernel
theorem dJ5_append_cf1ce_19 : decode cJ5_append_cf1ce 19 = .ok (.iload_n 2, 1) := by decide +kernel
theorem dJ5_append_cf1ce_20 : decode cJ5_append_cf1ce 20 = .ok (.iadd, 1) := by decide +kernel
theorem dJ5_append_cf1ce_21 : decode cJ5_append_cf1ce 21 = .ok (.invokevirtual 100, 3) := by decide +kernel
theorem dJ5_append_cf1ce_24 : decode cJ5_append_cf1ce 24 = .ok (.aload_n 0, 1) := by decide +kernel
theorem dJ5_append_cf1ce_25 : decode cJ5_append_cf1ce 25 = .ok (.aload_n 0, 1) := by decide +kernel
theorem dJ5_append_cf1ce_26 : decode cJ5_append_cf1ce 26 = .ok (.getfield 79, 3) := by decide +kernel
theorem dJ5_append_cf1ce_29 : decode cJ5_append_cf1ce 29 = .ok (.aload_n 1, 1) := by decide +kernel
theorem dJ5_append_cf1ce_30 : decode cJ5_append_cf1ce 30 = .ok (.invokevirtual 208, 3) := by decide +kernel
theorem dJ5_append_cf1ce_33 : decode cJ5_append_cf1ce 33 = .ok (.aload_n 0, 1) := by decide +kernel
theorem dJ5_append_cf1ce_34 : decode cJ5_append_cf1ce 34 = .ok (.dup, 1) := by decide +kernel
theorem dJ5_append_cf1ce_35 : decode cJ5_append_cf1ce 35 = .ok (.getfield 79, 3) := by decide +kernel
theorem dJ5_append_cf1ce_38 : decode cJ5_append_cf1ce 38 = .ok (.iload_n 2, 1) := by decide +kernel
theorem dJ5_append_cf1ce_39 : decode cJ5_append_cf1ce 39 = .ok (.iadd, 1) := by decide +kernel
theorem dJ5_append_cf1ce_40 : decode cJ5_append_cf1ce 40 = .ok (.putfield 79, 3) := by decide +kernel
theorem dJ5_append_cf1ce_43 : decode cJ5_append_cf1ce 43 = .ok (.aload_n 0, 1) := by decide +kernel
theorem dJ5_append_cf1ce_44 : decode cJ5_append_cf1ce 44 = .ok (.areturn, 1) := by decide +kernel
theorem dJ5_appendNull_278bc_0 : decode cJ5_appendNull_278bc 0 = .ok (.aload_n 0, 1) := by decide +kernel
theorem dJ5_appendNull_278bc_1 : decode cJ5_appendNull_278bc 1 = .ok (.aload_n 0, 1) := by decide +kernel
theorem dJ5_appendNull_278bc_2 : decode cJ5_appendNull_278bc 2 = .ok (.getfield 79, 3) := by decide +kernel
theorem dJ5_appendNull_278bc_5 : decode cJ5_appendNull_278bc 5 = .ok (.iconst 4, 1) := by decide +kernel
theorem dJ5_appendNull_278bc_6 : decode cJ5_appendNull_278bc 6 = .ok (.iadd, 1) := by decide +kernel
theorem dJ5_appendNull_278bc_7 : decode cJ5_appendNull_278bc 7 = .ok (.invokevirtual 100, 3) := by decide +kernel
theorem dJ5_appendNull_278bc_10 : decode cJ5_appendNull_278bc 10 = .ok (.aload_n 0, 1) := by decide +kernel
theorem dJ5_appendNull_278bc_11 : decode cJ5_appendNull_278bc 11 = .ok (.getfield 79, 3) := by decide +kernel
theorem dJ5_appendNull_278bc_14 : decode cJ5_appendNull_278bc 14 = .ok (.istore_n 1, 1) := by decide +kernel
theorem dJ5_appendNull_278bc_15 : decode cJ5_appendNull_278bc 15 = .ok (.aload_n 0, 1) := by decide +kernel
theorem dJ5_appendNull_278bc_16 : decode cJ5_appendNull_278bc 16 = .ok (.getfield 15, 3) := by decide +kernel
theorem dJ5_appendNull_278bc_19 : decode cJ5_appendNull_278bc 19 = .ok (.astore_n 2, 1) := by decide +kernel
theorem dJ5_appendNull_278bc_20 : decode cJ5_appendNull_278bc 20 = .ok (.aload_n 0, 1) := by decide +kernel
theorem dJ5_appendNull_278bc_21 : decode cJ5_appendNull_278bc 21 = .ok (.invokevirtual 83, 3) := by decide +kernel
theorem dJ5_appendNull_278bc_24 : decode cJ5_appendNull_278bc 24 = .ok (.ifCond .eq 38, 3) := by decide +kernel
theorem dJ5_appendNull_278bc_27 : decode cJ5_appendNull_278bc 27 = .ok (.aload_n 2, 1) := by decide +kernel
theorem dJ5_appendNull_278bc_28 : decode cJ5_appendNull_278bc 28 = .ok (.iload_n 1, 1) := by decide +kernel
theorem dJ5_appendNull_278bc_29 : decode cJ5_appendNull_278bc 29 = .ok (.iinc 1 1, 3) := by decide +kernel
theorem dJ5_appendNull_278bc_32 : decode cJ5_appendNull_278bc 32 = .ok (.bipush 110, 2) := by decide +kernel
theorem dJ5_appendNull_278bc_34 : decode cJ5_appendNull_278bc 34 = .ok (.bastore, 1) := by decide +kernel
theorem dJ5_appendNull_278bc_35 : decode cJ5_appendNull_278bc 35 = .ok (.aload_n 2, 1) := by decide +kernel
theorem dJ5_appendNull_278bc_36 : decode cJ5_appendNull_278bc 36 = .ok (.iload_n 1, 1) := by decide +kernel
theorem dJ5_appendNull_278bc_37 : decode cJ5_appendNull_278bc 37 = .ok (.iinc 1 1, 3) := by decide +kernel
theorem dJ5_appendNull_278bc_40 : decode cJ5_appendNull_278bc 40 = .ok (.bipush 117, 2) := by decide +kernel
theorem dJ5_appendNull_278bc_42 : decode cJ5_appendNull_278bc 42 = .ok (.bastore, 1) := by decide +kernel
theorem dJ5_appendNull_278bc_43 : decode cJ5_appendNull_278bc 43 = .ok (.aload_n 2, 1) := by decide +kernel
theorem dJ5_appendNull_278bc_44 : decode cJ5_appendNull_278bc 44 = .ok (.iload_n 1, 1) := by decide +kernel
theorem dJ5_appendNull_278bc_45 : decode cJ5_appendNull_278bc 45 = .ok (.iinc 1 1, 3) := by decide +kernel
theorem dJ5_appendNull_278bc_48 : decode cJ5_appendNull_278bc 48 = .ok (.bipush 108, 2) := by decide +kernel
theorem dJ5_appendNull_278bc_50 : decode cJ5_appendNull_278bc 50 = .ok (.bastore, 1) := by decide +kernel
theorem dJ5_appendNull_278bc_51 : decode cJ5_appendNull_278bc 51 = .ok (.aload_n 2, 1) := by decide +kernel
theorem dJ5_appendNull_278bc_52 : decode cJ5_appendNull_278bc 52 = .ok (.iload_n 1, 1) := by decide +kernel
theorem dJ5_appendNull_278bc_53 : decode cJ5_appendNull_278bc 53 = .ok (.iinc 1 1, 3) := by decide +kernel
theorem dJ5_appendNull_278bc_56 : decode cJ5_appendNull_278bc 56 = .ok (.bipush 108, 2) := by decide +kernel
theorem dJ5_appendNull_278bc_58 : decode cJ5_appendNull_278bc 58 = .ok (.bastore, 1) := by decide +kernel
theorem dJ5_appendNull_278bc_59 : decode cJ5_appendNull_278bc 59 = .ok (.goto 17, 3) := by decide +kernel
theorem dJ5_appendNull_278bc_62 : decode cJ5_appendNull_278bc 62 = .ok (.aload_n 2, 1) := by decide +kernel
theorem dJ5_appendNull_278bc_63 : decode cJ5_appendNull_278bc 63 = .ok (.iload_n 1, 1) := by decide +kernel
theorem dJ5_appendNull_278bc_64 : decode cJ5_appendNull_278bc 64 = .ok (.bipush 110, 2) := by decide +kernel
theorem dJ5_appendNull_278bc_66 : decode cJ5_appendNull_278bc 66 = .ok (.bipush 117, 2) := by decide +kernel
theorem dJ5_appendNull_278bc_68 : decode cJ5_appendNull_278bc 68 = .ok (.bipush 108, 2) := by decide +kernel
theorem dJ5_appendNull_278bc_70 : decode cJ5_appendNull_278bc 70 = .ok (.bipush 108, 2) := by decide +kernel
theorem dJ5_appendNull_278bc_72 : decode cJ5_appendNull_278bc 72 = .ok (.invokestatic 226, 3) := by decide +kernel
theorem dJ5_appendNull_278bc_75 : decode cJ5_appendNull_278bc 75 = .ok (.istore_n 1, 1) := by decide +kernel
theorem dJ5_appendNull_278bc_76 : decode cJ5_appendNull_278bc 76 = .ok (.aload_n 0, 1) := by decide +kernel
theorem dJ5_appendNull_278bc_77 : decode cJ5_appendNull_278bc 77 = .ok (.iload_n 1, 1) := by decide +kernel
theorem dJ5_appendNull_278bc_78 : decode cJ5_appendNull_278bc 78 = .ok (.putfield 79, 3) := by decide +kernel
theorem dJ5_appendNull_278bc_81 : decode cJ5_appendNull_278bc 81 = .ok (.aload_n 0, 1) := by decide +kernel
theorem dJ5_appendNull_278bc_82 : decode cJ5_appendNull_278bc 82 = .ok (.areturn, 1) := by decide +kernel
theorem dJ5_append_3fe6f_0 : decode cJ5_append_3fe6f 0 = .ok (.aload_n 0, 1) := by decide +kernel
theorem dJ5_append_3fe6f_1 : decode cJ5_append_3fe6f 1 = .ok (.aload_n 0, 1) := by decide +kernel
theorem dJ5_append_3fe6f_2 : decode cJ5_append_3fe6f 2 = .ok (.getfield 79, 3) := by decide +kernel
theorem dJ5_append_3fe6f_5 : decode cJ5_append_3fe6f 5 = .ok (.iconst 1, 1) := by decide +kernel
theorem dJ5_append_3fe6f_6 : decode cJ5_append_3fe6f 6 = .ok (.iadd, 1) := by decide +kernel
theorem dJ5_append_3fe6f_7 : decode cJ5_append_3fe6f 7 = .ok (.invokevirtual 100, 3) := by decide +kernel
theorem dJ5_append_3fe6f_10 : decode cJ5_append_3fe6f 10 = .ok (.aload_n 0, 1) := by decide +kernel
theorem dJ5_append_3fe6f_11 : decode cJ5_append_3fe6f 11 = .ok (.invokevirtual 83, 3) := by decide +kernel
theorem dJ5_append_3fe6f_14 : decode cJ5_append_3fe6f 14 = .ok (.ifCond .eq 31, 3) := by decide +kernel
theorem dJ5_append_3fe6f_17 : decode cJ5_append_3fe6f 17 = .ok (.iload_n 1, 1) := by decide +kernel
theorem dJ5_append_3fe6f_18 : decode cJ5_append_3fe6f 18 = .ok (.invokestatic 191, 3) := by decide +kernel
theorem dJ5_append_3fe6f_21 : decode cJ5_append_3fe6f 21 = .ok (.ifCond .eq 24, 3) := by decide +kernel
theorem dJ5_append_3fe6f_24 : decode cJ5_append_3fe6f 24 = .ok (.aload_n 0, 1) := by decide +kernel
theorem dJ5_append_3fe6f_25 : decode cJ5_append_3fe6f 25 = .ok (.getfield 15, 3) := by decide +kernel
theorem dJ5_append_3fe6f_28 : decode cJ5_append_3fe6f 28 = .ok (.aload_n 0, 1) := by decide +kernel
theorem dJ5_append_3fe6f_29 : decode cJ5_append_3fe6f 29 = .ok (.dup, 1) := by decide +kernel
theorem dJ5_append_3fe6f_30 : decode cJ5_append_3fe6f 30 = .ok (.getfield 79, 3) := by decide +kernel
theorem dJ5_append_3fe6f_33 : decode cJ5_append_3fe6f 33 = .ok (.dup_x1, 1) := by decide +kernel
theorem dJ5_append_3fe6f_34 : decode cJ5_append_3fe6f 34 = .ok (.iconst 1, 1) := by decide +kernel
theorem dJ5_append_3fe6f_35 : decode cJ5_append_3fe6f 35 = .ok (.iadd, 1) := by decide +kernel
theorem dJ5_append_3fe6f_36 : decode cJ5_append_3fe6f 36 = .ok (.putfield 79, 3) := by decide +kernel
theorem dJ5_append_3fe6f_39 : decode cJ5_append_3fe6f 39 = .ok (.iload_n 1, 1) := by decide +kernel
theorem dJ5_append_3fe6f_40 : decode cJ5_append_3fe6f 40 = .ok (.i2b, 1) := by decide +kernel
theorem dJ5_append_3fe6f_41 : decode cJ5_append_3fe6f 41 = .ok (.bastore, 1) := by decide +kernel
theorem dJ5_append_3fe6f_42 : decode cJ5_append_3fe6f 42 = .ok (.goto 33, 3) := by decide +kernel
theorem dJ5_append_3fe6f_45 : decode cJ5_append_3fe6f 45 = .ok (.aload_n 0, 1) := by decide +kernel
theorem dJ5_append_3fe6f_46 : decode cJ5_append_3fe6f 46 = .ok (.invokevirtual 83, 3) := by decide +kernel
theorem dJ5_append_3fe6f_49 : decode cJ5_append_3fe6f 49 = .ok (.ifCond .eq 7, 3) := by decide +kernel
theorem dJ5_append_3fe6f_52 : decode cJ5_append_3fe6f 52 = .ok (.aload_n 0, 1) := by decide +kernel
theorem dJ5_append_3fe6f_53 : decode cJ5_append_3fe6f 53 = .ok (.invokevirtual 195, 3) := by decide +kernel
theorem dJ5_append_3fe6f_56 : decode cJ5_append_3fe6f 56 = .ok (.aload_n 0, 1) := by decide +kernel
theorem dJ5_append_3fe6f_57 : decode cJ5_append_3fe6f 57 = .ok (.getfield 15, 3) := by decide +kernel
theorem dJ5_append_3fe6f_60 : decode cJ5_append_3fe6f 60 = .ok (.aload_n 0, 1) := by decide +kernel
theorem dJ5_append_3fe6f_61 : decode cJ5_append_3fe6f 61 = .ok (.dup, 1) := by decide +kernel
theorem dJ5_append_3fe6f_62 : decode cJ5_append_3fe6f 62 = .ok (.getfield 79, 3) := by decide +kernel
theorem dJ5_append_3fe6f_65 : decode cJ5_append_3fe6f 65 = .ok (.dup_x1, 1) := by decide +kernel
theorem dJ5_append_3fe6f_66 : decode cJ5_append_3fe6f 66 = .ok (.iconst 1, 1) := by decide +kernel
theorem dJ5_append_3fe6f_67 : decode cJ5_append_3fe6f 67 = .ok (.iadd, 1) := by decide +kernel
theorem dJ5_append_3fe6f_68 : decode cJ5_append_3fe6f 68 = .ok (.putfield 79, 3) := by decide +kernel
theorem dJ5_append_3fe6f_71 : decode cJ5_append_3fe6f 71 = .ok (.iload_n 1, 1) := by decide +kernel
theorem dJ5_append_3fe6f_72 : decode cJ5_append_3fe6f 72 = .ok (.invokestatic 197, 3) := by decide +kernel
theorem dJ5_append_3fe6f_75 : decode cJ5_append_3fe6f 75 = .ok (.aload_n 0, 1) := by decide +kernel
theorem dJ5_append_3fe6f_76 : decode cJ5_append_3fe6f 76 = .ok (.areturn, 1) := by decide +kernel
theorem dJ5_append_c97b9_0 : decode cJ5_append_c97b9 0 = .ok (.aload_n 0, 1) := by decide +kernel
theorem dJ5_append_c97b9_1 : decode cJ5_append_c97b9 1 = .ok (.getfield 79, 3) := by decide +kernel
theorem dJ5_append_c97b9_4 : decode cJ5_append_c97b9 4 = .ok (.istore_n 2, 1) := by decide +kernel
theorem dJ5_append_c97b9_5 : decode cJ5_append_c97b9 5 = .ok (.iload_n 2, 1) := by decide +kernel
theorem dJ5_append_c97b9_6 : decode cJ5_append_c97b9 6 = .ok (.iload_n 1, 1) := by decide +kernel
theorem dJ5_append_c97b9_7 : decode cJ5_append_c97b9 7 = .ok (.invokestatic 245, 3) := by decide +kernel
theorem dJ5_append_c97b9_10 : decode cJ5_append_c97b9 10 = .ok (.iadd, 1) := by decide +kernel
theorem dJ5_append_c97b9_11 : decode cJ5_append_c97b9 11 = .ok (.istore_n 3, 1) := by decide +kernel
theorem dJ5_append_c97b9_12 : decode cJ5_append_c97b9 12 = .ok (.aload_n 0, 1) := by decide +kernel
theorem dJ5_append_c97b9_13 : decode cJ5_append_c97b9 13 = .ok (.iload_n 3, 1) := by decide +kernel
theorem dJ5_append_c97b9_14 : decode cJ5_append_c97b9 14 = .ok (.invokevirtual 100, 3) := by decide +kernel
theorem dJ5_append_c97b9_17 : decode cJ5_append_c97b9 17 = .ok (.aload_n 0, 1) := by decide +kernel
theorem dJ5_append_c97b9_18 : decode cJ5_append_c97b9 18 = .ok (.invokevirtual 83, 3) := by decide +kernel
theorem dJ5_append_c97b9_21 : decode cJ5_append_c97b9 21 = .ok (.ifCond .eq 16, 3) := by decide +kernel
theorem dJ5_append_c97b9_24 : decode cJ5_append_c97b9 24 = .ok (.iload_n 1, 1) := by decide +kernel
theorem dJ5_append_c97b9_25 : decode cJ5_append_c97b9 25 = .ok (.iload_n 3, 1) := by decide +kernel
theorem dJ5_append_c97b9_26 : decode cJ5_append_c97b9 26 = .ok (.aload_n 0, 1) := by decide +kernel
theorem dJ5_append_c97b9_27 : decode cJ5_append_c97b9 27 = .ok (.getfield 15, 3) := by decide +kernel
theorem dJ5_append_c97b9_30 : decode cJ5_append_c97b9 30 = .ok (.invokestatic 248, 3) := by decide +kernel
theorem dJ5_append_c97b9_33 : decode cJ5_append_c97b9 33 = .ok (.pop, 1) := by decide +kernel
theorem dJ5_append_c97b9_34 : decode cJ5_append_c97b9 34 = .ok (.goto 14, 3) := by decide +kernel
theorem dJ5_append_c97b9_37 : decode cJ5_append_c97b9 37 = .ok (.iload_n 1, 1) := by decide +kernel
theorem dJ5_append_c97b9_38 : decode cJ5_append_c97b9 38 = .ok (.iload_n 2, 1) := by decide +kernel
theorem dJ5_append_c97b9_39 : decode cJ5_append_c97b9 39 = .ok (.iload_n 3, 1) := by decide +kernel
theorem dJ5_append_c97b9_40 : decode cJ5_append_c97b9 40 = .ok (.aload_n 0, 1) := by decide +kernel
theorem dJ5_append_c97b9_41 : decode cJ5_append_c97b9 41 = .ok (.getfield 15, 3) := by decide +kernel
theorem dJ5_append_c97b9_44 : decode cJ5_append_c97b9 44 = .ok (.invokestatic 251, 3) := by decide +kernel
theorem dJ5_append_c97b9_47 : decode cJ5_append_c97b9 47 = .ok (.pop, 1) := by decide +kernel
theorem dJ5_append_c97b9_48 : decode cJ5_append_c97b9 48 = .ok (.aload_n 0, 1) := by decide +kernel
theorem dJ5_append_c97b9_49 : decode cJ5_append_c97b9 49 = .ok (.iload_n 3, 1) := by decide +kernel
theorem dJ5_append_c97b9_50 : decode cJ5_append_c97b9 50 = .ok (.putfield 79, 3) := by decide +kernel
theorem dJ5_append_c97b9_53 : decode cJ5_append_c97b9 53 = .ok (.aload_n 0, 1) := by decide +kernel
theorem dJ5_append_c97b9_54 : decode cJ5_append_c97b9 54 = .ok (.areturn, 1) := by decide +kernel
theorem dJ5_getValue_6d5f1_0 : decode cJ5_getValue_6d5f1 0 = .ok (.aload_n 0, 1) := by decide +kernel
theorem dJ5_getValue_6d5f1_1 : decode cJ5_getValue_6d5f1 1 = .ok (.getfield 15, 3) := by decide +kernel
theorem dJ5_getValue_6d5f1_4 : decode cJ5_getValue_6d5f1 4 = .ok (.areturn, 1) := by decide +kernel
theorem dJ5_isLatin1_aae02_0 : decode cJ5_isLatin1_aae02 0 = .ok (.getstatic 18, 3) := by decide +kernel
theorem dJ5_isLatin1_aae02_3 : decode cJ5_isLatin1_aae02 3 = .ok (.ifCond .eq 14, 3) := by decide +kernel
theorem dJ5_isLatin1_aae02_6 : decode cJ5_isLatin1_aae02 6 = .ok (.aload_n 0, 1) := by decide +kernel
theorem dJ5_isLatin1_aae02_7 : decode cJ5_isLatin1_aae02 7 = .ok (.getfield 22, 3) := by decide +kernel
theorem dJ5_isLatin1_aae02_10 : decode cJ5_isLatin1_aae02 10 = .ok (.ifCond .ne 7, 3) := by decide +kernel
theorem dJ5_isLatin1_aae02_13 : decode cJ5_isLatin1_aae02 13 = .ok (.iconst 1, 1) := by decide +kernel
theorem dJ5_isLatin1_aae02_14 : decode cJ5_isLatin1_aae02 14 = .ok (.goto 4, 3) := by decide +kernel
theorem dJ5_isLatin1_aae02_17 : decode cJ5_isLatin1_aae02 17 = .ok (.iconst 0, 1) := by decide +kernel
theorem dJ5_isLatin1_aae02_18 : decode cJ5_isLatin1_aae02 18 = .ok (.ireturn, 1) := by decide +kernel
theorem dJ5_inflateIfNeededFor_a7421_0 : decode cJ5_inflateIfNeededFor_a7421 0 = .ok (.getstatic 18, 3) := by decide +kernel
theorem dJ5_inflateIfNeededFor_a7421_3 : decode cJ5_inflateIfNeededFor_a7421 3 = .ok (.ifCond .eq 18, 3) := by decide +kernel
theorem dJ5_inflateIfNeededFor_a7421_6 : decode cJ5_inflateIfNeededFor_a7421 6 = .ok (.aload_n 0, 1) := by decide +kernel
theorem dJ5_inflateIfNeededFor_a7421_7 : decode cJ5_inflateIfNeededFor_a7421 7 = .ok (.getfield 22, 3) := by decide +kernel
theorem dJ5_inflateIfNeededFor_a7421_10 : decode cJ5_inflateIfNeededFor_a7421 10 = .ok (.aload_n 1, 1) := by decide +kernel
theorem dJ5_inflateIfNeededFor_a7421_11 : decode cJ5_inflateIfNeededFor_a7421 11 = .ok (.invokevirtual 40, 3) := by decide +kernel
theorem dJ5_inflateIfNeededFor_a7421_14 : decode cJ5_inflateIfNeededFor_a7421 14 = .ok (.if_icmp .eq 7, 3) := by decide +kernel
theorem dJ5_inflateIfNeededFor_a7421_17 : decode cJ5_inflateIfNeededFor_a7421 17 = .ok (.aload_n 0, 1) := by decide +kernel
theorem dJ5_inflateIfNeededFor_a7421_18 : decode cJ5_inflateIfNeededFor_a7421 18 = .ok (.invokevirtual 195, 3) := by decide +kernel
theorem dJ5_inflateIfNeededFor_a7421_21 : decode cJ5_inflateIfNeededFor_a7421 21 = .ok (.return_, 1) := by decide +kernel
theorem dJ5_putStringAt_47b60_0 : decode cJ5_putStringAt_47b60 0 = .ok (.aload_n 0, 1) := by decide +kernel
theorem dJ5_putStringAt_47b60_1 : decode cJ5_putStringAt_47b60 1 = .ok (.aload_n 2, 1) := by decide +kernel
theorem dJ5_putStringAt_47b60_2 : decode cJ5_putStringAt_47b60 2 = .ok (.invokevirtual 397, 3) := by decide +kernel
theorem dJ5_putStringAt_47b60_5 : decode cJ5_putStringAt_47b60 5 = .ok (.aload_n 2, 1) := by decide +kernel
theorem dJ5_putStringAt_47b60_6 : decode cJ5_putStringAt_47b60 6 = .ok (.aload_n 0, 1) := by decide +kernel
theorem dJ5_putStringAt_47b60_7 : decode cJ5_putStringAt_47b60 7 = .ok (.getfield 15, 3) := by decide +kernel
theorem dJ5_putStringAt_47b60_10 : decode cJ5_putStringAt_47b60 10 = .ok (.iload_n 1, 1) := by decide +kernel
theorem dJ5_putStringAt_47b60_11 : decode cJ5_putStringAt_47b60 11 = .ok (.aload_n 0, 1) := by decide +kernel
theorem dJ5_putStringAt_47b60_12 : decode cJ5_putStringAt_47b60 12 = .ok (.getfield 22, 3) := by decide +kernel
theorem dJ5_putStringAt_47b60_15 : decode cJ5_putStringAt_47b60 15 = .ok (.invokevirtual 399, 3) := by decide +kernel
theorem dJ5_putStringAt_47b60_18 : decode cJ5_putStringAt_47b60 18 = .ok (.return_, 1) := by decide +kernel
theorem dJx00060_init_d00df_0 : decode cJx00060_init_d00df 0 = .ok (.aload_n 0, 1) := by decide +kernel
theorem dJx00060_init_d00df_1 : decode cJx00060_init_d00df 1 = .ok (.new 10, 3) := by decide +kernel
theorem dJx00060_init_d00df_4 : decode cJx00060_init_d00df 4 = .ok (.dup, 1) := by decide +kernel
theorem dJx00060_init_d00df_5 : decode cJx00060_init_d00df 5 = .ok (.invokespecial 12, 3) := by decide +kernel
theorem dJx00060_init_d00df_8 : decode cJx00060_init_d00df 8 = .ok (.ldc 13, 2) := by decide +kernel
theorem dJx00060_init_d00df_10 : decode cJx00060_init_d00df 10 = .ok (.invokevirtual 15, 3) := by decide +kernel
theorem dJx00060_init_d00df_13 : decode cJx00060_init_d00df 13 = .ok (.iload_n 1, 1) := by decide +kernel
theorem dJx00060_init_d00df_14 : decode cJx00060_init_d00df 14 = .ok (.invokevirtual 19, 3) := by decide +kernel
theorem dJx00060_init_d00df_17 : decode cJx00060_init_d00df 17 = .ok (.invokevirtual 22, 3) := by decide +kernel
theorem dJx00060_init_d00df_20 : decode cJx00060_init_d00df 20 = .ok (.invokespecial 7, 3) := by decide +kernel
theorem dJx00060_init_d00df_23 : decode cJx00060_init_d00df 23 = .ok (.return_, 1) := by decide +kernel
theorem dJ6_getChars_ba4f3_0 : decode cJ6_getChars_ba4f3 0 = .ok (.iload_n 1, 1) := by decide +kernel
theorem dJ6_getChars_ba4f3_1 : decode cJ6_getChars_ba4f3 1 = .ok (.istore 5, 2) := by decide +kernel
theorem dJ6_getChars_ba4f3_3 : decode cJ6_getChars_ba4f3 3 = .ok (.iload_n 0, 1) := by decide +kernel
theorem dJ6_getChars_ba4f3_4 : decode cJ6_getChars_ba4f3 4 = .ok (.ifCond .ge 7, 3) := by decide +kernel
theorem dJ6_getChars_ba4f3_7 : decode cJ6_getChars_ba4f3 7 = .ok (.iconst 1, 1) := by decide +kernel
theorem dJ6_getChars_ba4f3_8 : decode cJ6_getChars_ba4f3 8 = .ok (.goto 4, 3) := by decide +kernel
theorem dJ6_getChars_ba4f3_11 : decode cJ6_getChars_ba4f3 11 = .ok (.iconst 0, 1) := by decide +kernel
theorem dJ6_getChars_ba4f3_12 : decode cJ6_getChars_ba4f3 12 = .ok (.istore 6, 2) := by decide +kernel
theorem dJ6_getChars_ba4f3_14 : decode cJ6_getChars_ba4f3 14 = .ok (.iload 6, 2) := by decide +kernel
theorem dJ6_getChars_ba4f3_16 : decode cJ6_getChars_ba4f3 16 = .ok (.ifCond .ne 6, 3) := by decide +kernel
theorem dJ6_getChars_ba4f3_19 : decode cJ6_getChars_ba4f3 19 = .ok (.iload_n 0, 1) := by decide +kernel
theorem dJ6_getChars_ba4f3_20 : decode cJ6_getChars_ba4f3 20 = .ok (.ineg, 1) := by decide +kernel
theorem dJ6_getChars_ba4f3_21 : decode cJ6_getChars_ba4f3 21 = .ok (.istore_n 0, 1) := by decide +kernel
theorem dJ6_getChars_ba4f3_22 : decode cJ6_getChars_ba4f3 22 = .ok (.iload_n 0, 1) := by decide +kernel
theorem dJ6_getChars_ba4f3_23 : decode cJ6_getChars_ba4f3 23 = .ok (.bipush (-100), 2) := by decide +kernel
theorem dJ6_getChars_ba4f3_25 : decode cJ6_getChars_ba4f3 25 = .ok (.if_icmp .gt 47, 3) := by decide +kernel
theorem dJ6_getChars_ba4f3_28 : decode cJ6_getChars_ba4f3 28 = .ok (.iload_n 0, 1) := by decide +kernel
theorem dJ6_getChars_ba4f3_29 : decode cJ6_getChars_ba4f3 29 = .ok (.bipush 100, 2) := by decide +kernel
theorem dJ6_getChars_ba4f3_31 : decode cJ6_getChars_ba4f3 31 = .ok (.idiv, 1) := by decide +kernel
theorem dJ6_getChars_ba4f3_32 : decode cJ6_getChars_ba4f3 32 = .ok (.istore_n 3, 1) := by decide +kernel
theorem dJ6_getChars_ba4f3_33 : decode cJ6_getChars_ba4f3 33 = .ok (.iload_n 3, 1) := by decide +kernel
theorem dJ6_getChars_ba4f3_34 : decode cJ6_getChars_ba4f3 34 = .ok (.bipush 100, 2) := by decide +kernel
theorem dJ6_getChars_ba4f3_36 : decode cJ6_getChars_ba4f3 36 = .ok (.imul, 1) := by decide +kernel
theorem dJ6_getChars_ba4f3_37 : decode cJ6_getChars_ba4f3 37 = .ok (.iload_n 0, 1) := by decide +kernel
theorem dJ6_getChars_ba4f3_38 : decode cJ6_getChars_ba4f3 38 = .ok (.isub, 1) := by decide +kernel
theorem dJ6_getChars_ba4f3_39 : decode cJ6_getChars_ba4f3 39 = .ok (.istore 4, 2) := by decide +kernel
theorem dJ6_getChars_ba4f3_41 : decode cJ6_getChars_ba4f3 41 = .ok (.iload_n 3, 1) := by decide +kernel
theorem dJ6_getChars_ba4f3_42 : decode cJ6_getChars_ba4f3 42 = .ok (.istore_n 0, 1) := by decide +kernel
theorem dJ6_getChars_ba4f3_43 : decode cJ6_getChars_ba4f3 43 = .ok (.aload_n 2, 1) := by decide +kernel
theorem dJ6_getChars_ba4f3_44 : decode cJ6_getChars_ba4f3 44 = .ok (.iinc 5 (-1), 3) := by decide +kernel
theorem dJ6_getChars_ba4f3_47 : decode cJ6_getChars_ba4f3 47 = .ok (.iload 5, 2) := by decide +kernel
theorem dJ6_getChars_ba4f3_49 : decode cJ6_getChars_ba4f3 49 = .ok (.getstatic 83, 3) := by decide +kernel
theorem dJ6_getChars_ba4f3_52 : decode cJ6_getChars_ba4f3 52 = .ok (.iload 4, 2) := by decide +kernel
theorem dJ6_getChars_ba4f3_54 : decode cJ6_getChars_ba4f3 54 = .ok (.baload, 1) := by decide +kernel
theorem dJ6_getChars_ba4f3_55 : decode cJ6_getChars_ba4f3 55 = .ok (.bastore, 1) := by decide +kernel
theorem dJ6_getChars_ba4f3_56 : decode cJ6_getChars_ba4f3 56 = .ok (.aload_n 2, 1) := by decide +kernel
theorem dJ6_getChars_ba4f3_57 : decode cJ6_getChars_ba4f3 57 = .ok (.iinc 5 (-1), 3) := by decide +kernel
theorem dJ6_getChars_ba4f3_60 : decode cJ6_getChars_ba4f3 60 = .ok (.iload 5, 2) := by decide +kernel
theorem dJ6_getChars_ba4f3_62 : decode cJ6_getChars_ba4f3 62 = .ok (.getstatic 87, 3) := by decide +kernel
theorem dJ6_getChars_ba4f3_65 : decode cJ6_getChars_ba4f3 65 = .ok (.iload 4, 2) := by decide +kernel
theorem dJ6_getChars_ba4f3_67 : decode cJ6_getChars_ba4f3 67 = .ok (.baload, 1) := by decide +kernel
theorem dJ6_getChars_ba4f3_68 : decode cJ6_getChars_ba4f3 68 = .ok (.bastore, 1) := by decide +kernel
theorem dJ6_getChars_ba4f3_69 : decode cJ6_getChars_ba4f3 69 = .ok (.goto (-47), 3) := by decide +kernel
theorem dJ6_getChars_ba4f3_72 : decode cJ6_getChars_ba4f3 72 = .ok (.aload_n 2, 1) := by decide +kernel
theorem dJ6_getChars_ba4f3_73 : decode cJ6_getChars_ba4f3 73 = .ok (.iinc 5 (-1), 3) := by decide +kernel
theorem dJ6_getChars_ba4f3_76 : decode cJ6_getChars_ba4f3 76 = .ok (.iload 5, 2) := by decide +kernel
theorem dJ6_getChars_ba4f3_78 : decode cJ6_getChars_ba4f3 78 = .ok (.getstatic 83, 3) := by decide +kernel
theorem dJ6_getChars_ba4f3_81 : decode cJ6_getChars_ba4f3 81 = .ok (.iload_n 0, 1) := by decide +kernel
theorem dJ6_getChars_ba4f3_82 : decode cJ6_getChars_ba4f3 82 = .ok (.ineg, 1) := by decide +kernel
theorem dJ6_getChars_ba4f3_83 : decode cJ6_getChars_ba4f3 83 = .ok (.baload, 1) := by decide +kernel
theorem dJ6_getChars_ba4f3_84 : decode cJ6_getChars_ba4f3 84 = .ok (.bastore, 1) := by decide +kernel
theorem dJ6_getChars_ba4f3_85 : decode cJ6_getChars_ba4f3 85 = .ok (.iload_n 0, 1) := by decide +kernel
theorem dJ6_getChars_ba4f3_86 : decode cJ6_getChars_ba4f3 86 = .ok (.bipush (-9), 2) := by decide +kernel
theorem dJ6_getChars_ba4f3_88 : decode cJ6_getChars_ba4f3 88 = .ok (.if_icmp .ge 16, 3) := by decide +kernel
theorem dJ6_getChars_ba4f3_91 : decode cJ6_getChars_ba4f3 91 = .ok (.aload_n 2, 1) := by decide +kernel
theorem dJ6_getChars_ba4f3_92 : decode cJ6_getChars_ba4f3 92 = .ok (.iinc 5 (-1), 3) := by decide +kernel
theorem dJ6_getChars_ba4f3_95 : decode cJ6_getChars_ba4f3 95 = .ok (.iload 5, 2) := by decide +kernel
theorem dJ6_getChars_ba4f3_97 : decode cJ6_getChars_ba4f3 97 = .ok (.getstatic 87, 3) := by decide +kernel
theorem dJ6_getChars_ba4f3_100 : decode cJ6_getChars_ba4f3 100 = .ok (.iload_n 0, 1) := by decide +kernel
theorem dJ6_getChars_ba4f3_101 : decode cJ6_getChars_ba4f3 101 = .ok (.ineg, 1) := by decide +kernel
theorem dJ6_getChars_ba4f3_102 : decode cJ6_getChars_ba4f3 102 = .ok (.baload, 1) := by decide +kernel
theorem dJ6_getChars_ba4f3_103 : decode cJ6_getChars_ba4f3 103 = .ok (.bastore, 1) := by decide +kernel
theorem dJ6_getChars_ba4f3_104 : decode cJ6_getChars_ba4f3 104 = .ok (.iload 6, 2) := by decide +kernel
theorem dJ6_getChars_ba4f3_106 : decode cJ6_getChars_ba4f3 106 = .ok (.ifCond .eq 12, 3) := by decide +kernel
theorem dJ6_getChars_ba4f3_109 : decode cJ6_getChars_ba4f3 109 = .ok (.aload_n 2, 1) := by decide +kernel
theorem dJ6_getChars_ba4f3_110 : decode cJ6_getChars_ba4f3 110 = .ok (.iinc 5 (-1), 3) := by decide +kernel
theorem dJ6_getChars_ba4f3_113 : decode cJ6_getChars_ba4f3 113 = .ok (.iload 5, 2) := by decide +kernel
theorem dJ6_getChars_ba4f3_115 : decode cJ6_getChars_ba4f3 115 = .ok (.bipush 45, 2) := by decide +kernel
theorem dJ6_getChars_ba4f3_117 : decode cJ6_getChars_ba4f3 117 = .ok (.bastore, 1) := by decide +kernel
theorem dJ6_getChars_ba4f3_118 : decode cJ6_getChars_ba4f3 118 = .ok (.iload 5, 2) := by decide +kernel
theorem dJ6_getChars_ba4f3_120 : decode cJ6_getChars_ba4f3 120 = .ok (.ireturn, 1) := by decide +kernel
theorem dJ6_stringSize_0f7a4_0 : decode cJ6_stringSize_0f7a4 0 = .ok (.iconst 1, 1) := by decide +kernel
theorem dJ6_stringSize_0f7a4_1 : decode cJ6_stringSize_0f7a4 1 = .ok (.istore_n 1, 1) := by decide +kernel
theorem dJ6_stringSize_0f7a4_2 : decode cJ6_stringSize_0f7a4 2 = .ok (.iload_n 0, 1) := by decide +kernel
theorem dJ6_stringSize_0f7a4_3 : decode cJ6_stringSize_0f7a4 3 = .ok (.ifCond .lt 8, 3) := by decide +kernel
theorem dJ6_stringSize_0f7a4_6 : decode cJ6_stringSize_0f7a4 6 = .ok (.iconst 0, 1) := by decide +kernel
theorem dJ6_stringSize_0f7a4_7 : decode cJ6_stringSize_0f7a4 7 = .ok (.istore_n 1, 1) := by decide +kernel
theorem dJ6_stringSize_0f7a4_8 : decode cJ6_stringSize_0f7a4 8 = .ok (.iload_n 0, 1) := by decide +kernel
theorem dJ6_stringSize_0f7a4_9 : decode cJ6_stringSize_0f7a4 9 = .ok (.ineg, 1) := by decide +kernel
theorem dJ6_stringSize_0f7a4_10 : decode cJ6_stringSize_0f7a4 10 = .ok (.istore_n 0, 1) := by decide +kernel
theorem dJ6_stringSize_0f7a4_11 : decode cJ6_stringSize_0f7a4 11 = .ok (.bipush (-10), 2) := by decide +kernel
theorem dJ6_stringSize_0f7a4_13 : decode cJ6_stringSize_0f7a4 13 = .ok (.istore_n 2, 1) := by decide +kernel
theorem dJ6_stringSize_0f7a4_14 : decode cJ6_stringSize_0f7a4 14 = .ok (.iconst 1, 1) := by decide +kernel
theorem dJ6_stringSize_0f7a4_15 : decode cJ6_stringSize_0f7a4 15 = .ok (.istore_n 3, 1) := by decide +kernel
theorem dJ6_stringSize_0f7a4_16 : decode cJ6_stringSize_0f7a4 16 = .ok (.iload_n 3, 1) := by decide +kernel
theorem dJ6_stringSize_0f7a4_17 : decode cJ6_stringSize_0f7a4 17 = .ok (.bipush 10, 2) := by decide +kernel
theorem dJ6_stringSize_0f7a4_19 : decode cJ6_stringSize_0f7a4 19 = .ok (.if_icmp .ge 23, 3) := by decide +kernel
theorem dJ6_stringSize_0f7a4_22 : decode cJ6_stringSize_0f7a4 22 = .ok (.iload_n 0, 1) := by decide +kernel
theorem dJ6_stringSize_0f7a4_23 : decode cJ6_stringSize_0f7a4 23 = .ok (.iload_n 2, 1) := by decide +kernel
theorem dJ6_stringSize_0f7a4_24 : decode cJ6_stringSize_0f7a4 24 = .ok (.if_icmp .le 7, 3) := by decide +kernel
theorem dJ6_stringSize_0f7a4_27 : decode cJ6_stringSize_0f7a4 27 = .ok (.iload_n 3, 1) := by decide +kernel
theorem dJ6_stringSize_0f7a4_28 : decode cJ6_stringSize_0f7a4 28 = .ok (.iload_n 1, 1) := by decide +kernel
theorem dJ6_stringSize_0f7a4_29 : decode cJ6_stringSize_0f7a4 29 = .ok (.iadd, 1) := by decide +kernel
theorem dJ6_stringSize_0f7a4_30 : decode cJ6_stringSize_0f7a4 30 = .ok (.ireturn, 1) := by decide +kernel
theorem dJ6_stringSize_0f7a4_31 : decode cJ6_stringSize_0f7a4 31 = .ok (.bipush 10, 2) := by decide +kernel
theorem dJ6_stringSize_0f7a4_33 : decode cJ6_stringSize_0f7a4 33 = .ok (.iload_n 2, 1) := by decide +kernel
theorem dJ6_stringSize_0f7a4_34 : decode cJ6_stringSize_0f7a4 34 = .ok (.imul, 1) := by decide +kernel
theorem dJ6_stringSize_0f7a4_35 : decode cJ6_stringSize_0f7a4 35 = .ok (.istore_n 2, 1) := by decide +kernel
theorem dJ6_stringSize_0f7a4_36 : decode cJ6_stringSize_0f7a4 36 = .ok (.iinc 3 1, 3) := by decide +kernel
theorem dJ6_stringSize_0f7a4_39 : decode cJ6_stringSize_0f7a4 39 = .ok (.goto (-23), 3) := by decide +kernel
theorem dJ6_stringSize_0f7a4_42 : decode cJ6_stringSize_0f7a4 42 = .ok (.bipush 10, 2) := by decide +kernel
theorem dJ6_stringSize_0f7a4_44 : decode cJ6_stringSize_0f7a4 44 = .ok (.iload_n 1, 1) := by decide +kernel
theorem dJ6_stringSize_0f7a4_45 : decode cJ6_stringSize_0f7a4 45 = .ok (.iadd, 1) := by decide +kernel
theorem dJ6_stringSize_0f7a4_46 : decode cJ6_stringSize_0f7a4 46 = .ok (.ireturn, 1) := by decide +kernel
theorem dJ9_abs_067f4_0 : decode cJ9_abs_067f4 0 = .ok (.lload_n 0, 1) := by decide +kernel
theorem dJ9_abs_067f4_1 : decode cJ9_abs_067f4 1 = .ok (.lconst 0, 1) := by decide +kernel
theorem dJ9_abs_067f4_2 : decode cJ9_abs_067f4 2 = .ok (.lcmp, 1) := by decide +kernel
theorem dJ9_abs_067f4_3 : decode cJ9_abs_067f4 3 = .ok (.ifCond .ge 8, 3) := by decide +kernel
theorem dJ9_abs_067f4_6 : decode cJ9_abs_067f4 6 = .ok (.lload_n 0, 1) := by decide +kernel
theorem dJ9_abs_067f4_7 : decode cJ9_abs_067f4 7 = .ok (.lneg, 1) := by decide +kernel
theorem dJ9_abs_067f4_8 : decode cJ9_abs_067f4 8 = .ok (.goto 4, 3) := by decide +kernel
theorem dJ9_abs_067f4_11 : decode cJ9_abs_067f4 11 = .ok (.lload_n 0, 1) := by decide +kernel
theorem dJ9_abs_067f4_12 : decode cJ9_abs_067f4 12 = .ok (.lreturn, 1) := by decide +kernel
theorem dJ9_max_7cf53_0 : decode cJ9_max_7cf53 0 = .ok (.iload_n 0, 1) := by decide +kernel
theorem dJ9_max_7cf53_1 : decode cJ9_max_7cf53 1 = .ok (.iload_n 1, 1) := by decide +kernel
theorem dJ9_max_7cf53_2 : decode cJ9_max_7cf53 2 = .ok (.if_icmp .lt 7, 3) := by decide +kernel
theorem dJ9_max_7cf53_5 : decode cJ9_max_7cf53 5 = .ok (.iload_n 0, 1) := by decide +kernel
theorem dJ9_max_7cf53_6 : decode cJ9_max_7cf53 6 = .ok (.goto 4, 3) := by decide +kernel
theorem dJ9_max_7cf53_9 : decode cJ9_max_7cf53 9 = .ok (.iload_n 1, 1) := by decide +kernel
theorem dJ9_max_7cf53_10 : decode cJ9_max_7cf53 10 = .ok (.ireturn, 1) := by decide +kernel
theorem dJ9_min_7cf53_0 : decode cJ9_min_7cf53 0 = .ok (.iload_n 0, 1) := by decide +kernel
theorem dJ9_min_7cf53_1 : decode cJ9_min_7cf53 1 = .ok (.iload_n 1, 1) := by decide +kernel
theorem dJ9_min_7cf53_2 : decode cJ9_min_7cf53 2 = .ok (.if_icmp .gt 7, 3) := by decide +kernel
theorem dJ9_min_7cf53_5 : decode cJ9_min_7cf53 5 = .ok (.iload_n 0, 1) := by decide +kernel
theorem dJ9_min_7cf53_6 : decode cJ9_min_7cf53 6 = .ok (.goto 4, 3) := by decide +kernel
theorem dJ9_min_7cf53_9 : decode cJ9_min_7cf53 9 = .ok (.iload_n 1, 1) := by decide +kernel
theorem dJ9_min_7cf53_10 : decode cJ9_min_7cf53 10 = .ok (.ireturn, 1) := by decide +kernel
theorem dJ0_init_81219_0 : decode cJ0_init_81219 0 = .ok (.aload_n 0, 1) := by decide +kernel
theorem dJ0_init_81219_1 : decode cJ0_init_81219 1 = .ok (.aload_n 1, 1) := by decide +kernel
theorem dJ0_init_81219_2 : decode cJ0_init_81219 2 = .ok (.aconst_null, 1) := by decide +kernel
theorem dJ0_init_81219_3 : decode cJ0_init_81219 3 = .ok (.invokespecial 489, 3) := by decide +kernel
theorem dJ0_init_81219_6 : decode cJ0_init_81219 6 = .ok (.return_, 1) := by decide +kernel
theorem dJ0_length_8abf5_0 : decode cJ0_length_8abf5 0 = .ok (.aload_n 0, 1) := by decide +kernel
theorem dJ0_length_8abf5_1 : decode cJ0_length_8abf5 1 = .ok (.getfield 9, 3) := by decide +kernel
theorem dJ0_length_8abf5_4 : decode cJ0_length_8abf5 4 = .ok (.arraylength, 1) := by decide +kernel
theorem dJ0_length_8abf5_5 : decode cJ0_length_8abf5 5 = .ok (.aload_n 0, 1) := by decide +kernel
theorem dJ0_length_8abf5_6 : decode cJ0_length_8abf5 6 = .ok (.invokevirtual 335, 3) := by decide +kernel
theorem dJ0_length_8abf5_9 : decode cJ0_length_8abf5 9 = .ok (.ishr, 1) := by decide +kernel
theorem dJ0_length_8abf5_10 : decode cJ0_length_8abf5 10 = .ok (.ireturn, 1) := by decide +kernel
theorem dJ0_getBytes_840e7_0 : decode cJ0_getBytes_840e7 0 = .ok (.aload_n 0, 1) := by decide +kernel
theorem dJ0_getBytes_840e7_1 : decode cJ0_getBytes_840e7 1 = .ok (.invokevirtual 335, 3) := by decide +kernel
theorem dJ0_getBytes_840e7_4 : decode cJ0_getBytes_840e7 4 = .ok (.iload_n 3, 1) := by decide +kernel
theorem dJ0_getBytes_840e7_5 : decode cJ0_getBytes_840e7 5 = .ok (.if_icmp .ne 23, 3) := by decide +kernel
theorem dJ0_getBytes_840e7_8 : decode cJ0_getBytes_840e7 8 = .ok (.aload_n 0, 1) := by decide +kernel
theorem dJ0_getBytes_840e7_9 : decode cJ0_getBytes_840e7 9 = .ok (.getfield 9, 3) := by decide +kernel
theorem dJ0_getBytes_840e7_12 : decode cJ0_getBytes_840e7 12 = .ok (.iconst 0, 1) := by decide +kernel
theorem dJ0_getBytes_840e7_13 : decode cJ0_getBytes_840e7 13 = .ok (.aload_n 1, 1) := by decide +kernel
theorem dJ0_getBytes_840e7_14 : decode cJ0_getBytes_840e7 14 = .ok (.iload_n 2, 1) := by decide +kernel
theorem dJ0_getBytes_840e7_15 : decode cJ0_getBytes_840e7 15 = .ok (.iload_n 3, 1) := by decide +kernel
theorem dJ0_getBytes_840e7_16 : decode cJ0_getBytes_840e7 16 = .ok (.ishl, 1) := by decide +kernel
theorem dJ0_getBytes_840e7_17 : decode cJ0_getBytes_840e7 17 = .ok (.aload_n 0, 1) := by decide +kernel
theorem dJ0_getBytes_840e7_18 : decode cJ0_getBytes_840e7 18 = .ok (.getfield 9, 3) := by decide +kernel
theorem dJ0_getBytes_840e7_21 : decode cJ0_getBytes_840e7 21 = .ok (.arraylength, 1) := by decide +kernel
theorem dJ0_getBytes_840e7_22 : decode cJ0_getBytes_840e7 22 = .ok (.invokestatic 212, 3) := by decide +kernel
theorem dJ0_getBytes_840e7_25 : decode cJ0_getBytes_840e7 25 = .ok (.goto 18, 3) := by decide +kernel
theorem dJ0_getBytes_840e7_28 : decode cJ0_getBytes_840e7 28 = .ok (.aload_n 0, 1) := by decide +kernel
theorem dJ0_getBytes_840e7_29 : decode cJ0_getBytes_840e7 29 = .ok (.getfield 9, 3) := by decide +kernel
theorem dJ0_getBytes_840e7_32 : decode cJ0_getBytes_840e7 32 = .ok (.iconst 0, 1) := by decide +kernel
theorem dJ0_getBytes_840e7_33 : decode cJ0_getBytes_840e7 33 = .ok (.aload_n 1, 1) := by decide +kernel
theorem dJ0_getBytes_840e7_34 : decode cJ0_getBytes_840e7 34 = .ok (.iload_n 2, 1) := by decide +kernel
theorem dJ0_getBytes_840e7_35 : decode cJ0_getBytes_840e7 35 = .ok (.aload_n 0, 1) := by decide +kernel
theorem dJ0_getBytes_840e7_36 : decode cJ0_getBytes_840e7 36 = .ok (.getfield 9, 3) := by decide +kernel
theorem dJ0_getBytes_840e7_39 : decode cJ0_getBytes_840e7 39 = .ok (.arraylength, 1) := by decide +kernel
theorem dJ0_getBytes_840e7_40 : decode cJ0_getBytes_840e7 40 = .ok (.invokestatic 106, 3) := by decide +kernel
theorem dJ0_getBytes_840e7_43 : decode cJ0_getBytes_840e7 43 = .ok (.return_, 1) := by decide +kernel
theorem dJ0_init_db425_0 : decode cJ0_init_db425 0 = .ok (.aload_n 0, 1) := by decide +kernel
theorem dJ0_init_db425_1 : decode cJ0_init_db425 1 = .ok (.invokespecial 1, 3) := by decide +kernel
theorem dJ0_init_db425_4 : decode cJ0_init_db425 4 = .ok (.aload_n 1, 1) := by decide +kernel
theorem dJ0_init_db425_5 : decode cJ0_init_db425 5 = .ok (.invokevirtual 552, 3) := by decide +kernel
theorem dJ0_init_db425_8 : decode cJ0_init_db425 8 = .ok (.astore_n 3, 1) := by decide +kernel
theorem dJ0_init_db425_9 : decode cJ0_init_db425 9 = .ok (.aload_n 1, 1) := by decide +kernel
theorem dJ0_init_db425_10 : decode cJ0_init_db425 10 = .ok (.invokevirtual 549, 3) := by decide +kernel
theorem dJ0_init_db425_13 : decode cJ0_init_db425 13 = .ok (.istore 4, 2) := by decide +kernel
theorem dJ0_init_db425_15 : decode cJ0_init_db425 15 = .ok (.aload_n 1, 1) := by decide +kernel
theorem dJ0_init_db425_16 : decode cJ0_init_db425 16 = .ok (.invokevirtual 1047, 3) := by decide +kernel
theorem dJ0_init_db425_19 : decode cJ0_init_db425 19 = .ok (.ifCond .eq 22, 3) := by decide +kernel
theorem dJ0_init_db425_22 : decode cJ0_init_db425 22 = .ok (.aload_n 0, 1) := by decide +kernel
theorem dJ0_init_db425_23 : decode cJ0_init_db425 23 = .ok (.iconst 0, 1) := by decide +kernel
theorem dJ0_init_db425_24 : decode cJ0_init_db425 24 = .ok (.putfield 15, 3) := by decide +kernel
theorem dJ0_init_db425_27 : decode cJ0_init_db425 27 = .ok (.aload_n 0, 1) := by decide +kernel
theorem dJ0_init_db425_28 : decode cJ0_init_db425 28 = .ok (.aload_n 3, 1) := by decide +kernel
theorem dJ0_init_db425_29 : decode cJ0_init_db425 29 = .ok (.iconst 0, 1) := by decide +kernel
theorem dJ0_init_db425_30 : decode cJ0_init_db425 30 = .ok (.iload 4, 2) := by decide +kernel
theorem dJ0_init_db425_32 : decode cJ0_init_db425 32 = .ok (.invokestatic 54, 3) := by decide +kernel
theorem dJ0_init_db425_35 : decode cJ0_init_db425 35 = .ok (.putfield 9, 3) := by decide +kernel
theorem dJ0_init_db425_38 : decode cJ0_init_db425 38 = .ok (.goto 59, 3) := by decide +kernel
theorem dJ0_init_db425_41 : decode cJ0_init_db425 41 = .ok (.getstatic 38, 3) := by decide +kernel
theorem dJ0_init_db425_44 : decode cJ0_init_db425 44 = .ok (.ifCond .eq 35, 3) := by decide +kernel
theorem dJ0_init_db425_47 : decode cJ0_init_db425 47 = .ok (.aload_n 1, 1) := by decide +kernel
theorem dJ0_init_db425_48 : decode cJ0_init_db425 48 = .ok (.getfield 1048, 3) := by decide +kernel
theorem dJ0_init_db425_51 : decode cJ0_init_db425 51 = .ok (.ifCond .eq 28, 3) := by decide +kernel
theorem dJ0_init_db425_54 : decode cJ0_init_db425 54 = .ok (.aload_n 0, 1) := by decide +kernel
theorem dJ0_init_db425_55 : decode cJ0_init_db425 55 = .ok (.aload_n 3, 1) := by decide +kernel
theorem dJ0_init_db425_56 : decode cJ0_init_db425 56 = .ok (.iconst 0, 1) := by decide +kernel
theorem dJ0_init_db425_57 : decode cJ0_init_db425 57 = .ok (.iload 4, 2) := by decide +kernel
theorem dJ0_init_db425_59 : decode cJ0_init_db425 59 = .ok (.invokestatic 1051, 3) := by decide +kernel
theorem dJ0_init_db425_62 : decode cJ0_init_db425 62 = .ok (.putfield 9, 3) := by decide +kernel
theorem dJ0_init_db425_65 : decode cJ0_init_db425 65 = .ok (.aload_n 0, 1) := by decide +kernel
theorem dJ0_init_db425_66 : decode cJ0_init_db425 66 = .ok (.aload_n 0, 1) := by decide +kernel
theorem dJ0_init_db425_67 : decode cJ0_init_db425 67 = .ok (.getfield 9, 3) := by decide +kernel
theorem dJ0_init_db425_70 : decode cJ0_init_db425 70 = .ok (.iload 4, 2) := by decide +kernel
theorem dJ0_init_db425_72 : decode cJ0_init_db425 72 = .ok (.invokestatic 47, 3) := by decide +kernel
theorem dJ0_init_db425_75 : decode cJ0_init_db425 75 = .ok (.putfield 15, 3) := by decide +kernel
theorem dJ0_init_db425_78 : decode cJ0_init_db425 78 = .ok (.return_, 1) := by decide +kernel
theorem dJ0_init_db425_79 : decode cJ0_init_db425 79 = .ok (.aload_n 0, 1) := by decide +kernel
theorem dJ0_init_db425_80 : decode cJ0_init_db425 80 = .ok (.iconst 1, 1) := by decide +kernel
theorem dJ0_init_db425_81 : decode cJ0_init_db425 81 = .ok (.putfield 15, 3) := by decide +kernel
theorem dJ0_init_db425_84 : decode cJ0_init_db425 84 = .ok (.aload_n 0, 1) := by decide +kernel
theorem dJ0_init_db425_85 : decode cJ0_init_db425 85 = .ok (.aload_n 3, 1) := by decide +kernel
theorem dJ0_init_db425_86 : decode cJ0_init_db425 86 = .ok (.iconst 0, 1) := by decide +kernel
theorem dJ0_init_db425_87 : decode cJ0_init_db425 87 = .ok (.iload 4, 2) := by decide +kernel
theorem dJ0_init_db425_89 : decode cJ0_init_db425 89 = .ok (.iconst 1, 1) := by decide +kernel
theorem dJ0_init_db425_90 : decode cJ0_init_db425 90 = .ok (.ishl, 1) := by decide +kernel
theorem dJ0_init_db425_91 : decode cJ0_init_db425 91 = .ok (.invokestatic 54, 3) := by decide +kernel
theorem dJ0_init_db425_94 : decode cJ0_init_db425 94 = .ok (.putfield 9, 3) := by decide +kernel
theorem dJ0_init_db425_97 : decode cJ0_init_db425 97 = .ok (.return_, 1) := by decide +kernel
theorem dJ0_coder_7d493_0 : decode cJ0_coder_7d493 0 = .ok (.getstatic 38, 3) := by decide +kernel
theorem dJ0_coder_7d493_3 : decode cJ0_coder_7d493 3 = .ok (.ifCond .eq 10, 3) := by decide +kernel
theorem dJ0_coder_7d493_6 : decode cJ0_coder_7d493 6 = .ok (.aload_n 0, 1) := by decide +kernel
theorem dJ0_coder_7d493_7 : decode cJ0_coder_7d493 7 = .ok (.getfield 15, 3) := by decide +kernel
theorem dJ0_coder_7d493_10 : decode cJ0_coder_7d493 10 = .ok (.goto 4, 3) := by decide +kernel
theorem dJ0_coder_7d493_13 : decode cJ0_coder_7d493 13 = .ok (.iconst 1, 1) := by decide +kernel
theorem dJ0_coder_7d493_14 : decode cJ0_coder_7d493 14 = .ok (.ireturn, 1) := by decide +kernel
theorem dJ0_checkIndex_df160_0 : decode cJ0_checkIndex_df160 0 = .ok (.iload_n 0, 1) := by decide +kernel
theorem dJ0_checkIndex_df160_1 : decode cJ0_checkIndex_df160 1 = .ok (.iload_n 1, 1) := by decide +kernel
theorem dJ0_checkIndex_df160_2 : decode cJ0_checkIndex_df160 2 = .ok (.getstatic 1053, 3) := by decide +kernel
theorem dJ0_checkIndex_df160_5 : decode cJ0_checkIndex_df160 5 = .ok (.invokestatic 1059, 3) := by decide +kernel
theorem dJ0_checkIndex_df160_8 : decode cJ0_checkIndex_df160 8 = .ok (.pop, 1) := by decide +kernel
theorem dJ0_checkIndex_df160_9 : decode cJ0_checkIndex_df160 9 = .ok (.return_, 1) := by decide +kernel
theorem dJ0_checkBoundsOffCount_cabcc_0 : decode cJ0_checkBoundsOffCount_cabcc 0 = .ok (.iload_n 0, 1) := by decide +kernel
theorem dJ0_checkBoundsOffCount_cabcc_1 : decode cJ0_checkBoundsOffCount_cabcc 1 = .ok (.iload_n 1, 1) := by decide +kernel
theorem dJ0_checkBoundsOffCount_cabcc_2 : decode cJ0_checkBoundsOffCount_cabcc 2 = .ok (.iload_n 2, 1) := by decide +kernel
theorem dJ0_checkBoundsOffCount_cabcc_3 : decode cJ0_checkBoundsOffCount_cabcc 3 = .ok (.getstatic 1053, 3) := by decide +kernel
theorem dJ0_checkBoundsOffCount_cabcc_6 : decode cJ0_checkBoundsOffCount_cabcc 6 = .ok (.invokestatic 1065, 3) := by decide +kernel
theorem dJ0_checkBoundsOffCount_cabcc_9 : decode cJ0_checkBoundsOffCount_cabcc 9 = .ok (.ireturn, 1) := by decide +kernel
theorem dJ0_checkBoundsBeginEnd_23922_0 : decode cJ0_checkBoundsBeginEnd_23922 0 = .ok (.iload_n 0, 1) := by decide +kernel
theorem dJ0_checkBoundsBeginEnd_23922_1 : decode cJ0_checkBoundsBeginEnd_23922 1 = .ok (.iload_n 1, 1) := by decide +kernel
theorem dJ0_checkBoundsBeginEnd_23922_2 : decode cJ0_checkBoundsBeginEnd_23922 2 = .ok (.iload_n 2, 1) := by decide +kernel
theorem dJ0_checkBoundsBeginEnd_23922_3 : decode cJ0_checkBoundsBeginEnd_23922 3 = .ok (.getstatic 1053, 3) := by decide +kernel
theorem dJ0_checkBoundsBeginEnd_23922_6 : decode cJ0_checkBoundsBeginEnd_23922 6 = .ok (.invokestatic 1062, 3) := by decide +kernel
theorem dJ0_checkBoundsBeginEnd_23922_9 : decode cJ0_checkBoundsBeginEnd_23922 9 = .ok (.pop, 1) := by decide +kernel
theorem dJ0_checkBoundsBeginEnd_23922_10 : decode cJ0_checkBoundsBeginEnd_23922 10 = .ok (.return_, 1) := by decide +kernel
theorem dJ4_init_da8c8_0 : decode cJ4_init_da8c8 0 = .ok (.aload_n 0, 1) := by decide +kernel
theorem dJ4_init_da8c8_1 : decode cJ4_init_da8c8 1 = .ok (.bipush 16, 2) := by decide +kernel
theorem dJ4_init_da8c8_3 : decode cJ4_init_da8c8 3 = .ok (.invokespecial 1, 3) := by decide +kernel
theorem dJ4_init_da8c8_6 : decode cJ4_init_da8c8 6 = .ok (.return_, 1) := by decide +kernel
theorem dJ4_append_15ec4_0 : decode cJ4_append_15ec4 0 = .ok (.aload_n 0, 1) := by decide +kernel
theorem dJ4_append_15ec4_1 : decode cJ4_append_15ec4 1 = .ok (.aload_n 1, 1) := by decide +kernel
theorem dJ4_append_15ec4_2 : decode cJ4_append_15ec4 2 = .ok (.invokespecial 29, 3) := by decide +kernel
theorem dJ4_append_15ec4_5 : decode cJ4_append_15ec4 5 = .ok (.pop, 1) := by decide +kernel
theorem dJ4_append_15ec4_6 : decode cJ4_append_15ec4 6 = .ok (.aload_n 0, 1) := by decide +kernel
theorem dJ4_append_15ec4_7 : decode cJ4_append_15ec4 7 = .ok (.areturn, 1) := by decide +kernel
theorem dJ4_append_cf468_0 : decode cJ4_append_cf468 0 = .ok (.aload_n 0, 1) := by decide +kernel
theorem dJ4_append_cf468_1 : decode cJ4_append_cf468 1 = .ok (.iload_n 1, 1) := by decide +kernel
theorem dJ4_append_cf468_2 : decode cJ4_append_cf468 2 = .ok (.invokespecial 50, 3) := by decide +kernel
theorem dJ4_append_cf468_5 : decode cJ4_append_cf468 5 = .ok (.pop, 1) := by decide +kernel
theorem dJ4_append_cf468_6 : decode cJ4_append_cf468 6 = .ok (.aload_n 0, 1) := by decide +kernel
theorem dJ4_append_cf468_7 : decode cJ4_append_cf468 7 = .ok (.areturn, 1) := by decide +kernel
theorem dJ4_append_bf812_0 : decode cJ4_append_bf812 0 = .ok (.aload_n 0, 1) := by decide +kernel
theorem dJ4_append_bf812_1 : decode cJ4_append_bf812 1 = .ok (.iload_n 1, 1) := by decide +kernel
theorem dJ4_append_bf812_2 : decode cJ4_append_bf812 2 = .ok (.invokespecial 53, 3) := by decide +kernel
theorem dJ4_append_bf812_5 : decode cJ4_append_bf812 5 = .ok (.pop, 1) := by decide +kernel
theorem dJ4_append_bf812_6 : decode cJ4_append_bf812 6 = .ok (.aload_n 0, 1) := by decide +kernel
theorem dJ4_append_bf812_7 : decode cJ4_append_bf812 7 = .ok (.areturn, 1) := by decide +kernel
theorem dJ4_toString_0e30d_0 : decode cJ4_toString_0e30d 0 = .ok (.new 18, 3) := by decide +kernel
theorem dJ4_toString_0e30d_3 : decode cJ4_toString_0e30d 3 = .ok (.dup, 1) := by decide +kernel
theorem dJ4_toString_0e30d_4 : decode cJ4_toString_0e30d 4 = .ok (.aload_n 0, 1) := by decide +kernel
theorem dJ4_toString_0e30d_5 : decode cJ4_toString_0e30d 5 = .ok (.invokespecial 137, 3) := by decide +kernel
theorem dJ4_toString_0e30d_8 : decode cJ4_toString_0e30d 8 = .ok (.areturn, 1) := by decide +kernel
theorem dJ4_charAt_5068e_0 : decode cJ4_charAt_5068e 0 = .ok (.aload_n 0, 1) := by decide +kernel
theorem dJ4_charAt_5068e_1 : decode cJ4_charAt_5068e 1 = .ok (.iload_n 1, 1) := by decide +kernel
theorem dJ4_charAt_5068e_2 : decode cJ4_charAt_5068e 2 = .ok (.invokespecial 329, 3) := by decide +kernel
theorem dJ4_charAt_5068e_5 : decode cJ4_charAt_5068e 5 = .ok (.ireturn, 1) := by decide +kernel
theorem dJ4_setLength_d00df_0 : decode cJ4_setLength_d00df 0 = .ok (.aload_n 0, 1) := by decide +kernel
theorem dJ4_setLength_d00df_1 : decode cJ4_setLength_d00df 1 = .ok (.iload_n 1, 1) := by decide +kernel
theorem dJ4_setLength_d00df_2 : decode cJ4_setLength_d00df 2 = .ok (.invokespecial 333, 3) := by decide +kernel
theorem dJ4_setLength_d00df_5 : decode cJ4_setLength_d00df 5 = .ok (.return_, 1) := by decide +kernel
theorem dJ4_length_8abf5_0 : decode cJ4_length_8abf5 0 = .ok (.aload_n 0, 1) := by decide +kernel
theorem dJ4_length_8abf5_1 : decode cJ4_length_8abf5 1 = .ok (.invokespecial 343, 3) := by decide +kernel
theorem dJ4_length_8abf5_4 : decode cJ4_length_8abf5 4 = .ok (.ireturn, 1) := by decide +kernel
theorem dJx7c733_init_d00df_0 : decode cJx7c733_init_d00df 0 = .ok (.aload_n 0, 1) := by decide +kernel
theorem dJx7c733_init_d00df_1 : decode cJx7c733_init_d00df 1 = .ok (.new 10, 3) := by decide +kernel
theorem dJx7c733_init_d00df_4 : decode cJx7c733_init_d00df 4 = .ok (.dup, 1) := by decide +kernel
theorem dJx7c733_init_d00df_5 : decode cJx7c733_init_d00df 5 = .ok (.invokespecial 12, 3) := by decide +kernel
theorem dJx7c733_init_d00df_8 : decode cJx7c733_init_d00df 8 = .ok (.ldc 13, 2) := by decide +kernel
theorem dJx7c733_init_d00df_10 : decode cJx7c733_init_d00df 10 = .ok (.invokevirtual 15, 3) := by decide +kernel
theorem dJx7c733_init_d00df_13 : decode cJx7c733_init_d00df 13 = .ok (.iload_n 1, 1) := by decide +kernel
theorem dJx7c733_init_d00df_14 : decode cJx7c733_init_d00df 14 = .ok (.invokevirtual 19, 3) := by decide +kernel
theorem dJx7c733_init_d00df_17 : decode cJx7c733_init_d00df 17 = .ok (.invokevirtual 22, 3) := by decide +kernel
theorem dJx7c733_init_d00df_20 : decode cJx7c733_init_d00df 20 = .ok (.invokespecial 7, 3) := by decide +kernel
theorem dJx7c733_init_d00df_23 : decode cJx7c733_init_d00df 23 = .ok (.return_, 1) := by decide +kernel
theorem dJ1_canEncode_fc78d_0 : decode cJ1_canEncode_fc78d 0 = .ok (.iload_n 0, 1) := by decide +kernel
theorem dJ1_canEncode_fc78d_1 : decode cJ1_canEncode_fc78d 1 = .ok (.sipush 255, 3) := by decide +kernel
theorem dJ1_canEncode_fc78d_4 : decode cJ1_canEncode_fc78d 4 = .ok (.if_icmp .gt 7, 3) := by decide +kernel
theorem dJ1_canEncode_fc78d_7 : decode cJ1_canEncode_fc78d 7 = .ok (.iconst 1, 1) := by decide +kernel
theorem dJ1_canEncode_fc78d_8 : decode cJ1_canEncode_fc78d 8 = .ok (.goto 4, 3) := by decide +kernel
theorem dJ1_canEncode_fc78d_11 : decode cJ1_canEncode_fc78d 11 = .ok (.iconst 0, 1) := by decide +kernel
theorem dJ1_canEncode_fc78d_12 : decode cJ1_canEncode_fc78d 12 = .ok (.ireturn, 1) := by decide +kernel
theorem dJ1_fillNull_b72d1_0 : decode cJ1_fillNull_b72d1 0 = .ok (.aload_n 0, 1) := by decide +kernel
theorem dJ1_fillNull_b72d1_1 : decode cJ1_fillNull_b72d1 1 = .ok (.iload_n 1, 1) := by decide +kernel
theorem dJ1_fillNull_b72d1_2 : decode cJ1_fillNull_b72d1 2 = .ok (.iload_n 2, 1) := by decide +kernel
theorem dJ1_fillNull_b72d1_3 : decode cJ1_fillNull_b72d1 3 = .ok (.iconst 0, 1) := by decide +kernel
theorem dJ1_fillNull_b72d1_4 : decode cJ1_fillNull_b72d1 4 = .ok (.invokestatic 236, 3) := by decide +kernel
theorem dJ1_fillNull_b72d1_7 : decode cJ1_fillNull_b72d1 7 = .ok (.return_, 1) := by decide +kernel
theorem dJ1_inflate_0e8fd_0 : decode cJ1_inflate_0e8fd 0 = .ok (.aload_n 0, 1) := by decide +kernel
theorem dJ1_inflate_0e8fd_1 : decode cJ1_inflate_0e8fd 1 = .ok (.iload_n 1, 1) := by decide +kernel
theorem dJ1_inflate_0e8fd_2 : decode cJ1_inflate_0e8fd 2 = .ok (.aload_n 2, 1) := by decide +kernel
theorem dJ1_inflate_0e8fd_3 : decode cJ1_inflate_0e8fd 3 = .ok (.iload_n 3, 1) := by decide +kernel
theorem dJ1_inflate_0e8fd_4 : decode cJ1_inflate_0e8fd 4 = .ok (.iload 4, 2) := by decide +kernel
theorem dJ1_inflate_0e8fd_6 : decode cJ1_inflate_0e8fd 6 = .ok (.invokestatic 240, 3) := by decide +kernel
theorem dJ1_inflate_0e8fd_9 : decode cJ1_inflate_0e8fd 9 = .ok (.return_, 1) := by decide +kernel
theorem dJ2_newBytesFor_77867_0 : decode cJ2_newBytesFor_77867 0 = .ok (.iload_n 0, 1) := by decide +kernel
theorem dJ2_newBytesFor_77867_1 : decode cJ2_newBytesFor_77867 1 = .ok (.invokestatic 11, 3) := by decide +kernel
theorem dJ2_newBytesFor_77867_4 : decode cJ2_newBytesFor_77867 4 = .ok (.newarray .byte, 2) := by decide +kernel
theorem dJ2_newBytesFor_77867_6 : decode cJ2_newBytesFor_77867 6 = .ok (.areturn, 1) := by decide +kernel
theorem dJ2_newBytesLength_0f7a4_0 : decode cJ2_newBytesLength_0f7a4 0 = .ok (.iload_n 0, 1) := by decide +kernel
theorem dJ2_newBytesLength_0f7a4_1 : decode cJ2_newBytesLength_0f7a4 1 = .ok (.ifCond .ge 11, 3) := by decide +kernel
theorem dJ2_newBytesLength_0f7a4_4 : decode cJ2_newBytesLength_0f7a4 4 = .ok (.new 17, 3) := by decide +kernel
theorem dJ2_newBytesLength_0f7a4_7 : decode cJ2_newBytesLength_0f7a4 7 = .ok (.dup, 1) := by decide +kernel
theorem dJ2_newBytesLength_0f7a4_8 : decode cJ2_newBytesLength_0f7a4 8 = .ok (.invokespecial 19, 3) := by decide +kernel
theorem dJ2_newBytesLength_0f7a4_11 : decode cJ2_newBytesLength_0f7a4 11 = .ok (.athrow, 1) := by decide +kernel
theorem dJ2_newBytesLength_0f7a4_12 : decode cJ2_newBytesLength_0f7a4 12 = .ok (.iload_n 0, 1) := by decide +kernel
theorem dJ2_newBytesLength_0f7a4_13 : decode cJ2_newBytesLength_0f7a4 13 = .ok (.ldc 20, 2) := by decide +kernel
theorem dJ2_newBytesLength_0f7a4_15 : decode cJ2_newBytesLength_0f7a4 15 = .ok (.if_icmp .lt 40, 3) := by decide +kernel
theorem dJ2_newBytesLength_0f7a4_18 : decode cJ2_newBytesLength_0f7a4 18 = .ok (.new 21, 3) := by decide +kernel
theorem dJ2_newBytesLength_0f7a4_21 : decode cJ2_newBytesLength_0f7a4 21 = .ok (.dup, 1) := by decide +kernel
theorem dJ2_newBytesLength_0f7a4_22 : decode cJ2_newBytesLength_0f7a4 22 = .ok (.new 23, 3) := by decide +kernel
theorem dJ2_newBytesLength_0f7a4_25 : decode cJ2_newBytesLength_0f7a4 25 = .ok (.dup, 1) := by decide +kernel
theorem dJ2_newBytesLength_0f7a4_26 : decode cJ2_newBytesLength_0f7a4 26 = .ok (.invokespecial 25, 3) := by decide +kernel
theorem dJ2_newBytesLength_0f7a4_29 : decode cJ2_newBytesLength_0f7a4 29 = .ok (.ldc 26, 2) := by decide +kernel
theorem dJ2_newBytesLength_0f7a4_31 : decode cJ2_newBytesLength_0f7a4 31 = .ok (.invokevirtual 28, 3) := by decide +kernel
theorem dJ2_newBytesLength_0f7a4_34 : decode cJ2_newBytesLength_0f7a4 34 = .ok (.iload_n 0, 1) := by decide +kernel
theorem dJ2_newBytesLength_0f7a4_35 : decode cJ2_newBytesLength_0f7a4 35 = .ok (.invokevirtual 32, 3) := by decide +kernel
theorem dJ2_newBytesLength_0f7a4_38 : decode cJ2_newBytesLength_0f7a4 38 = .ok (.ldc 35, 2) := by decide +kernel
theorem dJ2_newBytesLength_0f7a4_40 : decode cJ2_newBytesLength_0f7a4 40 = .ok (.invokevirtual 28, 3) := by decide +kernel
theorem dJ2_newBytesLength_0f7a4_43 : decode cJ2_newBytesLength_0f7a4 43 = .ok (.ldc 20, 2) := by decide +kernel
theorem dJ2_newBytesLength_0f7a4_45 : decode cJ2_newBytesLength_0f7a4 45 = .ok (.invokevirtual 32, 3) := by decide +kernel
theorem dJ2_newBytesLength_0f7a4_48 : decode cJ2_newBytesLength_0f7a4 48 = .ok (.invokevirtual 37, 3) := by decide +kernel
theorem dJ2_newBytesLength_0f7a4_51 : decode cJ2_newBytesLength_0f7a4 51 = .ok (.invokespecial 41, 3) := by decide +kernel
theorem dJ2_newBytesLength_0f7a4_54 : decode cJ2_newBytesLength_0f7a4 54 = .ok (.athrow, 1) := by decide +kernel
theorem dJ2_newBytesLength_0f7a4_55 : decode cJ2_newBytesLength_0f7a4 55 = .ok (.iload_n 0, 1) := by decide +kernel
theorem dJ2_newBytesLength_0f7a4_56 : decode cJ2_newBytesLength_0f7a4 56 = .ok (.iconst 1, 1) := by decide +kernel
theorem dJ2_newBytesLength_0f7a4_57 : decode cJ2_newBytesLength_0f7a4 57 = .ok (.ishl, 1) := by decide +kernel
theorem dJ2_newBytesLength_0f7a4_58 : decode cJ2_newBytesLength_0f7a4 58 = .ok (.ireturn, 1) := by decide +kernel
theorem dJ2_putChar_b72d1_0 : decode cJ2_putChar_b72d1 0 = .ok (.getstatic 44, 3) := by decide +kernel
theorem dJ2_putChar_b72d1_3 : decode cJ2_putChar_b72d1 3 = .ok (.ifCond .ne 25, 3) := by decide +kernel
theorem dJ2_putChar_b72d1_6 : decode cJ2_putChar_b72d1 6 = .ok (.iload_n 1, 1) := by decide +kernel
theorem dJ2_putChar_b72d1_7 : decode cJ2_putChar_b72d1 7 = .ok (.ifCond .lt 11, 3) := by decide +kernel
theorem dJ2_putChar_b72d1_10 : decode cJ2_putChar_b72d1 10 = .ok (.iload_n 1, 1) := by decide +kernel
theorem dJ2_putChar_b72d1_11 : decode cJ2_putChar_b72d1 11 = .ok (.aload_n 0, 1) := by decide +kernel
theorem dJ2_putChar_b72d1_12 : decode cJ2_putChar_b72d1 12 = .ok (.invokestatic 48, 3) := by decide +kernel
theorem dJ2_putChar_b72d1_15 : decode cJ2_putChar_b72d1 15 = .ok (.if_icmp .lt 13, 3) := by decide +kernel
theorem dJ2_putChar_b72d1_18 : decode cJ2_putChar_b72d1 18 = .ok (.new 52, 3) := by decide +kernel
theorem dJ2_putChar_b72d1_21 : decode cJ2_putChar_b72d1 21 = .ok (.dup, 1) := by decide +kernel
theorem dJ2_putChar_b72d1_22 : decode cJ2_putChar_b72d1 22 = .ok (.ldc 54, 2) := by decide +kernel
theorem dJ2_putChar_b72d1_24 : decode cJ2_putChar_b72d1 24 = .ok (.invokespecial 56, 3) := by decide +kernel
theorem dJ2_putChar_b72d1_27 : decode cJ2_putChar_b72d1 27 = .ok (.athrow, 1) := by decide +kernel
theorem dJ2_putChar_b72d1_28 : decode cJ2_putChar_b72d1 28 = .ok (.iload_n 1, 1) := by decide +kernel
theorem dJ2_putChar_b72d1_29 : decode cJ2_putChar_b72d1 29 = .ok (.iconst 1, 1) := by decide +kernel
theorem dJ2_putChar_b72d1_30 : decode cJ2_putChar_b72d1 30 = .ok (.ishl, 1) := by decide +kernel
theorem dJ2_putChar_b72d1_31 : decode cJ2_putChar_b72d1 31 = .ok (.istore_n 1, 1) := by decide +kernel
theorem dJ2_putChar_b72d1_32 : decode cJ2_putChar_b72d1 32 = .ok (.aload_n 0, 1) := by decide +kernel
theorem dJ2_putChar_b72d1_33 : decode cJ2_putChar_b72d1 33 = .ok (.iload_n 1, 1) := by decide +kernel
theorem dJ2_putChar_b72d1_34 : decode cJ2_putChar_b72d1 34 = .ok (.iinc 1 1, 3) := by decide +kernel
theorem dJ2_putChar_b72d1_37 : decode cJ2_putChar_b72d1 37 = .ok (.iload_n 2, 1) := by decide +kernel
theorem dJ2_putChar_b72d1_38 : decode cJ2_putChar_b72d1 38 = .ok (.getstatic 59, 3) := by decide +kernel
theorem dJ2_putChar_b72d1_41 : decode cJ2_putChar_b72d1 41 = .ok (.ishr, 1) := by decide +kernel
theorem dJ2_putChar_b72d1_42 : decode cJ2_putChar_b72d1 42 = .ok (.i2b, 1) := by decide +kernel
theorem dJ2_putChar_b72d1_43 : decode cJ2_putChar_b72d1 43 = .ok (.bastore, 1) := by decide +kernel
theorem dJ2_putChar_b72d1_44 : decode cJ2_putChar_b72d1 44 = .ok (.aload_n 0, 1) := by decide +kernel
theorem dJ2_putChar_b72d1_45 : decode cJ2_putChar_b72d1 45 = .ok (.iload_n 1, 1) := by decide +kernel
theorem dJ2_putChar_b72d1_46 : decode cJ2_putChar_b72d1 46 = .ok (.iload_n 2, 1) := by decide +kernel
theorem dJ2_putChar_b72d1_47 : decode cJ2_putChar_b72d1 47 = .ok (.getstatic 63, 3) := by decide +kernel
theorem dJ2_putChar_b72d1_50 : decode cJ2_putChar_b72d1 50 = .ok (.ishr, 1) := by decide +kernel
theorem dJ2_putChar_b72d1_51 : decode cJ2_putChar_b72d1 51 = .ok (.i2b, 1) := by decide +kernel
theorem dJ2_putChar_b72d1_52 : decode cJ2_putChar_b72d1 52 = .ok (.bastore, 1) := by decide +kernel
theorem dJ2_putChar_b72d1_53 : decode cJ2_putChar_b72d1 53 = .ok (.return_, 1) := by decide +kernel
theorem dJ2_getChar_3b067_0 : decode cJ2_getChar_3b067 0 = .ok (.getstatic 44, 3) := by decide +kernel
theorem dJ2_getChar_3b067_3 : decode cJ2_getChar_3b067 3 = .ok (.ifCond .ne 25, 3) := by decide +kernel
theorem dJ2_getChar_3b067_6 : decode cJ2_getChar_3b067 6 = .ok (.iload_n 1, 1) := by decide +kernel
theorem dJ2_getChar_3b067_7 : decode cJ2_getChar_3b067 7 = .ok (.ifCond .lt 11, 3) := by decide +kernel
theorem dJ2_getChar_3b067_10 : decode cJ2_getChar_3b067 10 = .ok (.iload_n 1, 1) := by decide +kernel
theorem dJ2_getChar_3b067_11 : decode cJ2_getChar_3b067 11 = .ok (.aload_n 0, 1) := by decide +kernel
theorem dJ2_getChar_3b067_12 : decode cJ2_getChar_3b067 12 = .ok (.invokestatic 48, 3) := by decide +kernel
theorem dJ2_getChar_3b067_15 : decode cJ2_getChar_3b067 15 = .ok (.if_icmp .lt 13, 3) := by decide +kernel
theorem dJ2_getChar_3b067_18 : decode cJ2_getChar_3b067 18 = .ok (.new 52, 3) := by decide +kernel
theorem dJ2_getChar_3b067_21 : decode cJ2_getChar_3b067 21 = .ok (.dup, 1) := by decide +kernel
theorem dJ2_getChar_3b067_22 : decode cJ2_getChar_3b067 22 = .ok (.ldc 54, 2) := by decide +kernel
theorem dJ2_getChar_3b067_24 : decode cJ2_getChar_3b067 24 = .ok (.invokespecial 56, 3) := by decide +kernel
theorem dJ2_getChar_3b067_27 : decode cJ2_getChar_3b067 27 = .ok (.athrow, 1) := by decide +kernel
theorem dJ2_getChar_3b067_28 : decode cJ2_getChar_3b067 28 = .ok (.iload_n 1, 1) := by decide +kernel
theorem dJ2_getChar_3b067_29 : decode cJ2_getChar_3b067 29 = .ok (.iconst 1, 1) := by decide +kernel
theorem dJ2_getChar_3b067_30 : decode cJ2_getChar_3b067 30 = .ok (.ishl, 1) := by decide +kernel
theorem dJ2_getChar_3b067_31 : decode cJ2_getChar_3b067 31 = .ok (.istore_n 1, 1) := by decide +kernel
theorem dJ2_getChar_3b067_32 : decode cJ2_getChar_3b067 32 = .ok (.aload_n 0, 1) := by decide +kernel
theorem dJ2_getChar_3b067_33 : decode cJ2_getChar_3b067 33 = .ok (.iload_n 1, 1) := by decide +kernel
theorem dJ2_getChar_3b067_34 : decode cJ2_getChar_3b067 34 = .ok (.iinc 1 1, 3) := by decide +kernel
theorem dJ2_getChar_3b067_37 : decode cJ2_getChar_3b067 37 = .ok (.baload, 1) := by decide +kernel
theorem dJ2_getChar_3b067_38 : decode cJ2_getChar_3b067 38 = .ok (.sipush 255, 3) := by decide +kernel
theorem dJ2_getChar_3b067_41 : decode cJ2_getChar_3b067 41 = .ok (.iand, 1) := by decide +kernel
theorem dJ2_getChar_3b067_42 : decode cJ2_getChar_3b067 42 = .ok (.getstatic 59, 3) := by decide +kernel
theorem dJ2_getChar_3b067_45 : decode cJ2_getChar_3b067 45 = .ok (.ishl, 1) := by decide +kernel
theorem dJ2_getChar_3b067_46 : decode cJ2_getChar_3b067 46 = .ok (.aload_n 0, 1) := by decide +kernel
theorem dJ2_getChar_3b067_47 : decode cJ2_getChar_3b067 47 = .ok (.iload_n 1, 1) := by decide +kernel
theorem dJ2_getChar_3b067_48 : decode cJ2_getChar_3b067 48 = .ok (.baload, 1) := by decide +kernel
theorem dJ2_getChar_3b067_49 : decode cJ2_getChar_3b067 49 = .ok (.sipush 255, 3) := by decide +kernel
theorem dJ2_getChar_3b067_52 : decode cJ2_getChar_3b067 52 = .ok (.iand, 1) := by decide +kernel
theorem dJ2_getChar_3b067_53 : decode cJ2_getChar_3b067 53 = .ok (.getstatic 63, 3) := by decide +kernel
theorem dJ2_getChar_3b067_56 : decode cJ2_getChar_3b067 56 = .ok (.ishl, 1) := by decide +kernel
theorem dJ2_getChar_3b067_57 : decode cJ2_getChar_3b067 57 = .ok (.ior, 1) := by decide +kernel
theorem dJ2_getChar_3b067_58 : decode cJ2_getChar_3b067 58 = .ok (.i2c, 1) := by decide +kernel
theorem dJ2_getChar_3b067_59 : decode cJ2_getChar_3b067 59 = .ok (.ireturn, 1) := by decide +kernel
theorem dJ2_length_9d52b_0 : decode cJ2_length_9d52b 0 = .ok (.aload_n 0, 1) := by decide +kernel
theorem dJ2_length_9d52b_1 : decode cJ2_length_9d52b 1 = .ok (.arraylength, 1) := by decide +kernel
theorem dJ2_length_9d52b_2 : decode cJ2_length_9d52b 2 = .ok (.iconst 1, 1) := by decide +kernel
theorem dJ2_length_9d52b_3 : decode cJ2_length_9d52b 3 = .ok (.ishr, 1) := by decide +kernel
theorem dJ2_length_9d52b_4 : decode cJ2_length_9d52b 4 = .ok (.ireturn, 1) := by decide +kernel
theorem dJ2_coderFromArrayLen_85cad_0 : decode cJ2_coderFromArrayLen_85cad 0 = .ok (.iload_n 1, 1) := by decide +kernel
theorem dJ2_coderFromArrayLen_85cad_1 : decode cJ2_coderFromArrayLen_85cad 1 = .ok (.aload_n 0, 1) := by decide +kernel
theorem dJ2_coderFromArrayLen_85cad_2 : decode cJ2_coderFromArrayLen_85cad 2 = .ok (.arraylength, 1) := by decide +kernel
theorem dJ2_coderFromArrayLen_85cad_3 : decode cJ2_coderFromArrayLen_85cad 3 = .ok (.isub, 1) := by decide +kernel
theorem dJ2_coderFromArrayLen_85cad_4 : decode cJ2_coderFromArrayLen_85cad 4 = .ok (.bipush 31, 2) := by decide +kernel
theorem dJ2_coderFromArrayLen_85cad_6 : decode cJ2_coderFromArrayLen_85cad 6 = .ok (.iushr, 1) := by decide +kernel
theorem dJ2_coderFromArrayLen_85cad_7 : decode cJ2_coderFromArrayLen_85cad 7 = .ok (.i2b, 1) := by decide +kernel
theorem dJ2_coderFromArrayLen_85cad_8 : decode cJ2_coderFromArrayLen_85cad 8 = .ok (.ireturn, 1) := by decide +kernel
theorem dJ2_compress_39247_0 : decode cJ2_compress_39247 0 = .ok (.iload_n 2, 1) := by decide +kernel
theorem dJ2_compress_39247_1 : decode cJ2_compress_39247 1 = .ok (.newarray .byte, 2) := by decide +kernel
theorem dJ2_compress_39247_3 : decode cJ2_compress_39247 3 = .ok (.astore_n 3, 1) := by decide +kernel
theorem dJ2_compress_39247_4 : decode cJ2_compress_39247 4 = .ok (.aload_n 0, 1) := by decide +kernel
theorem dJ2_compress_39247_5 : decode cJ2_compress_39247 5 = .ok (.iload_n 1, 1) := by decide +kernel
theorem dJ2_compress_39247_6 : decode cJ2_compress_39247 6 = .ok (.aload_n 3, 1) := by decide +kernel
theorem dJ2_compress_39247_7 : decode cJ2_compress_39247 7 = .ok (.iconst 0, 1) := by decide +kernel
theorem dJ2_compress_39247_8 : decode cJ2_compress_39247 8 = .ok (.iload_n 2, 1) := by decide +kernel
theorem dJ2_compress_39247_9 : decode cJ2_compress_39247 9 = .ok (.invokestatic 123, 3) := by decide +kernel
theorem dJ2_compress_39247_12 : decode cJ2_compress_39247 12 = .ok (.istore 4, 2) := by decide +kernel
theorem dJ2_compress_39247_14 : decode cJ2_compress_39247 14 = .ok (.iload 4, 2) := by decide +kernel
theorem dJ2_compress_39247_16 : decode cJ2_compress_39247 16 = .ok (.iload_n 2, 1) := by decide +kernel
theorem dJ2_compress_39247_17 : decode cJ2_compress_39247 17 = .ok (.if_icmp .eq 47, 3) := by decide +kernel
theorem dJ2_compress_39247_20 : decode cJ2_compress_39247 20 = .ok (.aload_n 0, 1) := by decide +kernel
theorem dJ2_compress_39247_21 : decode cJ2_compress_39247 21 = .ok (.iload_n 1, 1) := by decide +kernel
theorem dJ2_compress_39247_22 : decode cJ2_compress_39247 22 = .ok (.iconst 1, 1) := by decide +kernel
theorem dJ2_compress_39247_23 : decode cJ2_compress_39247 23 = .ok (.ishl, 1) := by decide +kernel
theorem dJ2_compress_39247_24 : decode cJ2_compress_39247 24 = .ok (.iload_n 1, 1) := by decide +kernel
theorem dJ2_compress_39247_25 : decode cJ2_compress_39247 25 = .ok (.iload_n 2, 1) := by decide +kernel
theorem dJ2_compress_39247_26 : decode cJ2_compress_39247 26 = .ok (.iadd, 1) := by decide +kernel
theorem dJ2_compress_39247_27 : decode cJ2_compress_39247 27 = .ok (.invokestatic 11, 3) := by decide +kernel
theorem dJ2_compress_39247_30 : decode cJ2_compress_39247 30 = .ok (.invokestatic 126, 3) := by decide +kernel
theorem dJ2_compress_39247_33 : decode cJ2_compress_39247 33 = .ok (.astore 5, 2) := by decide +kernel
theorem dJ2_compress_39247_35 : decode cJ2_compress_39247 35 = .ok (.aload 5, 2) := by decide +kernel
theorem dJ2_compress_39247_37 : decode cJ2_compress_39247 37 = .ok (.iload 4, 2) := by decide +kernel
theorem dJ2_compress_39247_39 : decode cJ2_compress_39247 39 = .ok (.invokestatic 71, 3) := by decide +kernel
theorem dJ2_compress_39247_42 : decode cJ2_compress_39247 42 = .ok (.sipush 255, 3) := by decide +kernel
theorem dJ2_compress_39247_45 : decode cJ2_compress_39247 45 = .ok (.if_icmp .gt 16, 3) := by decide +kernel
theorem dJ2_compress_39247_48 : decode cJ2_compress_39247 48 = .ok (.aload 5, 2) := by decide +kernel
theorem dJ2_compress_39247_50 : decode cJ2_compress_39247 50 = .ok (.iconst 0, 1) := by decide +kernel
theorem dJ2_compress_39247_51 : decode cJ2_compress_39247 51 = .ok (.aload_n 3, 1) := by decide +kernel
theorem dJ2_compress_39247_52 : decode cJ2_compress_39247 52 = .ok (.iconst 0, 1) := by decide +kernel
theorem dJ2_compress_39247_53 : decode cJ2_compress_39247 53 = .ok (.iload_n 2, 1) := by decide +kernel
theorem dJ2_compress_39247_54 : decode cJ2_compress_39247 54 = .ok (.invokestatic 123, 3) := by decide +kernel
theorem dJ2_compress_39247_57 : decode cJ2_compress_39247 57 = .ok (.iload_n 2, 1) := by decide +kernel
theorem dJ2_compress_39247_58 : decode cJ2_compress_39247 58 = .ok (.if_icmp .eq 6, 3) := by decide +kernel
theorem dJ2_compress_39247_61 : decode cJ2_compress_39247 61 = .ok (.aload 5, 2) := by decide +kernel
theorem dJ2_compress_39247_63 : decode cJ2_compress_39247 63 = .ok (.areturn, 1) := by decide +kernel
theorem dJ2_compress_39247_64 : decode cJ2_compress_39247 64 = .ok (.aload_n 3, 1) := by decide +kernel
theorem dJ2_compress_39247_65 : decode cJ2_compress_39247 65 = .ok (.areturn, 1) := by decide +kernel
theorem dJ2_compress_5af95_0 : decode cJ2_compress_5af95 0 = .ok (.iload_n 1, 1) := by decide +kernel
theorem dJ2_compress_5af95_1 : decode cJ2_compress_5af95 1 = .ok (.iload 4, 2) := by decide +kernel
theorem dJ2_compress_5af95_3 : decode cJ2_compress_5af95 3 = .ok (.aload_n 0, 1) := by decide +kernel
theorem dJ2_compress_5af95_4 : decode cJ2_compress_5af95 4 = .ok (.invokestatic 173, 3) := by decide +kernel
theorem dJ2_compress_5af95_7 : decode cJ2_compress_5af95 7 = .ok (.iconst 0, 1) := by decide +kernel
theorem dJ2_compress_5af95_8 : decode cJ2_compress_5af95 8 = .ok (.istore 5, 2) := by decide +kernel
theorem dJ2_compress_5af95_10 : decode cJ2_compress_5af95 10 = .ok (.iload 5, 2) := by decide +kernel
theorem dJ2_compress_5af95_12 : decode cJ2_compress_5af95 12 = .ok (.iload 4, 2) := by decide +kernel
theorem dJ2_compress_5af95_14 : decode cJ2_compress_5af95 14 = .ok (.if_icmp .ge 39, 3) := by decide +kernel
theorem dJ2_compress_5af95_17 : decode cJ2_compress_5af95 17 = .ok (.aload_n 0, 1) := by decide +kernel
theorem dJ2_compress_5af95_18 : decode cJ2_compress_5af95 18 = .ok (.iload_n 1, 1) := by decide +kernel
theorem dJ2_compress_5af95_19 : decode cJ2_compress_5af95 19 = .ok (.invokestatic 71, 3) := by decide +kernel
theorem dJ2_compress_5af95_22 : decode cJ2_compress_5af95 22 = .ok (.istore 6, 2) := by decide +kernel
theorem dJ2_compress_5af95_24 : decode cJ2_compress_5af95 24 = .ok (.iload 6, 2) := by decide +kernel
theorem dJ2_compress_5af95_26 : decode cJ2_compress_5af95 26 = .ok (.sipush 255, 3) := by decide +kernel
theorem dJ2_compress_5af95_29 : decode cJ2_compress_5af95 29 = .ok (.if_icmp .le 6, 3) := by decide +kernel
theorem dJ2_compress_5af95_32 : decode cJ2_compress_5af95 32 = .ok (.iload 5, 2) := by decide +kernel
theorem dJ2_compress_5af95_34 : decode cJ2_compress_5af95 34 = .ok (.ireturn, 1) := by decide +kernel
theorem dJ2_compress_5af95_35 : decode cJ2_compress_5af95 35 = .ok (.aload_n 2, 1) := by decide +kernel
theorem dJ2_compress_5af95_36 : decode cJ2_compress_5af95 36 = .ok (.iload_n 3, 1) := by decide +kernel
theorem dJ2_compress_5af95_37 : decode cJ2_compress_5af95 37 = .ok (.iload 6, 2) := by decide +kernel
theorem dJ2_compress_5af95_39 : decode cJ2_compress_5af95 39 = .ok (.i2b, 1) := by decide +kernel
theorem dJ2_compress_5af95_40 : decode cJ2_compress_5af95 40 = .ok (.bastore, 1) := by decide +kernel
theorem dJ2_compress_5af95_41 : decode cJ2_compress_5af95 41 = .ok (.iinc 1 1, 3) := by decide +kernel
theorem dJ2_compress_5af95_44 : decode cJ2_compress_5af95 44 = .ok (.iinc 3 1, 3) := by decide +kernel
theorem dJ2_compress_5af95_47 : decode cJ2_compress_5af95 47 = .ok (.iinc 5 1, 3) := by decide +kernel
theorem dJ2_compress_5af95_50 : decode cJ2_compress_5af95 50 = .ok (.goto (-40), 3) := by decide +kernel
theorem dJ2_compress_5af95_53 : decode cJ2_compress_5af95 53 = .ok (.iload 4, 2) := by decide +kernel
theorem dJ2_compress_5af95_55 : decode cJ2_compress_5af95 55 = .ok (.ireturn, 1) := by decide +kernel
theorem dJ2_fillNull_b72d1_0 : decode cJ2_fillNull_b72d1 0 = .ok (.aload_n 0, 1) := by decide +kernel
theorem dJ2_fillNull_b72d1_1 : decode cJ2_fillNull_b72d1 1 = .ok (.iload_n 1, 1) := by decide +kernel
theorem dJ2_fillNull_b72d1_2 : decode cJ2_fillNull_b72d1 2 = .ok (.iconst 1, 1) := by decide +kernel
theorem dJ2_fillNull_b72d1_3 : decode cJ2_fillNull_b72d1 3 = .ok (.ishl, 1) := by decide +kernel
theorem dJ2_fillNull_b72d1_4 : decode cJ2_fillNull_b72d1 4 = .ok (.iload_n 2, 1) := by decide +kernel
theorem dJ2_fillNull_b72d1_5 : decode cJ2_fillNull_b72d1 5 = .ok (.iconst 1, 1) := by decide +kernel
theorem dJ2_fillNull_b72d1_6 : decode cJ2_fillNull_b72d1 6 = .ok (.ishl, 1) := by decide +kernel
theorem dJ2_fillNull_b72d1_7 : decode cJ2_fillNull_b72d1 7 = .ok (.iconst 0, 1) := by decide +kernel
theorem dJ2_fillNull_b72d1_8 : decode cJ2_fillNull_b72d1 8 = .ok (.invokestatic 380, 3) := by decide +kernel
theorem dJ2_fillNull_b72d1_11 : decode cJ2_fillNull_b72d1 11 = .ok (.return_, 1) := by decide +kernel
theorem dJ2_putCharSB_b72d1_0 : decode cJ2_putCharSB_b72d1 0 = .ok (.iload_n 1, 1) := by decide +kernel
theorem dJ2_putCharSB_b72d1_1 : decode cJ2_putCharSB_b72d1 1 = .ok (.aload_n 0, 1) := by decide +kernel
theorem dJ2_putCharSB_b72d1_2 : decode cJ2_putCharSB_b72d1 2 = .ok (.invokestatic 67, 3) := by decide +kernel
theorem dJ2_putCharSB_b72d1_5 : decode cJ2_putCharSB_b72d1 5 = .ok (.aload_n 0, 1) := by decide +kernel
theorem dJ2_putCharSB_b72d1_6 : decode cJ2_putCharSB_b72d1 6 = .ok (.iload_n 1, 1) := by decide +kernel
theorem dJ2_putCharSB_b72d1_7 : decode cJ2_putCharSB_b72d1 7 = .ok (.iload_n 2, 1) := by decide +kernel
theorem dJ2_putCharSB_b72d1_8 : decode cJ2_putCharSB_b72d1 8 = .ok (.invokestatic 111, 3) := by decide +kernel
theorem dJ2_putCharSB_b72d1_11 : decode cJ2_putCharSB_b72d1 11 = .ok (.return_, 1) := by decide +kernel
theorem dJ2_getChars_46870_0 : decode cJ2_getChars_46870 0 = .ok (.iload_n 1, 1) := by decide +kernel
theorem dJ2_getChars_46870_1 : decode cJ2_getChars_46870 1 = .ok (.iload_n 2, 1) := by decide +kernel
theorem dJ2_getChars_46870_2 : decode cJ2_getChars_46870 2 = .ok (.aload_n 3, 1) := by decide +kernel
theorem dJ2_getChars_46870_3 : decode cJ2_getChars_46870 3 = .ok (.invokestatic 96, 3) := by decide +kernel
theorem dJ2_getChars_46870_6 : decode cJ2_getChars_46870 6 = .ok (.iload_n 0, 1) := by decide +kernel
theorem dJ2_getChars_46870_7 : decode cJ2_getChars_46870 7 = .ok (.iload_n 2, 1) := by decide +kernel
theorem dJ2_getChars_46870_8 : decode cJ2_getChars_46870 8 = .ok (.aload_n 3, 1) := by decide +kernel
theorem dJ2_getChars_46870_9 : decode cJ2_getChars_46870 9 = .ok (.invokestatic 393, 3) := by decide +kernel
theorem dJ2_getChars_46870_12 : decode cJ2_getChars_46870 12 = .ok (.istore 4, 2) := by decide +kernel
theorem dJ2_getChars_46870_14 : decode cJ2_getChars_46870 14 = .ok (.getstatic 44, 3) := by decide +kernel
theorem dJ2_getChars_46870_17 : decode cJ2_getChars_46870 17 = .ok (.ifCond .ne 17, 3) := by decide +kernel
theorem dJ2_getChars_46870_20 : decode cJ2_getChars_46870 20 = .ok (.iload_n 1, 1) := by decide +kernel
theorem dJ2_getChars_46870_21 : decode cJ2_getChars_46870 21 = .ok (.iload 4, 2) := by decide +kernel
theorem dJ2_getChars_46870_23 : decode cJ2_getChars_46870 23 = .ok (.if_icmp .eq 11, 3) := by decide +kernel
theorem dJ2_getChars_46870_26 : decode cJ2_getChars_46870 26 = .ok (.new 52, 3) := by decide +kernel
theorem dJ2_getChars_46870_29 : decode cJ2_getChars_46870 29 = .ok (.dup, 1) := by decide +kernel
theorem dJ2_getChars_46870_30 : decode cJ2_getChars_46870 30 = .ok (.invokespecial 66, 3) := by decide +kernel
theorem dJ2_getChars_46870_33 : decode cJ2_getChars_46870 33 = .ok (.athrow, 1) := by decide +kernel
theorem dJ2_getChars_46870_34 : decode cJ2_getChars_46870 34 = .ok (.iload 4, 2) := by decide +kernel
theorem dJ2_getChars_46870_36 : decode cJ2_getChars_46870 36 = .ok (.ireturn, 1) := by decide +kernel
theorem dJ2_putCharsAt_cd4e5_0 : decode cJ2_putCharsAt_cd4e5 0 = .ok (.iload_n 1, 1) := by decide +kernel
theorem dJ2_putCharsAt_cd4e5_1 : decode cJ2_putCharsAt_cd4e5 1 = .ok (.iconst 4, 1) := by decide +kernel
theorem dJ2_putCharsAt_cd4e5_2 : decode cJ2_putCharsAt_cd4e5 2 = .ok (.iadd, 1) := by decide +kernel
theorem dJ2_putCharsAt_cd4e5_3 : decode cJ2_putCharsAt_cd4e5 3 = .ok (.istore 6, 2) := by decide +kernel
theorem dJ2_putCharsAt_cd4e5_5 : decode cJ2_putCharsAt_cd4e5 5 = .ok (.iload_n 1, 1) := by decide +kernel
theorem dJ2_putCharsAt_cd4e5_6 : decode cJ2_putCharsAt_cd4e5 6 = .ok (.iload 6, 2) := by decide +kernel
theorem dJ2_putCharsAt_cd4e5_8 : decode cJ2_putCharsAt_cd4e5 8 = .ok (.aload_n 0, 1) := by decide +kernel
theorem dJ2_putCharsAt_cd4e5_9 : decode cJ2_putCharsAt_cd4e5 9 = .ok (.invokestatic 96, 3) := by decide +kernel
theorem dJ2_putCharsAt_cd4e5_12 : decode cJ2_putCharsAt_cd4e5 12 = .ok (.aload_n 0, 1) := by decide +kernel
theorem dJ2_putCharsAt_cd4e5_13 : decode cJ2_putCharsAt_cd4e5 13 = .ok (.iload_n 1, 1) := by decide +kernel
theorem dJ2_putCharsAt_cd4e5_14 : decode cJ2_putCharsAt_cd4e5 14 = .ok (.iinc 1 1, 3) := by decide +kernel
theorem dJ2_putCharsAt_cd4e5_17 : decode cJ2_putCharsAt_cd4e5 17 = .ok (.iload_n 2, 1) := by decide +kernel
theorem dJ2_putCharsAt_cd4e5_18 : decode cJ2_putCharsAt_cd4e5 18 = .ok (.invokestatic 111, 3) := by decide +kernel
theorem dJ2_putCharsAt_cd4e5_21 : decode cJ2_putCharsAt_cd4e5 21 = .ok (.aload_n 0, 1) := by decide +kernel
theorem dJ2_putCharsAt_cd4e5_22 : decode cJ2_putCharsAt_cd4e5 22 = .ok (.iload_n 1, 1) := by decide +kernel
theorem dJ2_putCharsAt_cd4e5_23 : decode cJ2_putCharsAt_cd4e5 23 = .ok (.iinc 1 1, 3) := by decide +kernel
theorem dJ2_putCharsAt_cd4e5_26 : decode cJ2_putCharsAt_cd4e5 26 = .ok (.iload_n 3, 1) := by decide +kernel
theorem dJ2_putCharsAt_cd4e5_27 : decode cJ2_putCharsAt_cd4e5 27 = .ok (.invokestatic 111, 3) := by decide +kernel
theorem dJ2_putCharsAt_cd4e5_30 : decode cJ2_putCharsAt_cd4e5 30 = .ok (.aload_n 0, 1) := by decide +kernel
theorem dJ2_putCharsAt_cd4e5_31 : decode cJ2_putCharsAt_cd4e5 31 = .ok (.iload_n 1, 1) := by decide +kernel
theorem dJ2_putCharsAt_cd4e5_32 : decode cJ2_putCharsAt_cd4e5 32 = .ok (.iinc 1 1, 3) := by decide +kernel
theorem dJ2_putCharsAt_cd4e5_35 : decode cJ2_putCharsAt_cd4e5 35 = .ok (.iload 4, 2) := by decide +kernel
theorem dJ2_putCharsAt_cd4e5_37 : decode cJ2_putCharsAt_cd4e5 37 = .ok (.invokestatic 111, 3) := by decide +kernel
theorem dJ2_putCharsAt_cd4e5_40 : decode cJ2_putCharsAt_cd4e5 40 = .ok (.aload_n 0, 1) := by decide +kernel
theorem dJ2_putCharsAt_cd4e5_41 : decode cJ2_putCharsAt_cd4e5 41 = .ok (.iload_n 1, 1) := by decide +kernel
theorem dJ2_putCharsAt_cd4e5_42 : decode cJ2_putCharsAt_cd4e5 42 = .ok (.iinc 1 1, 3) := by decide +kernel
theorem dJ2_putCharsAt_cd4e5_45 : decode cJ2_putCharsAt_cd4e5 45 = .ok (.iload 5, 2) := by decide +kernel
theorem dJ2_putCharsAt_cd4e5_47 : decode cJ2_putCharsAt_cd4e5 47 = .ok (.invokestatic 111, 3) := by decide +kernel
theorem dJ2_putCharsAt_cd4e5_50 : decode cJ2_putCharsAt_cd4e5 50 = .ok (.getstatic 44, 3) := by decide +kernel
theorem dJ2_putCharsAt_cd4e5_53 : decode cJ2_putCharsAt_cd4e5 53 = .ok (.ifCond .ne 17, 3) := by decide +kernel
theorem dJ2_putCharsAt_cd4e5_56 : decode cJ2_putCharsAt_cd4e5 56 = .ok (.iload_n 1, 1) := by decide +kernel
theorem dJ2_putCharsAt_cd4e5_57 : decode cJ2_putCharsAt_cd4e5 57 = .ok (.iload 6, 2) := by decide +kernel
theorem dJ2_putCharsAt_cd4e5_59 : decode cJ2_putCharsAt_cd4e5 59 = .ok (.if_icmp .eq 11, 3) := by decide +kernel
theorem dJ2_putCharsAt_cd4e5_62 : decode cJ2_putCharsAt_cd4e5 62 = .ok (.new 52, 3) := by decide +kernel
theorem dJ2_putCharsAt_cd4e5_65 : decode cJ2_putCharsAt_cd4e5 65 = .ok (.dup, 1) := by decide +kernel
theorem dJ2_putCharsAt_cd4e5_66 : decode cJ2_putCharsAt_cd4e5 66 = .ok (.invokespecial 66, 3) := by decide +kernel
theorem dJ2_putCharsAt_cd4e5_69 : decode cJ2_putCharsAt_cd4e5 69 = .ok (.athrow, 1) := by decide +kernel
theorem dJ2_putCharsAt_cd4e5_70 : decode cJ2_putCharsAt_cd4e5 70 = .ok (.iload 6, 2) := by decide +kernel
theorem dJ2_putCharsAt_cd4e5_72 : decode cJ2_putCharsAt_cd4e5 72 = .ok (.ireturn, 1) := by decide +kernel
theorem dJ2_inflate_0e8fd_0 : decode cJ2_inflate_0e8fd 0 = .ok (.iload_n 3, 1) := by decide +kernel
theorem dJ2_inflate_0e8fd_1 : decode cJ2_inflate_0e8fd 1 = .ok (.iload 4, 2) := by decide +kernel
theorem dJ2_inflate_0e8fd_3 : decode cJ2_inflate_0e8fd 3 = .ok (.aload_n 2, 1) := by decide +kernel
theorem dJ2_inflate_0e8fd_4 : decode cJ2_inflate_0e8fd 4 = .ok (.invokestatic 173, 3) := by decide +kernel
theorem dJ2_inflate_0e8fd_7 : decode cJ2_inflate_0e8fd 7 = .ok (.iconst 0, 1) := by decide +kernel
theorem dJ2_inflate_0e8fd_8 : decode cJ2_inflate_0e8fd 8 = .ok (.istore 5, 2) := by decide +kernel
theorem dJ2_inflate_0e8fd_10 : decode cJ2_inflate_0e8fd 10 = .ok (.iload 5, 2) := by decide +kernel
theorem dJ2_inflate_0e8fd_12 : decode cJ2_inflate_0e8fd 12 = .ok (.iload 4, 2) := by decide +kernel
theorem dJ2_inflate_0e8fd_14 : decode cJ2_inflate_0e8fd 14 = .ok (.if_icmp .ge 27, 3) := by decide +kernel
theorem dJ2_inflate_0e8fd_17 : decode cJ2_inflate_0e8fd 17 = .ok (.aload_n 2, 1) := by decide +kernel
theorem dJ2_inflate_0e8fd_18 : decode cJ2_inflate_0e8fd 18 = .ok (.iload_n 3, 1) := by decide +kernel
theorem dJ2_inflate_0e8fd_19 : decode cJ2_inflate_0e8fd 19 = .ok (.iinc 3 1, 3) := by decide +kernel
theorem dJ2_inflate_0e8fd_22 : decode cJ2_inflate_0e8fd 22 = .ok (.aload_n 0, 1) := by decide +kernel
theorem dJ2_inflate_0e8fd_23 : decode cJ2_inflate_0e8fd 23 = .ok (.iload_n 1, 1) := by decide +kernel
theorem dJ2_inflate_0e8fd_24 : decode cJ2_inflate_0e8fd 24 = .ok (.iinc 1 1, 3) := by decide +kernel
theorem dJ2_inflate_0e8fd_27 : decode cJ2_inflate_0e8fd 27 = .ok (.baload, 1) := by decide +kernel
theorem dJ2_inflate_0e8fd_28 : decode cJ2_inflate_0e8fd 28 = .ok (.sipush 255, 3) := by decide +kernel
theorem dJ2_inflate_0e8fd_31 : decode cJ2_inflate_0e8fd 31 = .ok (.iand, 1) := by decide +kernel
theorem dJ2_inflate_0e8fd_32 : decode cJ2_inflate_0e8fd 32 = .ok (.invokestatic 111, 3) := by decide +kernel
theorem dJ2_inflate_0e8fd_35 : decode cJ2_inflate_0e8fd 35 = .ok (.iinc 5 1, 3) := by decide +kernel
theorem dJ2_inflate_0e8fd_38 : decode cJ2_inflate_0e8fd 38 = .ok (.goto (-28), 3) := by decide +kernel
theorem dJ2_inflate_0e8fd_41 : decode cJ2_inflate_0e8fd 41 = .ok (.return_, 1) := by decide +kernel
theorem dJ2_getChars_ba4f3_0 : decode cJ2_getChars_ba4f3 0 = .ok (.iload_n 1, 1) := by decide +kernel
theorem dJ2_getChars_ba4f3_1 : decode cJ2_getChars_ba4f3 1 = .ok (.istore 5, 2) := by decide +kernel
theorem dJ2_getChars_ba4f3_3 : decode cJ2_getChars_ba4f3 3 = .ok (.iload_n 0, 1) := by decide +kernel
theorem dJ2_getChars_ba4f3_4 : decode cJ2_getChars_ba4f3 4 = .ok (.ifCond .ge 7, 3) := by decide +kernel
theorem dJ2_getChars_ba4f3_7 : decode cJ2_getChars_ba4f3 7 = .ok (.iconst 1, 1) := by decide +kernel
theorem dJ2_getChars_ba4f3_8 : decode cJ2_getChars_ba4f3 8 = .ok (.goto 4, 3) := by decide +kernel
theorem dJ2_getChars_ba4f3_11 : decode cJ2_getChars_ba4f3 11 = .ok (.iconst 0, 1) := by decide +kernel
theorem dJ2_getChars_ba4f3_12 : decode cJ2_getChars_ba4f3 12 = .ok (.istore 6, 2) := by decide +kernel
theorem dJ2_getChars_ba4f3_14 : decode cJ2_getChars_ba4f3 14 = .ok (.iload 6, 2) := by decide +kernel
theorem dJ2_getChars_ba4f3_16 : decode cJ2_getChars_ba4f3 16 = .ok (.ifCond .ne 6, 3) := by decide +kernel
theorem dJ2_getChars_ba4f3_19 : decode cJ2_getChars_ba4f3 19 = .ok (.iload_n 0, 1) := by decide +kernel
theorem dJ2_getChars_ba4f3_20 : decode cJ2_getChars_ba4f3 20 = .ok (.ineg, 1) := by decide +kernel
theorem dJ2_getChars_ba4f3_21 : decode cJ2_getChars_ba4f3 21 = .ok (.istore_n 0, 1) := by decide +kernel
theorem dJ2_getChars_ba4f3_22 : decode cJ2_getChars_ba4f3 22 = .ok (.iload_n 0, 1) := by decide +kernel
theorem dJ2_getChars_ba4f3_23 : decode cJ2_getChars_ba4f3 23 = .ok (.bipush (-100), 2) := by decide +kernel
theorem dJ2_getChars_ba4f3_25 : decode cJ2_getChars_ba4f3 25 = .ok (.if_icmp .gt 51, 3) := by decide +kernel
theorem dJ2_getChars_ba4f3_28 : decode cJ2_getChars_ba4f3 28 = .ok (.iload_n 0, 1) := by decide +kernel
theorem dJ2_getChars_ba4f3_29 : decode cJ2_getChars_ba4f3 29 = .ok (.bipush 100, 2) := by decide +kernel
theorem dJ2_getChars_ba4f3_31 : decode cJ2_getChars_ba4f3 31 = .ok (.idiv, 1) := by decide +kernel
theorem dJ2_getChars_ba4f3_32 : decode cJ2_getChars_ba4f3 32 = .ok (.istore_n 3, 1) := by decide +kernel
theorem dJ2_getChars_ba4f3_33 : decode cJ2_getChars_ba4f3 33 = .ok (.iload_n 3, 1) := by decide +kernel
theorem dJ2_getChars_ba4f3_34 : decode cJ2_getChars_ba4f3 34 = .ok (.bipush 100, 2) := by decide +kernel
theorem dJ2_getChars_ba4f3_36 : decode cJ2_getChars_ba4f3 36 = .ok (.imul, 1) := by decide +kernel
theorem dJ2_getChars_ba4f3_37 : decode cJ2_getChars_ba4f3 37 = .ok (.iload_n 0, 1) := by decide +kernel
theorem dJ2_getChars_ba4f3_38 : decode cJ2_getChars_ba4f3 38 = .ok (.isub, 1) := by decide +kernel
theorem dJ2_getChars_ba4f3_39 : decode cJ2_getChars_ba4f3 39 = .ok (.istore 4, 2) := by decide +kernel
theorem dJ2_getChars_ba4f3_41 : decode cJ2_getChars_ba4f3 41 = .ok (.iload_n 3, 1) := by decide +kernel
theorem dJ2_getChars_ba4f3_42 : decode cJ2_getChars_ba4f3 42 = .ok (.istore_n 0, 1) := by decide +kernel
theorem dJ2_getChars_ba4f3_43 : decode cJ2_getChars_ba4f3 43 = .ok (.aload_n 2, 1) := by decide +kernel
theorem dJ2_getChars_ba4f3_44 : decode cJ2_getChars_ba4f3 44 = .ok (.iinc 5 (-1), 3) := by decide +kernel
theorem dJ2_getChars_ba4f3_47 : decode cJ2_getChars_ba4f3 47 = .ok (.iload 5, 2) := by decide +kernel
theorem dJ2_getChars_ba4f3_49 : decode cJ2_getChars_ba4f3 49 = .ok (.getstatic 403, 3) := by decide +kernel
theorem dJ2_getChars_ba4f3_52 : decode cJ2_getChars_ba4f3 52 = .ok (.iload 4, 2) := by decide +kernel
theorem dJ2_getChars_ba4f3_54 : decode cJ2_getChars_ba4f3 54 = .ok (.baload, 1) := by decide +kernel
theorem dJ2_getChars_ba4f3_55 : decode cJ2_getChars_ba4f3 55 = .ok (.invokestatic 111, 3) := by decide +kernel
theorem dJ2_getChars_ba4f3_58 : decode cJ2_getChars_ba4f3 58 = .ok (.aload_n 2, 1) := by decide +kernel
theorem dJ2_getChars_ba4f3_59 : decode cJ2_getChars_ba4f3 59 = .ok (.iinc 5 (-1), 3) := by decide +kernel
theorem dJ2_getChars_ba4f3_62 : decode cJ2_getChars_ba4f3 62 = .ok (.iload 5, 2) := by decide +kernel
theorem dJ2_getChars_ba4f3_64 : decode cJ2_getChars_ba4f3 64 = .ok (.getstatic 407, 3) := by decide +kernel
theorem dJ2_getChars_ba4f3_67 : decode cJ2_getChars_ba4f3 67 = .ok (.iload 4, 2) := by decide +kernel
theorem dJ2_getChars_ba4f3_69 : decode cJ2_getChars_ba4f3 69 = .ok (.baload, 1) := by decide +kernel
theorem dJ2_getChars_ba4f3_70 : decode cJ2_getChars_ba4f3 70 = .ok (.invokestatic 111, 3) := by decide +kernel
theorem dJ2_getChars_ba4f3_73 : decode cJ2_getChars_ba4f3 73 = .ok (.goto (-51), 3) := by decide +kernel
theorem dJ2_getChars_ba4f3_76 : decode cJ2_getChars_ba4f3 76 = .ok (.aload_n 2, 1) := by decide +kernel
theorem dJ2_getChars_ba4f3_77 : decode cJ2_getChars_ba4f3 77 = .ok (.iinc 5 (-1), 3) := by decide +kernel
theorem dJ2_getChars_ba4f3_80 : decode cJ2_getChars_ba4f3 80 = .ok (.iload 5, 2) := by decide +kernel
theorem dJ2_getChars_ba4f3_82 : decode cJ2_getChars_ba4f3 82 = .ok (.getstatic 403, 3) := by decide +kernel
theorem dJ2_getChars_ba4f3_85 : decode cJ2_getChars_ba4f3 85 = .ok (.iload_n 0, 1) := by decide +kernel
theorem dJ2_getChars_ba4f3_86 : decode cJ2_getChars_ba4f3 86 = .ok (.ineg, 1) := by decide +kernel
theorem dJ2_getChars_ba4f3_87 : decode cJ2_getChars_ba4f3 87 = .ok (.baload, 1) := by decide +kernel
theorem dJ2_getChars_ba4f3_88 : decode cJ2_getChars_ba4f3 88 = .ok (.invokestatic 111, 3) := by decide +kernel
theorem dJ2_getChars_ba4f3_91 : decode cJ2_getChars_ba4f3 91 = .ok (.iload_n 0, 1) := by decide +kernel
theorem dJ2_getChars_ba4f3_92 : decode cJ2_getChars_ba4f3 92 = .ok (.bipush (-9), 2) := by decide +kernel
theorem dJ2_getChars_ba4f3_94 : decode cJ2_getChars_ba4f3 94 = .ok (.if_icmp .ge 18, 3) := by decide +kernel
theorem dJ2_getChars_ba4f3_97 : decode cJ2_getChars_ba4f3 97 = .ok (.aload_n 2, 1) := by decide +kernel
theorem dJ2_getChars_ba4f3_98 : decode cJ2_getChars_ba4f3 98 = .ok (.iinc 5 (-1), 3) := by decide +kernel
theorem dJ2_getChars_ba4f3_101 : decode cJ2_getChars_ba4f3 101 = .ok (.iload 5, 2) := by decide +kernel
theorem dJ2_getChars_ba4f3_103 : decode cJ2_getChars_ba4f3 103 = .ok (.getstatic 407, 3) := by decide +kernel
theorem dJ2_getChars_ba4f3_106 : decode cJ2_getChars_ba4f3 106 = .ok (.iload_n 0, 1) := by decide +kernel
theorem dJ2_getChars_ba4f3_107 : decode cJ2_getChars_ba4f3 107 = .ok (.ineg, 1) := by decide +kernel
theorem dJ2_getChars_ba4f3_108 : decode cJ2_getChars_ba4f3 108 = .ok (.baload, 1) := by decide +kernel
theorem dJ2_getChars_ba4f3_109 : decode cJ2_getChars_ba4f3 109 = .ok (.invokestatic 111, 3) := by decide +kernel
theorem dJ2_getChars_ba4f3_112 : decode cJ2_getChars_ba4f3 112 = .ok (.iload 6, 2) := by decide +kernel
theorem dJ2_getChars_ba4f3_114 : decode cJ2_getChars_ba4f3 114 = .ok (.ifCond .eq 14, 3) := by decide +kernel
theorem dJ2_getChars_ba4f3_117 : decode cJ2_getChars_ba4f3 117 = .ok (.aload_n 2, 1) := by decide +kernel
theorem dJ2_getChars_ba4f3_118 : decode cJ2_getChars_ba4f3 118 = .ok (.iinc 5 (-1), 3) := by decide +kernel
theorem dJ2_getChars_ba4f3_121 : decode cJ2_getChars_ba4f3 121 = .ok (.iload 5, 2) := by decide +kernel
theorem dJ2_getChars_ba4f3_123 : decode cJ2_getChars_ba4f3 123 = .ok (.bipush 45, 2) := by decide +kernel
theorem dJ2_getChars_ba4f3_125 : decode cJ2_getChars_ba4f3 125 = .ok (.invokestatic 111, 3) := by decide +kernel
theorem dJ2_getChars_ba4f3_128 : decode cJ2_getChars_ba4f3 128 = .ok (.iload 5, 2) := by decide +kernel
theorem dJ2_getChars_ba4f3_130 : decode cJ2_getChars_ba4f3 130 = .ok (.ireturn, 1) := by decide +kernel
theorem dJ2_checkIndex_2214a_0 : decode cJ2_checkIndex_2214a 0 = .ok (.iload_n 0, 1) := by decide +kernel
theorem dJ2_checkIndex_2214a_1 : decode cJ2_checkIndex_2214a 1 = .ok (.aload_n 1, 1) := by decide +kernel
theorem dJ2_checkIndex_2214a_2 : decode cJ2_checkIndex_2214a 2 = .ok (.invokestatic 48, 3) := by decide +kernel
theorem dJ2_checkIndex_2214a_5 : decode cJ2_checkIndex_2214a 5 = .ok (.invokestatic 414, 3) := by decide +kernel
theorem dJ2_checkIndex_2214a_8 : decode cJ2_checkIndex_2214a 8 = .ok (.return_, 1) := by decide +kernel
theorem dJ2_checkBoundsBeginEnd_d044e_0 : decode cJ2_checkBoundsBeginEnd_d044e 0 = .ok (.iload_n 0, 1) := by decide +kernel
theorem dJ2_checkBoundsBeginEnd_d044e_1 : decode cJ2_checkBoundsBeginEnd_d044e 1 = .ok (.iload_n 1, 1) := by decide +kernel
theorem dJ2_checkBoundsBeginEnd_d044e_2 : decode cJ2_checkBoundsBeginEnd_d044e 2 = .ok (.aload_n 2, 1) := by decide +kernel
theorem dJ2_checkBoundsBeginEnd_d044e_3 : decode cJ2_checkBoundsBeginEnd_d044e 3 = .ok (.invokestatic 48, 3) := by decide +kernel
theorem dJ2_checkBoundsBeginEnd_d044e_6 : decode cJ2_checkBoundsBeginEnd_d044e 6 = .ok (.invokestatic 241, 3) := by decide +kernel
theorem dJ2_checkBoundsBeginEnd_d044e_9 : decode cJ2_checkBoundsBeginEnd_d044e 9 = .ok (.return_, 1) := by decide +kernel
theorem dJ2_checkBoundsOffCount_d044e_0 : decode cJ2_checkBoundsOffCount_d044e 0 = .ok (.iload_n 0, 1) := by decide +kernel
theorem dJ2_checkBoundsOffCount_d044e_1 : decode cJ2_checkBoundsOffCount_d044e 1 = .ok (.iload_n 1, 1) := by decide +kernel
theorem dJ2_checkBoundsOffCount_d044e_2 : decode cJ2_checkBoundsOffCount_d044e 2 = .ok (.aload_n 2, 1) := by decide +kernel
theorem dJ2_checkBoundsOffCount_d044e_3 : decode cJ2_checkBoundsOffCount_d044e 3 = .ok (.invokestatic 48, 3) := by decide +kernel
theorem dJ2_checkBoundsOffCount_d044e_6 : decode cJ2_checkBoundsOffCount_d044e 6 = .ok (.invokestatic 419, 3) := by decide +kernel
theorem dJ2_checkBoundsOffCount_d044e_9 : decode cJ2_checkBoundsOffCount_d044e 9 = .ok (.pop, 1) := by decide +kernel
theorem dJ2_checkBoundsOffCount_d044e_10 : decode cJ2_checkBoundsOffCount_d044e 10 = .ok (.return_, 1) := by decide +kernel
theorem dJxa1e45_init_da8c8_0 : decode cJxa1e45_init_da8c8 0 = .ok (.aload_n 0, 1) := by decide +kernel
theorem dJxa1e45_init_da8c8_1 : decode cJxa1e45_init_da8c8 1 = .ok (.invokespecial 1, 3) := by decide +kernel
theorem dJxa1e45_init_da8c8_4 : decode cJxa1e45_init_da8c8 4 = .ok (.return_, 1) := by decide +kernel
theorem dJxc12de_init_da8c8_0 : decode cJxc12de_init_da8c8 0 = .ok (.aload_n 0, 1) := by decide +kernel
theorem dJxc12de_init_da8c8_1 : decode cJxc12de_init_da8c8 1 = .ok (.invokespecial 1, 3) := by decide +kernel
theorem dJxc12de_init_da8c8_4 : decode cJxc12de_init_da8c8 4 = .ok (.aload_n 0, 1) := by decide +kernel
theorem dJxc12de_init_da8c8_5 : decode cJxc12de_init_da8c8 5 = .ok (.iconst 0, 1) := by decide +kernel
theorem dJxc12de_init_da8c8_6 : decode cJxc12de_init_da8c8 6 = .ok (.putfield 7, 3) := by decide +kernel
theorem dJxc12de_init_da8c8_9 : decode cJxc12de_init_da8c8 9 = .ok (.return_, 1) := by decide +kernel
theorem dJx4a65c_init_da8c8_0 : decode cJx4a65c_init_da8c8 0 = .ok (.aload_n 0, 1) := by decide +kernel
theorem dJx4a65c_init_da8c8_1 : decode cJx4a65c_init_da8c8 1 = .ok (.invokespecial 1, 3) := by decide +kernel
theorem dJx4a65c_init_da8c8_4 : decode cJx4a65c_init_da8c8 4 = .ok (.aload_n 0, 1) := by decide +kernel
theorem dJx4a65c_init_da8c8_5 : decode cJx4a65c_init_da8c8 5 = .ok (.getstatic 39, 3) := by decide +kernel
theorem dJx4a65c_init_da8c8_8 : decode cJx4a65c_init_da8c8 8 = .ok (.putfield 9, 3) := by decide +kernel
theorem dJx4a65c_init_da8c8_11 : decode cJx4a65c_init_da8c8 11 = .ok (.return_, 1) := by decide +kernel
theorem dJx4a65c_grow_92f84_0 : decode cJx4a65c_grow_92f84 0 = .ok (.aload_n 0, 1) := by decide +kernel
theorem dJx4a65c_grow_92f84_1 : decode cJx4a65c_grow_92f84 1 = .ok (.getfield 9, 3) := by decide +kernel
theorem dJx4a65c_grow_92f84_4 : decode cJx4a65c_grow_92f84 4 = .ok (.arraylength, 1) := by decide +kernel
theorem dJx4a65c_grow_92f84_5 : decode cJx4a65c_grow_92f84 5 = .ok (.istore_n 2, 1) := by decide +kernel
theorem dJx4a65c_grow_92f84_6 : decode cJx4a65c_grow_92f84 6 = .ok (.iload_n 2, 1) := by decide +kernel
theorem dJx4a65c_grow_92f84_7 : decode cJx4a65c_grow_92f84 7 = .ok (.ifCond .gt 13, 3) := by decide +kernel
theorem dJx4a65c_grow_92f84_10 : decode cJx4a65c_grow_92f84 10 = .ok (.aload_n 0, 1) := by decide +kernel
theorem dJx4a65c_grow_92f84_11 : decode cJx4a65c_grow_92f84 11 = .ok (.getfield 9, 3) := by decide +kernel
theorem dJx4a65c_grow_92f84_14 : decode cJx4a65c_grow_92f84 14 = .ok (.getstatic 39, 3) := by decide +kernel
theorem dJx4a65c_grow_92f84_17 : decode cJx4a65c_grow_92f84 17 = .ok (.if_acmp .eq 28, 3) := by decide +kernel
theorem dJx4a65c_grow_92f84_20 : decode cJx4a65c_grow_92f84 20 = .ok (.iload_n 2, 1) := by decide +kernel
theorem dJx4a65c_grow_92f84_21 : decode cJx4a65c_grow_92f84 21 = .ok (.iload_n 1, 1) := by decide +kernel
theorem dJx4a65c_grow_92f84_22 : decode cJx4a65c_grow_92f84 22 = .ok (.iload_n 2, 1) := by decide +kernel
theorem dJx4a65c_grow_92f84_23 : decode cJx4a65c_grow_92f84 23 = .ok (.isub, 1) := by decide +kernel
theorem dJx4a65c_grow_92f84_24 : decode cJx4a65c_grow_92f84 24 = .ok (.iload_n 2, 1) := by decide +kernel
theorem dJx4a65c_grow_92f84_25 : decode cJx4a65c_grow_92f84 25 = .ok (.iconst 1, 1) := by decide +kernel
theorem dJx4a65c_grow_92f84_26 : decode cJx4a65c_grow_92f84 26 = .ok (.ishr, 1) := by decide +kernel
theorem dJx4a65c_grow_92f84_27 : decode cJx4a65c_grow_92f84 27 = .ok (.invokestatic 73, 3) := by decide +kernel
theorem dJx4a65c_grow_92f84_30 : decode cJx4a65c_grow_92f84 30 = .ok (.istore_n 3, 1) := by decide +kernel
theorem dJx4a65c_grow_92f84_31 : decode cJx4a65c_grow_92f84 31 = .ok (.aload_n 0, 1) := by decide +kernel
theorem dJx4a65c_grow_92f84_32 : decode cJx4a65c_grow_92f84 32 = .ok (.aload_n 0, 1) := by decide +kernel
theorem dJx4a65c_grow_92f84_33 : decode cJx4a65c_grow_92f84 33 = .ok (.getfield 9, 3) := by decide +kernel
theorem dJx4a65c_grow_92f84_36 : decode cJx4a65c_grow_92f84 36 = .ok (.iload_n 3, 1) := by decide +kernel
theorem dJx4a65c_grow_92f84_37 : decode cJx4a65c_grow_92f84 37 = .ok (.invokestatic 66, 3) := by decide +kernel
theorem dJx4a65c_grow_92f84_40 : decode cJx4a65c_grow_92f84 40 = .ok (.dup_x1, 1) := by decide +kernel
theorem dJx4a65c_grow_92f84_41 : decode cJx4a65c_grow_92f84 41 = .ok (.putfield 9, 3) := by decide +kernel
theorem dJx4a65c_grow_92f84_44 : decode cJx4a65c_grow_92f84 44 = .ok (.areturn, 1) := by decide +kernel
theorem dJx4a65c_grow_92f84_45 : decode cJx4a65c_grow_92f84 45 = .ok (.aload_n 0, 1) := by decide +kernel
theorem dJx4a65c_grow_92f84_46 : decode cJx4a65c_grow_92f84 46 = .ok (.bipush 10, 2) := by decide +kernel
theorem dJx4a65c_grow_92f84_48 : decode cJx4a65c_grow_92f84 48 = .ok (.iload_n 1, 1) := by decide +kernel
theorem dJx4a65c_grow_92f84_49 : decode cJx4a65c_grow_92f84 49 = .ok (.invokestatic 79, 3) := by decide +kernel
theorem dJx4a65c_grow_92f84_52 : decode cJx4a65c_grow_92f84 52 = .ok (.anewarray 7, 3) := by decide +kernel
theorem dJx4a65c_grow_92f84_55 : decode cJx4a65c_grow_92f84 55 = .ok (.dup_x1, 1) := by decide +kernel
theorem dJx4a65c_grow_92f84_56 : decode cJx4a65c_grow_92f84 56 = .ok (.putfield 9, 3) := by decide +kernel
theorem dJx4a65c_grow_92f84_59 : decode cJx4a65c_grow_92f84 59 = .ok (.areturn, 1) := by decide +kernel
theorem dJx4a65c_grow_d5877_0 : decode cJx4a65c_grow_d5877 0 = .ok (.aload_n 0, 1) := by decide +kernel
theorem dJx4a65c_grow_d5877_1 : decode cJx4a65c_grow_d5877 1 = .ok (.aload_n 0, 1) := by decide +kernel
theorem dJx4a65c_grow_d5877_2 : decode cJx4a65c_grow_d5877 2 = .ok (.getfield 48, 3) := by decide +kernel
theorem dJx4a65c_grow_d5877_5 : decode cJx4a65c_grow_d5877 5 = .ok (.iconst 1, 1) := by decide +kernel
theorem dJx4a65c_grow_d5877_6 : decode cJx4a65c_grow_d5877 6 = .ok (.iadd, 1) := by decide +kernel
theorem dJx4a65c_grow_d5877_7 : decode cJx4a65c_grow_d5877 7 = .ok (.invokevirtual 69, 3) := by decide +kernel
theorem dJx4a65c_grow_d5877_10 : decode cJx4a65c_grow_d5877 10 = .ok (.areturn, 1) := by decide +kernel
theorem dJx4a65c_size_8abf5_0 : decode cJx4a65c_size_8abf5 0 = .ok (.aload_n 0, 1) := by decide +kernel
theorem dJx4a65c_size_8abf5_1 : decode cJx4a65c_size_8abf5 1 = .ok (.getfield 48, 3) := by decide +kernel
theorem dJx4a65c_size_8abf5_4 : decode cJx4a65c_size_8abf5 4 = .ok (.ireturn, 1) := by decide +kernel
theorem dJx4a65c_isEmpty_aae02_0 : decode cJx4a65c_isEmpty_aae02 0 = .ok (.aload_n 0, 1) := by decide +kernel
theorem dJx4a65c_isEmpty_aae02_1 : decode cJx4a65c_isEmpty_aae02 1 = .ok (.getfield 48, 3) := by decide +kernel
theorem dJx4a65c_isEmpty_aae02_4 : decode cJx4a65c_isEmpty_aae02 4 = .ok (.ifCond .ne 7, 3) := by decide +kernel
theorem dJx4a65c_isEmpty_aae02_7 : decode cJx4a65c_isEmpty_aae02 7 = .ok (.iconst 1, 1) := by decide +kernel
theorem dJx4a65c_isEmpty_aae02_8 : decode cJx4a65c_isEmpty_aae02 8 = .ok (.goto 4, 3) := by decide +kernel
theorem dJx4a65c_isEmpty_aae02_11 : decode cJx4a65c_isEmpty_aae02 11 = .ok (.iconst 0, 1) := by decide +kernel
theorem dJx4a65c_isEmpty_aae02_12 : decode cJx4a65c_isEmpty_aae02 12 = .ok (.ireturn, 1) := by decide +kernel
theorem dJx4a65c_elementData_915e3_0 : decode cJx4a65c_elementData_915e3 0 = .ok (.aload_n 0, 1) := by decide +kernel
theorem dJx4a65c_elementData_915e3_1 : decode cJx4a65c_elementData_915e3 1 = .ok (.getfield 9, 3) := by decide +kernel
theorem dJx4a65c_elementData_915e3_4 : decode cJx4a65c_elementData_915e3 4 = .ok (.iload_n 1, 1) := by decide +kernel
theorem dJx4a65c_elementData_915e3_5 : decode cJx4a65c_elementData_915e3 5 = .ok (.aaload, 1) := by decide +kernel
theorem dJx4a65c_elementData_915e3_6 : decode cJx4a65c_elementData_915e3 6 = .ok (.areturn, 1) := by decide +kernel
theorem dJx4a65c_get_915e3_0 : decode cJx4a65c_get_915e3 0 = .ok (.iload_n 1, 1) := by decide +kernel
theorem dJx4a65c_get_915e3_1 : decode cJx4a65c_get_915e3 1 = .ok (.aload_n 0, 1) := by decide +kernel
theorem dJx4a65c_get_915e3_2 : decode cJx4a65c_get_915e3 2 = .ok (.getfield 48, 3) := by decide +kernel
theorem dJx4a65c_get_915e3_5 : decode cJx4a65c_get_915e3 5 = .ok (.invokestatic 118, 3) := by decide +kernel
theorem dJx4a65c_get_915e3_8 : decode cJx4a65c_get_915e3 8 = .ok (.pop, 1) := by decide +kernel
theorem dJx4a65c_get_915e3_9 : decode cJx4a65c_get_915e3 9 = .ok (.aload_n 0, 1) := by decide +kernel
theorem dJx4a65c_get_915e3_10 : decode cJx4a65c_get_915e3 10 = .ok (.iload_n 1, 1) := by decide +kernel
theorem dJx4a65c_get_915e3_11 : decode cJx4a65c_get_915e3 11 = .ok (.invokevirtual 123, 3) := by decide +kernel
theorem dJx4a65c_get_915e3_14 : decode cJx4a65c_get_915e3 14 = .ok (.areturn, 1) := by decide +kernel
theorem dJx4a65c_add_72be8_0 : decode cJx4a65c_add_72be8 0 = .ok (.iload_n 3, 1) := by decide +kernel
theorem dJx4a65c_add_72be8_1 : decode cJx4a65c_add_72be8 1 = .ok (.aload_n 2, 1) := by decide +kernel
theorem dJx4a65c_add_72be8_2 : decode cJx4a65c_add_72be8 2 = .ok (.arraylength, 1) := by decide +kernel
theorem dJx4a65c_add_72be8_3 : decode cJx4a65c_add_72be8 3 = .ok (.if_icmp .ne 8, 3) := by decide +kernel
theorem dJx4a65c_add_72be8_6 : decode cJx4a65c_add_72be8 6 = .ok (.aload_n 0, 1) := by decide +kernel
theorem dJx4a65c_add_72be8_7 : decode cJx4a65c_add_72be8 7 = .ok (.invokevirtual 129, 3) := by decide +kernel
theorem dJx4a65c_add_72be8_10 : decode cJx4a65c_add_72be8 10 = .ok (.astore_n 2, 1) := by decide +kernel
theorem dJx4a65c_add_72be8_11 : decode cJx4a65c_add_72be8 11 = .ok (.aload_n 2, 1) := by decide +kernel
theorem dJx4a65c_add_72be8_12 : decode cJx4a65c_add_72be8 12 = .ok (.iload_n 3, 1) := by decide +kernel
theorem dJx4a65c_add_72be8_13 : decode cJx4a65c_add_72be8 13 = .ok (.aload_n 1, 1) := by decide +kernel
theorem dJx4a65c_add_72be8_14 : decode cJx4a65c_add_72be8 14 = .ok (.aastore, 1) := by decide +kernel
theorem dJx4a65c_add_72be8_15 : decode cJx4a65c_add_72be8 15 = .ok (.aload_n 0, 1) := by decide +kernel
theorem dJx4a65c_add_72be8_16 : decode cJx4a65c_add_72be8 16 = .ok (.iload_n 3, 1) := by decide +kernel
theorem dJx4a65c_add_72be8_17 : decode cJx4a65c_add_72be8 17 = .ok (.iconst 1, 1) := by decide +kernel
theorem dJx4a65c_add_72be8_18 : decode cJx4a65c_add_72be8 18 = .ok (.iadd, 1) := by decide +kernel
theorem dJx4a65c_add_72be8_19 : decode cJx4a65c_add_72be8 19 = .ok (.putfield 48, 3) := by decide +kernel
theorem dJx4a65c_add_72be8_22 : decode cJx4a65c_add_72be8 22 = .ok (.return_, 1) := by decide +kernel
theorem dJx4a65c_add_9ea2d_0 : decode cJx4a65c_add_9ea2d 0 = .ok (.aload_n 0, 1) := by decide +kernel
theorem dJx4a65c_add_9ea2d_1 : decode cJx4a65c_add_9ea2d 1 = .ok (.dup, 1) := by decide +kernel
theorem dJx4a65c_add_9ea2d_2 : decode cJx4a65c_add_9ea2d 2 = .ok (.getfield 63, 3) := by decide +kernel
theorem dJx4a65c_add_9ea2d_5 : decode cJx4a65c_add_9ea2d 5 = .ok (.iconst 1, 1) := by decide +kernel
theorem dJx4a65c_add_9ea2d_6 : decode cJx4a65c_add_9ea2d 6 = .ok (.iadd, 1) := by decide +kernel
theorem dJx4a65c_add_9ea2d_7 : decode cJx4a65c_add_9ea2d 7 = .ok (.putfield 63, 3) := by decide +kernel
theorem dJx4a65c_add_9ea2d_10 : decode cJx4a65c_add_9ea2d 10 = .ok (.aload_n 0, 1) := by decide +kernel
theorem dJx4a65c_add_9ea2d_11 : decode cJx4a65c_add_9ea2d 11 = .ok (.aload_n 1, 1) := by decide +kernel
theorem dJx4a65c_add_9ea2d_12 : decode cJx4a65c_add_9ea2d 12 = .ok (.aload_n 0, 1) := by decide +kernel
theorem dJx4a65c_add_9ea2d_13 : decode cJx4a65c_add_9ea2d 13 = .ok (.getfield 9, 3) := by decide +kernel
theorem dJx4a65c_add_9ea2d_16 : decode cJx4a65c_add_9ea2d 16 = .ok (.aload_n 0, 1) := by decide +kernel
theorem dJx4a65c_add_9ea2d_17 : decode cJx4a65c_add_9ea2d 17 = .ok (.getfield 48, 3) := by decide +kernel
theorem dJx4a65c_add_9ea2d_20 : decode cJx4a65c_add_9ea2d 20 = .ok (.invokevirtual 131, 3) := by decide +kernel
theorem dJx4a65c_add_9ea2d_23 : decode cJx4a65c_add_9ea2d 23 = .ok (.iconst 1, 1) := by decide +kernel
theorem dJx4a65c_add_9ea2d_24 : decode cJx4a65c_add_9ea2d 24 = .ok (.ireturn, 1) := by decide +kernel
theorem dJx4a65c_clear_da8c8_0 : decode cJx4a65c_clear_da8c8 0 = .ok (.aload_n 0, 1) := by decide +kernel
theorem dJx4a65c_clear_da8c8_1 : decode cJx4a65c_clear_da8c8 1 = .ok (.dup, 1) := by decide +kernel
theorem dJx4a65c_clear_da8c8_2 : decode cJx4a65c_clear_da8c8 2 = .ok (.getfield 63, 3) := by decide +kernel
theorem dJx4a65c_clear_da8c8_5 : decode cJx4a65c_clear_da8c8 5 = .ok (.iconst 1, 1) := by decide +kernel
theorem dJx4a65c_clear_da8c8_6 : decode cJx4a65c_clear_da8c8 6 = .ok (.iadd, 1) := by decide +kernel
theorem dJx4a65c_clear_da8c8_7 : decode cJx4a65c_clear_da8c8 7 = .ok (.putfield 63, 3) := by decide +kernel
theorem dJx4a65c_clear_da8c8_10 : decode cJx4a65c_clear_da8c8 10 = .ok (.aload_n 0, 1) := by decide +kernel
theorem dJx4a65c_clear_da8c8_11 : decode cJx4a65c_clear_da8c8 11 = .ok (.getfield 9, 3) := by decide +kernel
theorem dJx4a65c_clear_da8c8_14 : decode cJx4a65c_clear_da8c8 14 = .ok (.astore_n 1, 1) := by decide +kernel
theorem dJx4a65c_clear_da8c8_15 : decode cJx4a65c_clear_da8c8 15 = .ok (.aload_n 0, 1) := by decide +kernel
theorem dJx4a65c_clear_da8c8_16 : decode cJx4a65c_clear_da8c8 16 = .ok (.getfield 48, 3) := by decide +kernel
theorem dJx4a65c_clear_da8c8_19 : decode cJx4a65c_clear_da8c8 19 = .ok (.istore_n 2, 1) := by decide +kernel
theorem dJx4a65c_clear_da8c8_20 : decode cJx4a65c_clear_da8c8 20 = .ok (.aload_n 0, 1) := by decide +kernel
theorem dJx4a65c_clear_da8c8_21 : decode cJx4a65c_clear_da8c8 21 = .ok (.iconst 0, 1) := by decide +kernel
theorem dJx4a65c_clear_da8c8_22 : decode cJx4a65c_clear_da8c8 22 = .ok (.dup_x1, 1) := by decide +kernel
theorem dJx4a65c_clear_da8c8_23 : decode cJx4a65c_clear_da8c8 23 = .ok (.putfield 48, 3) := by decide +kernel
theorem dJx4a65c_clear_da8c8_26 : decode cJx4a65c_clear_da8c8 26 = .ok (.istore_n 3, 1) := by decide +kernel
theorem dJx4a65c_clear_da8c8_27 : decode cJx4a65c_clear_da8c8 27 = .ok (.iload_n 3, 1) := by decide +kernel
theorem dJx4a65c_clear_da8c8_28 : decode cJx4a65c_clear_da8c8 28 = .ok (.iload_n 2, 1) := by decide +kernel
theorem dJx4a65c_clear_da8c8_29 : decode cJx4a65c_clear_da8c8 29 = .ok (.if_icmp .ge 13, 3) := by decide +kernel
theorem dJx4a65c_clear_da8c8_32 : decode cJx4a65c_clear_da8c8 32 = .ok (.aload_n 1, 1) := by decide +kernel
theorem dJx4a65c_clear_da8c8_33 : decode cJx4a65c_clear_da8c8 33 = .ok (.iload_n 3, 1) := by decide +kernel
theorem dJx4a65c_clear_da8c8_34 : decode cJx4a65c_clear_da8c8 34 = .ok (.aconst_null, 1) := by decide +kernel
theorem dJx4a65c_clear_da8c8_35 : decode cJx4a65c_clear_da8c8 35 = .ok (.aastore, 1) := by decide +kernel
theorem dJx4a65c_clear_da8c8_36 : decode cJx4a65c_clear_da8c8 36 = .ok (.iinc 3 1, 3) := by decide +kernel
theorem dJx4a65c_clear_da8c8_39 : decode cJx4a65c_clear_da8c8 39 = .ok (.goto (-12), 3) := by decide +kernel
theorem dJx4a65c_clear_da8c8_42 : decode cJx4a65c_clear_da8c8 42 = .ok (.return_, 1) := by decide +kernel
theorem dJ7_rangeCheck_23922_0 : decode cJ7_rangeCheck_23922 0 = .ok (.iload_n 1, 1) := by decide +kernel
theorem dJ7_rangeCheck_23922_1 : decode cJ7_rangeCheck_23922 1 = .ok (.iload_n 2, 1) := by decide +kernel
theorem dJ7_rangeCheck_23922_2 : decode cJ7_rangeCheck_23922 2 = .ok (.if_icmp .le 44, 3) := by decide +kernel
theorem dJ7_rangeCheck_23922_5 : decode cJ7_rangeCheck_23922 5 = .ok (.new 43, 3) := by decide +kernel
theorem dJ7_rangeCheck_23922_8 : decode cJ7_rangeCheck_23922 8 = .ok (.dup, 1) := by decide +kernel
theorem dJ7_rangeCheck_23922_9 : decode cJ7_rangeCheck_23922 9 = .ok (.new 45, 3) := by decide +kernel
theorem dJ7_rangeCheck_23922_12 : decode cJ7_rangeCheck_23922 12 = .ok (.dup, 1) := by decide +kernel
theorem dJ7_rangeCheck_23922_13 : decode cJ7_rangeCheck_23922 13 = .ok (.invokespecial 47, 3) := by decide +kernel
theorem dJ7_rangeCheck_23922_16 : decode cJ7_rangeCheck_23922 16 = .ok (.ldc 48, 2) := by decide +kernel
theorem dJ7_rangeCheck_23922_18 : decode cJ7_rangeCheck_23922 18 = .ok (.invokevirtual 50, 3) := by decide +kernel
theorem dJ7_rangeCheck_23922_21 : decode cJ7_rangeCheck_23922 21 = .ok (.iload_n 1, 1) := by decide +kernel
theorem dJ7_rangeCheck_23922_22 : decode cJ7_rangeCheck_23922 22 = .ok (.invokevirtual 54, 3) := by decide +kernel
theorem dJ7_rangeCheck_23922_25 : decode cJ7_rangeCheck_23922 25 = .ok (.ldc 57, 2) := by decide +kernel
theorem dJ7_rangeCheck_23922_27 : decode cJ7_rangeCheck_23922 27 = .ok (.invokevirtual 50, 3) := by decide +kernel
theorem dJ7_rangeCheck_23922_30 : decode cJ7_rangeCheck_23922 30 = .ok (.iload_n 2, 1) := by decide +kernel
theorem dJ7_rangeCheck_23922_31 : decode cJ7_rangeCheck_23922 31 = .ok (.invokevirtual 54, 3) := by decide +kernel
theorem dJ7_rangeCheck_23922_34 : decode cJ7_rangeCheck_23922 34 = .ok (.ldc 59, 2) := by decide +kernel
theorem dJ7_rangeCheck_23922_36 : decode cJ7_rangeCheck_23922 36 = .ok (.invokevirtual 50, 3) := by decide +kernel
theorem dJ7_rangeCheck_23922_39 : decode cJ7_rangeCheck_23922 39 = .ok (.invokevirtual 61, 3) := by decide +kernel
theorem dJ7_rangeCheck_23922_42 : decode cJ7_rangeCheck_23922 42 = .ok (.invokespecial 65, 3) := by decide +kernel
theorem dJ7_rangeCheck_23922_45 : decode cJ7_rangeCheck_23922 45 = .ok (.athrow, 1) := by decide +kernel
theorem dJ7_rangeCheck_23922_46 : decode cJ7_rangeCheck_23922 46 = .ok (.iload_n 1, 1) := by decide +kernel
theorem dJ7_rangeCheck_23922_47 : decode cJ7_rangeCheck_23922 47 = .ok (.ifCond .ge 12, 3) := by decide +kernel
theorem dJ7_rangeCheck_23922_50 : decode cJ7_rangeCheck_23922 50 = .ok (.new 68, 3) := by decide +kernel
theorem dJ7_rangeCheck_23922_53 : decode cJ7_rangeCheck_23922 53 = .ok (.dup, 1) := by decide +kernel
theorem dJ7_rangeCheck_23922_54 : decode cJ7_rangeCheck_23922 54 = .ok (.iload_n 1, 1) := by decide +kernel
theorem dJ7_rangeCheck_23922_55 : decode cJ7_rangeCheck_23922 55 = .ok (.invokespecial 70, 3) := by decide +kernel
theorem dJ7_rangeCheck_23922_58 : decode cJ7_rangeCheck_23922 58 = .ok (.athrow, 1) := by decide +kernel
theorem dJ7_rangeCheck_23922_59 : decode cJ7_rangeCheck_23922 59 = .ok (.iload_n 2, 1) := by decide +kernel
theorem dJ7_rangeCheck_23922_60 : decode cJ7_rangeCheck_23922 60 = .ok (.iload_n 0, 1) := by decide +kernel
theorem dJ7_rangeCheck_23922_61 : decode cJ7_rangeCheck_23922 61 = .ok (.if_icmp .le 12, 3) := by decide +kernel
theorem dJ7_rangeCheck_23922_64 : decode cJ7_rangeCheck_23922 64 = .ok (.new 68, 3) := by decide +kernel
theorem dJ7_rangeCheck_23922_67 : decode cJ7_rangeCheck_23922 67 = .ok (.dup, 1) := by decide +kernel
theorem dJ7_rangeCheck_23922_68 : decode cJ7_rangeCheck_23922 68 = .ok (.iload_n 2, 1) := by decide +kernel
theorem dJ7_rangeCheck_23922_69 : decode cJ7_rangeCheck_23922 69 = .ok (.invokespecial 70, 3) := by decide +kernel
theorem dJ7_rangeCheck_23922_72 : decode cJ7_rangeCheck_23922 72 = .ok (.athrow, 1) := by decide +kernel
theorem dJ7_rangeCheck_23922_73 : decode cJ7_rangeCheck_23922 73 = .ok (.return_, 1) := by decide +kernel
theorem dJ7_fill_eb02e_0 : decode cJ7_fill_eb02e 0 = .ok (.aload_n 0, 1) := by decide +kernel
theorem dJ7_fill_eb02e_1 : decode cJ7_fill_eb02e 1 = .ok (.arraylength, 1) := by decide +kernel
theorem dJ7_fill_eb02e_2 : decode cJ7_fill_eb02e 2 = .ok (.iload_n 1, 1) := by decide +kernel
theorem dJ7_fill_eb02e_3 : decode cJ7_fill_eb02e 3 = .ok (.iload_n 2, 1) := by decide +kernel
theorem dJ7_fill_eb02e_4 : decode cJ7_fill_eb02e 4 = .ok (.invokestatic 13, 3) := by decide +kernel
theorem dJ7_fill_eb02e_7 : decode cJ7_fill_eb02e 7 = .ok (.iload_n 1, 1) := by decide +kernel
theorem dJ7_fill_eb02e_8 : decode cJ7_fill_eb02e 8 = .ok (.istore 4, 2) := by decide +kernel
theorem dJ7_fill_eb02e_10 : decode cJ7_fill_eb02e 10 = .ok (.iload 4, 2) := by decide +kernel
theorem dJ7_fill_eb02e_12 : decode cJ7_fill_eb02e 12 = .ok (.iload_n 2, 1) := by decide +kernel
theorem dJ7_fill_eb02e_13 : decode cJ7_fill_eb02e 13 = .ok (.if_icmp .ge 14, 3) := by decide +kernel
theorem dJ7_fill_eb02e_16 : decode cJ7_fill_eb02e 16 = .ok (.aload_n 0, 1) := by decide +kernel
theorem dJ7_fill_eb02e_17 : decode cJ7_fill_eb02e 17 = .ok (.iload 4, 2) := by decide +kernel
theorem dJ7_fill_eb02e_19 : decode cJ7_fill_eb02e 19 = .ok (.iload_n 3, 1) := by decide +kernel
theorem dJ7_fill_eb02e_20 : decode cJ7_fill_eb02e 20 = .ok (.bastore, 1) := by decide +kernel
theorem dJ7_fill_eb02e_21 : decode cJ7_fill_eb02e 21 = .ok (.iinc 4 1, 3) := by decide +kernel
theorem dJ7_fill_eb02e_24 : decode cJ7_fill_eb02e 24 = .ok (.goto (-14), 3) := by decide +kernel
theorem dJ7_fill_eb02e_27 : decode cJ7_fill_eb02e 27 = .ok (.return_, 1) := by decide +kernel
theorem dJ7_copyOf_1904c_0 : decode cJ7_copyOf_1904c 0 = .ok (.aload_n 0, 1) := by decide +kernel
theorem dJ7_copyOf_1904c_1 : decode cJ7_copyOf_1904c 1 = .ok (.iload_n 1, 1) := by decide +kernel
theorem dJ7_copyOf_1904c_2 : decode cJ7_copyOf_1904c 2 = .ok (.aload_n 0, 1) := by decide +kernel
theorem dJ7_copyOf_1904c_3 : decode cJ7_copyOf_1904c 3 = .ok (.invokevirtual 86, 3) := by decide +kernel
theorem dJ7_copyOf_1904c_6 : decode cJ7_copyOf_1904c 6 = .ok (.invokestatic 300, 3) := by decide +kernel
theorem dJ7_copyOf_1904c_9 : decode cJ7_copyOf_1904c 9 = .ok (.areturn, 1) := by decide +kernel
theorem dJ7_copyOf_6403c_0 : decode cJ7_copyOf_6403c 0 = .ok (.aload_n 2, 1) := by decide +kernel
theorem dJ7_copyOf_6403c_1 : decode cJ7_copyOf_6403c 1 = .ok (.ldc 110, 2) := by decide +kernel
theorem dJ7_copyOf_6403c_3 : decode cJ7_copyOf_6403c 3 = .ok (.if_acmp .ne 10, 3) := by decide +kernel
theorem dJ7_copyOf_6403c_6 : decode cJ7_copyOf_6403c 6 = .ok (.iload_n 1, 1) := by decide +kernel
theorem dJ7_copyOf_6403c_7 : decode cJ7_copyOf_6403c 7 = .ok (.anewarray 2, 3) := by decide +kernel
theorem dJ7_copyOf_6403c_10 : decode cJ7_copyOf_6403c 10 = .ok (.goto 14, 3) := by decide +kernel
theorem dJ7_copyOf_6403c_13 : decode cJ7_copyOf_6403c 13 = .ok (.aload_n 2, 1) := by decide +kernel
theorem dJ7_copyOf_6403c_14 : decode cJ7_copyOf_6403c 14 = .ok (.invokevirtual 90, 3) := by decide +kernel
theorem dJ7_copyOf_6403c_17 : decode cJ7_copyOf_6403c 17 = .ok (.iload_n 1, 1) := by decide +kernel
theorem dJ7_copyOf_6403c_18 : decode cJ7_copyOf_6403c 18 = .ok (.invokestatic 95, 3) := by decide +kernel
theorem dJ7_copyOf_6403c_21 : decode cJ7_copyOf_6403c 21 = .ok (.checkcast 110, 3) := by decide +kernel
theorem dJ7_copyOf_6403c_24 : decode cJ7_copyOf_6403c 24 = .ok (.astore_n 3, 1) := by decide +kernel
theorem dJ7_copyOf_6403c_25 : decode cJ7_copyOf_6403c 25 = .ok (.aload_n 0, 1) := by decide +kernel
theorem dJ7_copyOf_6403c_26 : decode cJ7_copyOf_6403c 26 = .ok (.iconst 0, 1) := by decide +kernel
theorem dJ7_copyOf_6403c_27 : decode cJ7_copyOf_6403c 27 = .ok (.aload_n 3, 1) := by decide +kernel
theorem dJ7_copyOf_6403c_28 : decode cJ7_copyOf_6403c 28 = .ok (.iconst 0, 1) := by decide +kernel
theorem dJ7_copyOf_6403c_29 : decode cJ7_copyOf_6403c 29 = .ok (.aload_n 0, 1) := by decide +kernel
theorem dJ7_copyOf_6403c_30 : decode cJ7_copyOf_6403c 30 = .ok (.arraylength, 1) := by decide +kernel
theorem dJ7_copyOf_6403c_31 : decode cJ7_copyOf_6403c 31 = .ok (.iload_n 1, 1) := by decide +kernel
theorem dJ7_copyOf_6403c_32 : decode cJ7_copyOf_6403c 32 = .ok (.invokestatic 304, 3) := by decide +kernel
theorem dJ7_copyOf_6403c_35 : decode cJ7_copyOf_6403c 35 = .ok (.invokestatic 150, 3) := by decide +kernel
theorem dJ7_copyOf_6403c_38 : decode cJ7_copyOf_6403c 38 = .ok (.aload_n 3, 1) := by decide +kernel
theorem dJ7_copyOf_6403c_39 : decode cJ7_copyOf_6403c 39 = .ok (.areturn, 1) := by decide +kernel
theorem dJ7_copyOf_9075b_0 : decode cJ7_copyOf_9075b 0 = .ok (.iload_n 1, 1) := by decide +kernel
theorem dJ7_copyOf_9075b_1 : decode cJ7_copyOf_9075b 1 = .ok (.aload_n 0, 1) := by decide +kernel
theorem dJ7_copyOf_9075b_2 : decode cJ7_copyOf_9075b 2 = .ok (.arraylength, 1) := by decide +kernel
theorem dJ7_copyOf_9075b_3 : decode cJ7_copyOf_9075b 3 = .ok (.if_icmp .ne 11, 3) := by decide +kernel
theorem dJ7_copyOf_9075b_6 : decode cJ7_copyOf_9075b 6 = .ok (.aload_n 0, 1) := by decide +kernel
theorem dJ7_copyOf_9075b_7 : decode cJ7_copyOf_9075b 7 = .ok (.invokevirtual 310, 3) := by decide +kernel
theorem dJ7_copyOf_9075b_10 : decode cJ7_copyOf_9075b 10 = .ok (.checkcast 311, 3) := by decide +kernel
theorem dJ7_copyOf_9075b_13 : decode cJ7_copyOf_9075b 13 = .ok (.areturn, 1) := by decide +kernel
theorem dJ7_copyOf_9075b_14 : decode cJ7_copyOf_9075b 14 = .ok (.iload_n 1, 1) := by decide +kernel
theorem dJ7_copyOf_9075b_15 : decode cJ7_copyOf_9075b 15 = .ok (.newarray .byte, 2) := by decide +kernel
theorem dJ7_copyOf_9075b_17 : decode cJ7_copyOf_9075b 17 = .ok (.astore_n 2, 1) := by decide +kernel
theorem dJ7_copyOf_9075b_18 : decode cJ7_copyOf_9075b 18 = .ok (.aload_n 0, 1) := by decide +kernel
theorem dJ7_copyOf_9075b_19 : decode cJ7_copyOf_9075b 19 = .ok (.iconst 0, 1) := by decide +kernel
theorem dJ7_copyOf_9075b_20 : decode cJ7_copyOf_9075b 20 = .ok (.aload_n 2, 1) := by decide +kernel
theorem dJ7_copyOf_9075b_21 : decode cJ7_copyOf_9075b 21 = .ok (.iconst 0, 1) := by decide +kernel
theorem dJ7_copyOf_9075b_22 : decode cJ7_copyOf_9075b 22 = .ok (.aload_n 0, 1) := by decide +kernel
theorem dJ7_copyOf_9075b_23 : decode cJ7_copyOf_9075b 23 = .ok (.arraylength, 1) := by decide +kernel
theorem dJ7_copyOf_9075b_24 : decode cJ7_copyOf_9075b 24 = .ok (.iload_n 1, 1) := by decide +kernel
theorem dJ7_copyOf_9075b_25 : decode cJ7_copyOf_9075b 25 = .ok (.invokestatic 304, 3) := by decide +kernel
theorem dJ7_copyOf_9075b_28 : decode cJ7_copyOf_9075b 28 = .ok (.invokestatic 150, 3) := by decide +kernel
theorem dJ7_copyOf_9075b_31 : decode cJ7_copyOf_9075b 31 = .ok (.aload_n 2, 1) := by decide +kernel
theorem dJ7_copyOf_9075b_32 : decode cJ7_copyOf_9075b 32 = .ok (.areturn, 1) := by decide +kernel
theorem dJ7_checkLength_df160_0 : decode cJ7_checkLength_df160 0 = .ok (.iload_n 1, 1) := by decide +kernel
theorem dJ7_checkLength_df160_1 : decode cJ7_checkLength_df160 1 = .ok (.iload_n 0, 1) := by decide +kernel
theorem dJ7_checkLength_df160_2 : decode cJ7_checkLength_df160 2 = .ok (.if_icmp .ge 35, 3) := by decide +kernel
theorem dJ7_checkLength_df160_5 : decode cJ7_checkLength_df160 5 = .ok (.new 43, 3) := by decide +kernel
theorem dJ7_checkLength_df160_8 : decode cJ7_checkLength_df160 8 = .ok (.dup, 1) := by decide +kernel
theorem dJ7_checkLength_df160_9 : decode cJ7_checkLength_df160 9 = .ok (.new 45, 3) := by decide +kernel
theorem dJ7_checkLength_df160_12 : decode cJ7_checkLength_df160 12 = .ok (.dup, 1) := by decide +kernel
theorem dJ7_checkLength_df160_13 : decode cJ7_checkLength_df160 13 = .ok (.invokespecial 47, 3) := by decide +kernel
theorem dJ7_checkLength_df160_16 : decode cJ7_checkLength_df160 16 = .ok (.iload_n 0, 1) := by decide +kernel
theorem dJ7_checkLength_df160_17 : decode cJ7_checkLength_df160 17 = .ok (.invokevirtual 54, 3) := by decide +kernel
theorem dJ7_checkLength_df160_20 : decode cJ7_checkLength_df160 20 = .ok (.ldc_w 337, 3) := by decide +kernel
theorem dJ7_checkLength_df160_23 : decode cJ7_checkLength_df160 23 = .ok (.invokevirtual 50, 3) := by decide +kernel
theorem dJ7_checkLength_df160_26 : decode cJ7_checkLength_df160 26 = .ok (.iload_n 1, 1) := by decide +kernel
theorem dJ7_checkLength_df160_27 : decode cJ7_checkLength_df160 27 = .ok (.invokevirtual 54, 3) := by decide +kernel
theorem dJ7_checkLength_df160_30 : decode cJ7_checkLength_df160 30 = .ok (.invokevirtual 61, 3) := by decide +kernel
theorem dJ7_checkLength_df160_33 : decode cJ7_checkLength_df160 33 = .ok (.invokespecial 65, 3) := by decide +kernel
theorem dJ7_checkLength_df160_36 : decode cJ7_checkLength_df160 36 = .ok (.athrow, 1) := by decide +kernel
theorem dJ7_checkLength_df160_37 : decode cJ7_checkLength_df160 37 = .ok (.return_, 1) := by decide +kernel
theorem dJ7_copyOfRange_39247_0 : decode cJ7_copyOfRange_39247 0 = .ok (.iload_n 1, 1) := by decide +kernel
theorem dJ7_copyOfRange_39247_1 : decode cJ7_copyOfRange_39247 1 = .ok (.ifCond .ne 9, 3) := by decide +kernel
theorem dJ7_copyOfRange_39247_4 : decode cJ7_copyOfRange_39247 4 = .ok (.iload_n 2, 1) := by decide +kernel
theorem dJ7_copyOfRange_39247_5 : decode cJ7_copyOfRange_39247 5 = .ok (.aload_n 0, 1) := by decide +kernel
theorem dJ7_copyOfRange_39247_6 : decode cJ7_copyOfRange_39247 6 = .ok (.arraylength, 1) := by decide +kernel
theorem dJ7_copyOfRange_39247_7 : decode cJ7_copyOfRange_39247 7 = .ok (.if_icmp .eq 10, 3) := by decide +kernel
theorem dJ7_copyOfRange_39247_10 : decode cJ7_copyOfRange_39247 10 = .ok (.aload_n 0, 1) := by decide +kernel
theorem dJ7_copyOfRange_39247_11 : decode cJ7_copyOfRange_39247 11 = .ok (.iload_n 1, 1) := by decide +kernel
theorem dJ7_copyOfRange_39247_12 : decode cJ7_copyOfRange_39247 12 = .ok (.iload_n 2, 1) := by decide +kernel
theorem dJ7_copyOfRange_39247_13 : decode cJ7_copyOfRange_39247 13 = .ok (.invokestatic 339, 3) := by decide +kernel
theorem dJ7_copyOfRange_39247_16 : decode cJ7_copyOfRange_39247 16 = .ok (.areturn, 1) := by decide +kernel
theorem dJ7_copyOfRange_39247_17 : decode cJ7_copyOfRange_39247 17 = .ok (.aload_n 0, 1) := by decide +kernel
theorem dJ7_copyOfRange_39247_18 : decode cJ7_copyOfRange_39247 18 = .ok (.invokevirtual 310, 3) := by decide +kernel
theorem dJ7_copyOfRange_39247_21 : decode cJ7_copyOfRange_39247 21 = .ok (.checkcast 311, 3) := by decide +kernel
theorem dJ7_copyOfRange_39247_24 : decode cJ7_copyOfRange_39247 24 = .ok (.areturn, 1) := by decide +kernel
theorem dJ7_copyOfRangeByte_39247_0 : decode cJ7_copyOfRangeByte_39247 0 = .ok (.iload_n 1, 1) := by decide +kernel
theorem dJ7_copyOfRangeByte_39247_1 : decode cJ7_copyOfRangeByte_39247 1 = .ok (.iload_n 2, 1) := by decide +kernel
theorem dJ7_copyOfRangeByte_39247_2 : decode cJ7_copyOfRangeByte_39247 2 = .ok (.invokestatic 343, 3) := by decide +kernel
theorem dJ7_copyOfRangeByte_39247_5 : decode cJ7_copyOfRangeByte_39247 5 = .ok (.iload_n 2, 1) := by decide +kernel
theorem dJ7_copyOfRangeByte_39247_6 : decode cJ7_copyOfRangeByte_39247 6 = .ok (.iload_n 1, 1) := by decide +kernel
theorem dJ7_copyOfRangeByte_39247_7 : decode cJ7_copyOfRangeByte_39247 7 = .ok (.isub, 1) := by decide +kernel
theorem dJ7_copyOfRangeByte_39247_8 : decode cJ7_copyOfRangeByte_39247 8 = .ok (.istore_n 3, 1) := by decide +kernel
theorem dJ7_copyOfRangeByte_39247_9 : decode cJ7_copyOfRangeByte_39247 9 = .ok (.iload_n 3, 1) := by decide +kernel
theorem dJ7_copyOfRangeByte_39247_10 : decode cJ7_copyOfRangeByte_39247 10 = .ok (.newarray .byte, 2) := by decide +kernel
theorem dJ7_copyOfRangeByte_39247_12 : decode cJ7_copyOfRangeByte_39247 12 = .ok (.astore 4, 2) := by decide +kernel
theorem dJ7_copyOfRangeByte_39247_14 : decode cJ7_copyOfRangeByte_39247 14 = .ok (.aload_n 0, 1) := by decide +kernel
theorem dJ7_copyOfRangeByte_39247_15 : decode cJ7_copyOfRangeByte_39247 15 = .ok (.iload_n 1, 1) := by decide +kernel
theorem dJ7_copyOfRangeByte_39247_16 : decode cJ7_copyOfRangeByte_39247 16 = .ok (.aload 4, 2) := by decide +kernel
theorem dJ7_copyOfRangeByte_39247_18 : decode cJ7_copyOfRangeByte_39247 18 = .ok (.iconst 0, 1) := by decide +kernel
theorem dJ7_copyOfRangeByte_39247_19 : decode cJ7_copyOfRangeByte_39247 19 = .ok (.aload_n 0, 1) := by decide +kernel
theorem dJ7_copyOfRangeByte_39247_20 : decode cJ7_copyOfRangeByte_39247 20 = .ok (.arraylength, 1) := by decide +kernel
theorem dJ7_copyOfRangeByte_39247_21 : decode cJ7_copyOfRangeByte_39247 21 = .ok (.iload_n 1, 1) := by decide +kernel
theorem dJ7_copyOfRangeByte_39247_22 : decode cJ7_copyOfRangeByte_39247 22 = .ok (.isub, 1) := by decide +kernel
theorem dJ7_copyOfRangeByte_39247_23 : decode cJ7_copyOfRangeByte_39247 23 = .ok (.iload_n 3, 1) := by decide +kernel
theorem dJ7_copyOfRangeByte_39247_24 : decode cJ7_copyOfRangeByte_39247 24 = .ok (.invokestatic 304, 3) := by decide +kernel
theorem dJ7_copyOfRangeByte_39247_27 : decode cJ7_copyOfRangeByte_39247 27 = .ok (.invokestatic 150, 3) := by decide +kernel
theorem dJ7_copyOfRangeByte_39247_30 : decode cJ7_copyOfRangeByte_39247 30 = .ok (.aload 4, 2) := by decide +kernel
theorem dJ7_copyOfRangeByte_39247_32 : decode cJ7_copyOfRangeByte_39247 32 = .ok (.areturn, 1) := by decide +kernel
theorem dJ15_checkIndex_7cf53_0 : decode cJ15_checkIndex_7cf53 0 = .ok (.iload_n 0, 1) := by decide +kernel
theorem dJ15_checkIndex_7cf53_1 : decode cJ15_checkIndex_7cf53 1 = .ok (.iload_n 1, 1) := by decide +kernel
theorem dJ15_checkIndex_7cf53_2 : decode cJ15_checkIndex_7cf53 2 = .ok (.aconst_null, 1) := by decide +kernel
theorem dJ15_checkIndex_7cf53_3 : decode cJ15_checkIndex_7cf53 3 = .ok (.invokestatic 105, 3) := by decide +kernel
theorem dJ15_checkIndex_7cf53_6 : decode cJ15_checkIndex_7cf53 6 = .ok (.ireturn, 1) := by decide +kernel
theorem dJ8_newLength_cabcc_0 : decode cJ8_newLength_cabcc 0 = .ok (.iload_n 0, 1) := by decide +kernel
theorem dJ8_newLength_cabcc_1 : decode cJ8_newLength_cabcc 1 = .ok (.iload_n 1, 1) := by decide +kernel
theorem dJ8_newLength_cabcc_2 : decode cJ8_newLength_cabcc 2 = .ok (.iload_n 2, 1) := by decide +kernel
theorem dJ8_newLength_cabcc_3 : decode cJ8_newLength_cabcc 3 = .ok (.invokestatic 194, 3) := by decide +kernel
theorem dJ8_newLength_cabcc_6 : decode cJ8_newLength_cabcc 6 = .ok (.iadd, 1) := by decide +kernel
theorem dJ8_newLength_cabcc_7 : decode cJ8_newLength_cabcc 7 = .ok (.istore_n 3, 1) := by decide +kernel
theorem dJ8_newLength_cabcc_8 : decode cJ8_newLength_cabcc 8 = .ok (.iconst 0, 1) := by decide +kernel
theorem dJ8_newLength_cabcc_9 : decode cJ8_newLength_cabcc 9 = .ok (.iload_n 3, 1) := by decide +kernel
theorem dJ8_newLength_cabcc_10 : decode cJ8_newLength_cabcc 10 = .ok (.if_icmp .ge 11, 3) := by decide +kernel
theorem dJ8_newLength_cabcc_13 : decode cJ8_newLength_cabcc 13 = .ok (.iload_n 3, 1) := by decide +kernel
theorem dJ8_newLength_cabcc_14 : decode cJ8_newLength_cabcc 14 = .ok (.ldc 200, 2) := by decide +kernel
theorem dJ8_newLength_cabcc_16 : decode cJ8_newLength_cabcc 16 = .ok (.if_icmp .gt 5, 3) := by decide +kernel
theorem dJ8_newLength_cabcc_19 : decode cJ8_newLength_cabcc 19 = .ok (.iload_n 3, 1) := by decide +kernel
theorem dJ8_newLength_cabcc_20 : decode cJ8_newLength_cabcc 20 = .ok (.ireturn, 1) := by decide +kernel
theorem dJ8_newLength_cabcc_21 : decode cJ8_newLength_cabcc 21 = .ok (.iload_n 0, 1) := by decide +kernel
theorem dJ8_newLength_cabcc_22 : decode cJ8_newLength_cabcc 22 = .ok (.iload_n 1, 1) := by decide +kernel
theorem dJ8_newLength_cabcc_23 : decode cJ8_newLength_cabcc 23 = .ok (.invokestatic 201, 3) := by decide +kernel
theorem dJ8_newLength_cabcc_26 : decode cJ8_newLength_cabcc 26 = .ok (.ireturn, 1) := by decide +kernel
theorem dJ8_hugeLength_7cf53_0 : decode cJ8_hugeLength_7cf53 0 = .ok (.iload_n 0, 1) := by decide +kernel
theorem dJ8_hugeLength_7cf53_1 : decode cJ8_hugeLength_7cf53 1 = .ok (.iload_n 1, 1) := by decide +kernel
theorem dJ8_hugeLength_7cf53_2 : decode cJ8_hugeLength_7cf53 2 = .ok (.iadd, 1) := by decide +kernel
theorem dJ8_hugeLength_7cf53_3 : decode cJ8_hugeLength_7cf53 3 = .ok (.istore_n 2, 1) := by decide +kernel
theorem dJ8_hugeLength_7cf53_4 : decode cJ8_hugeLength_7cf53 4 = .ok (.iload_n 2, 1) := by decide +kernel
theorem dJ8_hugeLength_7cf53_5 : decode cJ8_hugeLength_7cf53 5 = .ok (.ifCond .ge 44, 3) := by decide +kernel
theorem dJ8_hugeLength_7cf53_8 : decode cJ8_hugeLength_7cf53 8 = .ok (.new 204, 3) := by decide +kernel
theorem dJ8_hugeLength_7cf53_11 : decode cJ8_hugeLength_7cf53 11 = .ok (.dup, 1) := by decide +kernel
theorem dJ8_hugeLength_7cf53_12 : decode cJ8_hugeLength_7cf53 12 = .ok (.new 89, 3) := by decide +kernel
theorem dJ8_hugeLength_7cf53_15 : decode cJ8_hugeLength_7cf53 15 = .ok (.dup, 1) := by decide +kernel
theorem dJ8_hugeLength_7cf53_16 : decode cJ8_hugeLength_7cf53 16 = .ok (.invokespecial 91, 3) := by decide +kernel
theorem dJ8_hugeLength_7cf53_19 : decode cJ8_hugeLength_7cf53 19 = .ok (.ldc 206, 2) := by decide +kernel
theorem dJ8_hugeLength_7cf53_21 : decode cJ8_hugeLength_7cf53 21 = .ok (.invokevirtual 94, 3) := by decide +kernel
theorem dJ8_hugeLength_7cf53_24 : decode cJ8_hugeLength_7cf53 24 = .ok (.iload_n 0, 1) := by decide +kernel
theorem dJ8_hugeLength_7cf53_25 : decode cJ8_hugeLength_7cf53 25 = .ok (.invokevirtual 98, 3) := by decide +kernel
theorem dJ8_hugeLength_7cf53_28 : decode cJ8_hugeLength_7cf53 28 = .ok (.ldc 208, 2) := by decide +kernel
theorem dJ8_hugeLength_7cf53_30 : decode cJ8_hugeLength_7cf53 30 = .ok (.invokevirtual 94, 3) := by decide +kernel
theorem dJ8_hugeLength_7cf53_33 : decode cJ8_hugeLength_7cf53 33 = .ok (.iload_n 1, 1) := by decide +kernel
theorem dJ8_hugeLength_7cf53_34 : decode cJ8_hugeLength_7cf53 34 = .ok (.invokevirtual 98, 3) := by decide +kernel
theorem dJ8_hugeLength_7cf53_37 : decode cJ8_hugeLength_7cf53 37 = .ok (.ldc 210, 2) := by decide +kernel
theorem dJ8_hugeLength_7cf53_39 : decode cJ8_hugeLength_7cf53 39 = .ok (.invokevirtual 94, 3) := by decide +kernel
theorem dJ8_hugeLength_7cf53_42 : decode cJ8_hugeLength_7cf53 42 = .ok (.invokevirtual 101, 3) := by decide +kernel
theorem dJ8_hugeLength_7cf53_45 : decode cJ8_hugeLength_7cf53 45 = .ok (.invokespecial 212, 3) := by decide +kernel
theorem dJ8_hugeLength_7cf53_48 : decode cJ8_hugeLength_7cf53 48 = .ok (.athrow, 1) := by decide +kernel
theorem dJ8_hugeLength_7cf53_49 : decode cJ8_hugeLength_7cf53 49 = .ok (.iload_n 2, 1) := by decide +kernel
theorem dJ8_hugeLength_7cf53_50 : decode cJ8_hugeLength_7cf53 50 = .ok (.ldc 200, 2) := by decide +kernel
theorem dJ8_hugeLength_7cf53_52 : decode cJ8_hugeLength_7cf53 52 = .ok (.if_icmp .gt 6, 3) := by decide +kernel
theorem dJ8_hugeLength_7cf53_55 : decode cJ8_hugeLength_7cf53 55 = .ok (.ldc 200, 2) := by decide +kernel
theorem dJ8_hugeLength_7cf53_57 : decode cJ8_hugeLength_7cf53 57 = .ok (.ireturn, 1) := by decide +kernel
theorem dJ8_hugeLength_7cf53_58 : decode cJ8_hugeLength_7cf53 58 = .ok (.iload_n 2, 1) := by decide +kernel
theorem dJ8_hugeLength_7cf53_59 : decode cJ8_hugeLength_7cf53 59 = .ok (.ireturn, 1) := by decide +kernel
theorem dJ3_checkIndex_8e157_0 : decode cJ3_checkIndex_8e157 0 = .ok (.iload_n 0, 1) := by decide +kernel
theorem dJ3_checkIndex_8e157_1 : decode cJ3_checkIndex_8e157 1 = .ok (.ifCond .lt 8, 3) := by decide +kernel
theorem dJ3_checkIndex_8e157_4 : decode cJ3_checkIndex_8e157 4 = .ok (.iload_n 0, 1) := by decide +kernel
theorem dJ3_checkIndex_8e157_5 : decode cJ3_checkIndex_8e157 5 = .ok (.iload_n 1, 1) := by decide +kernel
theorem dJ3_checkIndex_8e157_6 : decode cJ3_checkIndex_8e157 6 = .ok (.if_icmp .lt 10, 3) := by decide +kernel
theorem dJ3_checkIndex_8e157_9 : decode cJ3_checkIndex_8e157 9 = .ok (.aload_n 2, 1) := by decide +kernel
theorem dJ3_checkIndex_8e157_10 : decode cJ3_checkIndex_8e157 10 = .ok (.iload_n 0, 1) := by decide +kernel
theorem dJ3_checkIndex_8e157_11 : decode cJ3_checkIndex_8e157 11 = .ok (.iload_n 1, 1) := by decide +kernel
theorem dJ3_checkIndex_8e157_12 : decode cJ3_checkIndex_8e157 12 = .ok (.invokestatic 95, 3) := by decide +kernel
theorem dJ3_checkIndex_8e157_15 : decode cJ3_checkIndex_8e157 15 = .ok (.athrow, 1) := by decide +kernel
theorem dJ3_checkIndex_8e157_16 : decode cJ3_checkIndex_8e157 16 = .ok (.iload_n 0, 1) := by decide +kernel
theorem dJ3_checkIndex_8e157_17 : decode cJ3_checkIndex_8e157 17 = .ok (.ireturn, 1) := by decide +kernel
theorem dJ3_checkFromToIndex_8c36e_0 : decode cJ3_checkFromToIndex_8c36e 0 = .ok (.iload_n 0, 1) := by decide +kernel
theorem dJ3_checkFromToIndex_8c36e_1 : decode cJ3_checkFromToIndex_8c36e 1 = .ok (.ifCond .lt 13, 3) := by decide +kernel
theorem dJ3_checkFromToIndex_8c36e_4 : decode cJ3_checkFromToIndex_8c36e 4 = .ok (.iload_n 0, 1) := by decide +kernel
theorem dJ3_checkFromToIndex_8c36e_5 : decode cJ3_checkFromToIndex_8c36e 5 = .ok (.iload_n 1, 1) := by decide +kernel
theorem dJ3_checkFromToIndex_8c36e_6 : decode cJ3_checkFromToIndex_8c36e 6 = .ok (.if_icmp .gt 8, 3) := by decide +kernel
theorem dJ3_checkFromToIndex_8c36e_9 : decode cJ3_checkFromToIndex_8c36e 9 = .ok (.iload_n 1, 1) := by decide +kernel
theorem dJ3_checkFromToIndex_8c36e_10 : decode cJ3_checkFromToIndex_8c36e 10 = .ok (.iload_n 2, 1) := by decide +kernel
theorem dJ3_checkFromToIndex_8c36e_11 : decode cJ3_checkFromToIndex_8c36e 11 = .ok (.if_icmp .le 11, 3) := by decide +kernel
theorem dJ3_checkFromToIndex_8c36e_14 : decode cJ3_checkFromToIndex_8c36e 14 = .ok (.aload_n 3, 1) := by decide +kernel
theorem dJ3_checkFromToIndex_8c36e_15 : decode cJ3_checkFromToIndex_8c36e 15 = .ok (.iload_n 0, 1) := by decide +kernel
theorem dJ3_checkFromToIndex_8c36e_16 : decode cJ3_checkFromToIndex_8c36e 16 = .ok (.iload_n 1, 1) := by decide +kernel
theorem dJ3_checkFromToIndex_8c36e_17 : decode cJ3_checkFromToIndex_8c36e 17 = .ok (.iload_n 2, 1) := by decide +kernel
theorem dJ3_checkFromToIndex_8c36e_18 : decode cJ3_checkFromToIndex_8c36e 18 = .ok (.invokestatic 99, 3) := by decide +kernel
theorem dJ3_checkFromToIndex_8c36e_21 : decode cJ3_checkFromToIndex_8c36e 21 = .ok (.athrow, 1) := by decide +kernel
theorem dJ3_checkFromToIndex_8c36e_22 : decode cJ3_checkFromToIndex_8c36e 22 = .ok (.iload_n 0, 1) := by decide +kernel
theorem dJ3_checkFromToIndex_8c36e_23 : decode cJ3_checkFromToIndex_8c36e 23 = .ok (.ireturn, 1) := by decide +kernel
theorem dJ3_checkFromIndexSize_8c36e_0 : decode cJ3_checkFromIndexSize_8c36e 0 = .ok (.iload_n 2, 1) := by decide +kernel
theorem dJ3_checkFromIndexSize_8c36e_1 : decode cJ3_checkFromIndexSize_8c36e 1 = .ok (.iload_n 0, 1) := by decide +kernel
theorem dJ3_checkFromIndexSize_8c36e_2 : decode cJ3_checkFromIndexSize_8c36e 2 = .ok (.ior, 1) := by decide +kernel
theorem dJ3_checkFromIndexSize_8c36e_3 : decode cJ3_checkFromIndexSize_8c36e 3 = .ok (.iload_n 1, 1) := by decide +kernel
theorem dJ3_checkFromIndexSize_8c36e_4 : decode cJ3_checkFromIndexSize_8c36e 4 = .ok (.ior, 1) := by decide +kernel
theorem dJ3_checkFromIndexSize_8c36e_5 : decode cJ3_checkFromIndexSize_8c36e 5 = .ok (.ifCond .lt 10, 3) := by decide +kernel
theorem dJ3_checkFromIndexSize_8c36e_8 : decode cJ3_checkFromIndexSize_8c36e 8 = .ok (.iload_n 1, 1) := by decide +kernel
theorem dJ3_checkFromIndexSize_8c36e_9 : decode cJ3_checkFromIndexSize_8c36e 9 = .ok (.iload_n 2, 1) := by decide +kernel
theorem dJ3_checkFromIndexSize_8c36e_10 : decode cJ3_checkFromIndexSize_8c36e 10 = .ok (.iload_n 0, 1) := by decide +kernel
theorem dJ3_checkFromIndexSize_8c36e_11 : decode cJ3_checkFromIndexSize_8c36e 11 = .ok (.isub, 1) := by decide +kernel
theorem dJ3_checkFromIndexSize_8c36e_12 : decode cJ3_checkFromIndexSize_8c36e 12 = .ok (.if_icmp .le 11, 3) := by decide +kernel
theorem dJ3_checkFromIndexSize_8c36e_15 : decode cJ3_checkFromIndexSize_8c36e 15 = .ok (.aload_n 3, 1) := by decide +kernel
theorem dJ3_checkFromIndexSize_8c36e_16 : decode cJ3_checkFromIndexSize_8c36e 16 = .ok (.iload_n 0, 1) := by decide +kernel
theorem dJ3_checkFromIndexSize_8c36e_17 : decode cJ3_checkFromIndexSize_8c36e 17 = .ok (.iload_n 1, 1) := by decide +kernel
theorem dJ3_checkFromIndexSize_8c36e_18 : decode cJ3_checkFromIndexSize_8c36e 18 = .ok (.iload_n 2, 1) := by decide +kernel
theorem dJ3_checkFromIndexSize_8c36e_19 : decode cJ3_checkFromIndexSize_8c36e 19 = .ok (.invokestatic 103, 3) := by decide +kernel
theorem dJ3_checkFromIndexSize_8c36e_22 : decode cJ3_checkFromIndexSize_8c36e 22 = .ok (.athrow, 1) := by decide +kernel
theorem dJ3_checkFromIndexSize_8c36e_23 : decode cJ3_checkFromIndexSize_8c36e 23 = .ok (.iload_n 0, 1) := by decide +kernel
theorem dJ3_checkFromIndexSize_8c36e_24 : decode cJ3_checkFromIndexSize_8c36e 24 = .ok (.ireturn, 1) := by decide +kernel
end
section
/-! THE GROUND OF ALL CONTRACTS: one list of words, what every method takes as given (gx_K), the world (gx_W), contracts (gx_M, gx_MX), and a row a kind of instruction over them. -/
/-- inherited private methods, as a StringBuilder's own selection takes them -/
def gx_extra : List Cond := [.selects "java/lang/StringBuilder" yJ5_ensureCapacityInternal_d00df yJ5_ensureCapacityInternal_d00df, .selects "java/lang/StringBuilder" yJ5_newCapacity_0f7a4 yJ5_newCapacity_0f7a4]
def lw_all : List Cond := gx_extra ++ lw_tbl.filter goodWord
theorem gx_good : GoodIn lw_all lw_all := fun w h => ⟨h, (List.mem_append.mp h).elim (fun h => good_of_word (List.all_eq_true.mp (by decide +kernel : gx_extra.all goodWord = true) w h)) (fun h => good_of_word (List.mem_filter.mp h).2)⟩
theorem gx_selP {y y0 : MethodName} {C : String} {s : State} {args : Array Value} (hy : y.cls ≠ "java/lang/invoke/MethodHandle" ∧ y.cls ≠ "java/lang/invoke/VarHandle")
    (hs : (Cond.selects C y0 y0).before args s = true) (hcl : y0.cls = y.cls) (hpriv : (Cond.privateMethod y).before args s = true) (hinst : (Cond.instanceMethod y).before args s = true) :
    (Cond.selects C y y).before args s = true := by
  obtain ⟨c, r0, m0, hc, -, hn0, -, k, hk, hni⟩ := Cond.selects_spec hs
  obtain ⟨mk, methM, hnamed, hmethM, -, -⟩ := Cond.instanceMethod_spec hinst
  have hfound : s.methodFound? y.cls y.name y.desc = some mk := State.methodFound?_of_named hnamed hy
  have hcls : mk.cls = m0.cls := by
    have h1 := findClass_of_methodNamed hnamed
    have h2 := findClass_of_methodNamed hn0
    rw [hcl] at h2
    exact Option.some.inj (h1.symm.trans h2)
  have hsel : selectMethod {} s.vm c mk = .method mk := selectMethod_private hmethM (Cond.privateMethod_at hpriv mk methM hnamed hmethM)
  simp only [Cond.before, Cond.holds, Cond.value, hc, hfound, hnamed, hsel, hcls, hk]
  simp
  exact hni
theorem gx_words {s : State} {args : Array Value} (h : ∀ w ∈ lw_tbl, w.before args s = true) : ∀ w ∈ lw_all, w.before args s = true := by
  intro w hw
  rcases List.mem_append.mp hw with hw | hw
  · have hs : (Cond.selects "java/lang/StringBuilder" yJ5_isLatin1_aae02 yJ5_isLatin1_aae02).before args s = true := h _ (List.mem_append_right _ (List.mem_append_left _ (List.mem_of_getElem? (i := 210) (by decide +kernel))))
    rcases List.mem_cons.mp hw with rfl | hw
    · exact gx_selP ⟨by decide +kernel, by decide +kernel⟩ hs rfl (h _ (List.mem_append_right _ (List.mem_append_left _ (List.mem_of_getElem? (i := 173) (by decide +kernel))))) (h _ (List.mem_append_right _ (List.mem_append_left _ (List.mem_of_getElem? (i := 174) (by decide +kernel)))))
    · rcases List.mem_cons.mp hw with rfl | hw
      · exact gx_selP ⟨by decide +kernel, by decide +kernel⟩ hs rfl (h _ (List.mem_append_right _ (List.mem_append_left _ (List.mem_of_getElem? (i := 177) (by decide +kernel))))) (h _ (List.mem_append_right _ (List.mem_append_left _ (List.mem_of_getElem? (i := 178) (by decide +kernel)))))
      · cases hw
  · exact h w (List.mem_filter.mp hw).1
theorem tq_x {w : Cond} (i : Nat) (h : gx_extra[i]? = some w) : w ∈ lw_all := List.mem_append_left _ (List.mem_of_getElem? h)
theorem tq_ {w : Cond} (h : w ∈ tables_1) (hg : goodWord w = true) : w ∈ lw_all := List.mem_append_right _ (List.mem_filter.mpr ⟨List.mem_append_right _ h, hg⟩)
theorem tq_1 {w : Cond} (i : Nat) (h : tables_1_1[i]? = some w) (hg : goodWord w = true) : w ∈ lw_all := tq_ (List.mem_append_left _ (List.mem_of_getElem? h)) hg
theorem tq_2 {w : Cond} (i : Nat) (h : tables_1_2[i]? = some w) (hg : goodWord w = true) : w ∈ lw_all := tq_ (List.mem_append_right _ (List.mem_append_left _ (List.mem_of_getElem? h))) hg
theorem tq_3 {w : Cond} (i : Nat) (h : tables_1_3[i]? = some w) (hg : goodWord w = true) : w ∈ lw_all := tq_ (List.mem_append_right _ (List.mem_append_right _ (List.mem_append_left _ (List.mem_of_getElem? h)))) hg
theorem tq_4 {w : Cond} (i : Nat) (h : tables_1_4[i]? = some w) (hg : goodWord w = true) : w ∈ lw_all := tq_ (List.mem_append_right _ (List.mem_append_right _ (List.mem_append_right _ (List.mem_append_left _ (List.mem_of_getElem? h))))) hg
theorem tq_5 {w : Cond} (i : Nat) (h : tables_1_5[i]? = some w) (hg : goodWord w = true) : w ∈ lw_all := tq_ (List.mem_append_right _ (List.mem_append_right _ (List.mem_append_right _ (List.mem_append_right _ (List.mem_append_left _ (List.mem_of_getElem? h)))))) hg
theorem tq_6 {w : Cond} (i : Nat) (h : tables_1_6[i]? = some w) (hg : goodWord w = true) : w ∈ lw_all := tq_ (List.mem_append_right _ (List.mem_append_right _ (List.mem_append_right _ (List.mem_append_right _ (List.mem_append_right _ (List.mem_of_getElem? h)))))) hg
theorem tq_s {y : MethodName} (i n : Nat) (h : lw_privs[i]? = some (y, n)) : Cond.selects y.cls y y ∈ lw_all := List.mem_append_right _ (List.mem_filter.mpr ⟨List.mem_append_left _ (List.mem_map.mpr ⟨(y, n), List.mem_of_getElem? h, rfl⟩), rfl⟩)
theorem tq_u {C : String} {T : u_T} {N : Nat} (h : ∀ k, k < N → u_lay C T k ∈ lw_all) : ∀ w ∈ u_ws C T N, w ∈ lw_all := by
  intro w hw
  obtain ⟨k, hk, rfl⟩ := List.mem_map.mp hw
  exact h k (List.mem_range.mp hk)
abbrev gx_ws (y : MethodName) (b : ByteArray) (n : Nat) (r : Option FieldType) : List Cond := .code y b n r :: lw_all
theorem gx_goodws {y : MethodName} {b : ByteArray} {n : Nat} {r : Option FieldType} (h : Cond.code y b n r ∈ lw_all) : GoodIn lw_all (gx_ws y b n r) := fun w hw => (List.mem_cons.mp hw).elim (fun e => by rw [e]; exact gx_good _ h) (gx_good w)
/-- the class numbers, the array classes (byte, int, long, Object, double), old addresses (0: ArrayList's empty row, 1: the mirror of Object's rows) -/
abbrev gx_T : Type := va_G × (Nat → ClassId) × (Nat → Nat)
def gx_tys (G : gx_T) : List (ClassId × FieldType) := [(G.2.1 0, .byte), (G.2.1 1, .int), (G.2.1 2, .long), (G.2.1 3, .object "java/lang/Object"), (G.2.1 4, .double)]
def gx_nF : List (String × Nat × String × String × String × String) := [("StandTests", 102, "StandTests$Load", "out", "J", "StandTests"), ("StandTests", 106, "StandTests$Load", "x", "J", "StandTests"), ("StandTests", 109, "StandTests$Load", "y", "J", "StandTests"), ("StandTests", 112, "StandTests$Load", "grams", "J", "StandTests"), ("StandTests", 142, "StandTests$Side", "from", "LStandTests$Foot;", "StandTests"), ("StandTests", 146, "StandTests$Foot", "number", "I", "StandTests"), ("StandTests", 181, "StandTests$TrialReader", "place", "I", "StandTests"), ("StandTests", 184, "StandTests$TrialReader", "trials", "Ljava/util/ArrayList;", "StandTests"), ("StandTests", 191, "StandTests$Trial", "person", "LStandTests$Load;", "StandTests"), ("StandTests", 256, "StandTests$Trial", "drawersTold", "I", "StandTests"), ("StandTests", 99, "StandTests$Load", "drawer", "I", "StandTests"), ("StandTests$Side", 16, "StandTests$Foot", "x", "J", "StandTests"), ("StandTests$Side", 22, "StandTests$Foot", "y", "J", "StandTests")]
def gx_nM : List (String × Nat × MethodName × String) := [("StandTests", 119, yX1_placeOn, "StandTests"), ("StandTests", 170, yX4_init, "StandTests"), ("StandTests", 173, yX4_readTrials, "StandTests"), ("StandTests", 200, yX0_turn, "StandTests"), ("StandTests", 259, yX1_momentAbout, "StandTests"), ("StandTests", 274, yX2_init, "StandTests"), ("StandTests", 277, yX0_isBefore, "StandTests"), ("StandTests", 284, yX0_seesMoreRightOf, "StandTests"), ("StandTests", 31, yX1_init, "StandTests"), ("StandTests", 72, yX0_init, "StandTests"), ("StandTests$Load", 31, yX2_turnTo, "StandTests"), ("StandTests$TrialReader", 53, yX1_init, "StandTests"), ("StandTests$TrialReader", 56, yX3_init, "StandTests")]
abbrev gx_E1 : String := "java/lang/IllegalStateException"
abbrev gx_E2 : String := "java/lang/IllegalArgumentException"
abbrev gx_E3 : String := "java/lang/IndexOutOfBoundsException"
abbrev gx_up : List String := ["java/lang/RuntimeException", "java/lang/Exception"]
def gx_nW : List Cond := [.castable "StandTests$Foot" "java/lang/Object", .castable "StandTests$Load" "java/lang/Object", .castable "StandTests$Side" "java/lang/Object", .castable "StandTests$Trial" "java/lang/Object", .castable gx_E1 gx_E1, .castable gx_E2 gx_E2, .castable gx_E3 gx_E3, .declares ⟨"java/lang/Object", "getClass", "()Ljava/lang/Class;"⟩, .declares ⟨"java/lang/RuntimeException", "<init>", "(Ljava/lang/String;)V"⟩, .declares ⟨"java/lang/Exception", "<init>", "(Ljava/lang/String;)V"⟩, .declares ⟨"java/lang/Throwable", "<init>", "(Ljava/lang/String;)V"⟩]
def gx_nN : List (String × String) := [(gx_E1, gx_E2), (gx_E1, gx_E3), (gx_E2, gx_E1), (gx_E2, gx_E3), (gx_E3, gx_E1), (gx_E3, gx_E2)]
/-- what the tables say beside the good words -/
def gx_V (U : State) : Prop := (∀ q ∈ gx_nF, va_Nw (.fieldLinkNest q.1 q.2.1 q.2.2.1 q.2.2.2.1 q.2.2.2.2.1 q.2.2.2.2.2) U) ∧ (∀ q ∈ gx_nM, va_Nw (.methodLinkNest q.1 q.2.1 q.2.2.1 q.2.2.2) U) ∧ (∀ w ∈ gx_nW, va_Nw w U) ∧ (∀ q ∈ gx_nN, va_Nc q.1 q.2 U) ∧ (∀ (k : Nat) (tx : String), Cond.stringRef "StandTests" k tx ∈ tables_1 → ∃ a, vk_R "StandTests" k tx a U) ∧ va_AO "java/lang/Object" U
theorem gx_face {w : Cond} (h : (w.onTables && w.keepsFace) = true) {s U : State} (hW : s.WarmedH U.vm) (hz : va_Nw w s) : va_Nw w U := by
  simp only [Bool.and_eq_true] at h
  exact va_tabs h.1 (rfl : (s.setVm U.vm).vm = U.vm) (Cond.before_shiftedFace (State.Shifted.of_warmed hW) w h.2 hz)
theorem gx_nW_ok : ∀ w ∈ gx_nW, (w.onTables && w.keepsFace) = true := by decide +kernel
theorem gx_V.moved {s U : State} (hW : s.WarmedH U.vm) (h : gx_V s) : gx_V U :=
  ⟨fun q hq => (h.1 q hq).warmF hW, fun q hq => (h.2.1 q hq).warmM hW, fun w hw => gx_face (gx_nW_ok w hw) hW (h.2.2.1 w hw), fun q hq => va_Nc.moved hW.alike (h.2.2.2.1 q hq), fun k tx hk => (h.2.2.2.2.1 k tx hk).imp fun _ z => z.warm hW, va_AO.moved hW.alike h.2.2.2.2.2⟩
/-- what statics hold -/
def gx_Z (G : gx_T) (A : Nat → Prop) (U : State) (H : Heap) : Prop := vx_Zq Bundle.tN "UNASSIGNED_STACK" Bundle.steD A U H ∧ vx_Zq Bundle.tN "SUPPRESSED_SENTINEL" Bundle.listD A U H ∧ va_Z "java/util/ArrayList" "DEFAULTCAPACITY_EMPTY_ELEMENTDATA" "[Ljava/lang/Object;" (.ref (G.2.2 0)) A U H ∧ va_T (.object "java/lang/Object") (G.2.2 0) 0 (fun _ => .null) A U H ∧ va_Z "java/lang/String" "COMPACT_STRINGS" "Z" (.int 1) A U H ∧ va_Zq "jdk/internal/util/Preconditions" "SIOOBE_FORMATTER" "Ljava/util/function/BiFunction;" A U H
theorem gx_Z.go {G : gx_T} {A B : Nat → Prop} {u U : State} {H H1 : Heap} (h : gx_Z G A u H) (hvm : u.vm.Alike U.vm) (hq : ∀ a : Nat, a < H.size → ¬ A a → H1[a]? = H[a]?) (hAB : ∀ q, B q → A q) : gx_Z G B U H1 :=
  ⟨((h.1.moved hvm).kept hq).narrow hAB, ((h.2.1.moved hvm).kept hq).narrow hAB, ((h.2.2.1.moved hvm).kept hq).narrow hAB, ((h.2.2.2.1.moved hvm).kept hq).narrow hAB, ((h.2.2.2.2.1.moved hvm).kept hq).narrow hAB, ((h.2.2.2.2.2.moved hvm).kept hq).narrow hAB⟩
/-- all that a method takes as given, at its start -/
def gx_K (G : gx_T) (A : Nat → Prop) (s : State) : Prop := va_K G.1 vwCl (gx_tys G) s ∧ gx_V s ∧ va_Mi "[Ljava/lang/Object;" (G.2.2 1) s ∧ gx_Z G A s s.heap
theorem gx_K.go {G : gx_T} {A B : Nat → Prop} {s U : State} {H : Heap} (h : gx_K G A s) (hW : s.WarmedH U.vm) (hU : U.heap = H) (hq : ∀ a : Nat, a < s.heap.size → ¬ A a → H[a]? = s.heap[a]?) (hAB : ∀ q, B q → A q) : gx_K G B U := by
  subst hU
  exact ⟨va_K.moved hW.alike h.1, h.2.1.moved hW, va_Mi.moved hW.alike h.2.2.1, h.2.2.2.go hW.alike hq hAB⟩
/-- the world: cells ws, apart, in A; nothing else old has changed -/
def gx_W (G : gx_T) (A : Nat → Prop) (s : State) (ws : va_W) (H : Heap) (locs : List Loc) : Prop := va_P G.1 vwCl ws H ∧ va_D A ws ∧ va_S A s.heap H locs
abbrev gx_P (G : gx_T) (av : List Value) (ws : va_W) (sz : Nat) : Array Value → State → Prop := va_Pc av (fun U => U.heap.size = sz ∧ va_P G.1 vwCl ws U.heap ∧ va_D (fun _ => True) ws ∧ gx_K G (va_A ws sz) U)
abbrev gx_Q (G : gx_T) (A : Nat → Prop) (post : Option Value → va_W → Prop) : Array Value → State → Outcome → State → Prop := fun _ st oc t => (∃ (v : Option Value) (u : va_W), oc = .returned v ∧ post v u ∧ va_P G.1 vwCl u t.heap ∧ va_D A u) ∧ va_F A st t
abbrev gx_X (G : gx_T) (A : Nat → Prop) (px : String → va_W → Prop) : String → State → State → Prop := fun E st t => (∃ u : va_W, px E u ∧ va_P G.1 vwCl u t.heap ∧ va_D A u) ∧ va_F A st t
/-- a contract: returns -/
abbrev gx_M (l : Launch) (G : gx_T) (y : MethodName) (b : ByteArray) (n : Nat) (r : Option FieldType) (rm : Room) (av : List Value) (ws : va_W) (post : Option Value → va_W → Prop) : Prop := ∀ sz : Nat, Met l y (gx_ws y b n r) rm (gx_P G av ws sz) (gx_Q G (va_A ws sz) post) rm.cells rm.slots (va_A ws sz)
/-- a contract: returns or throws -/
abbrev gx_MX (l : Launch) (G : gx_T) (y : MethodName) (b : ByteArray) (n : Nat) (r : Option FieldType) (rm : Room) (av : List Value) (ws : va_W) (post : Option Value → va_W → Prop) (px : String → va_W → Prop) : Prop := ∀ sz : Nat, vx_Met l y (gx_ws y b n r) rm (gx_P G av ws sz) (gx_Q G (va_A ws sz) post) (gx_X G (va_A ws sz) px) rm.cells rm.slots (va_A ws sz)
/-- what stands throughout a body -/
def gx_C (G : gx_T) (p : Program) (s : State) (m : MethodId) (args : Array Value) (meth : Method) (c : Code) (cc : ByteArray) (nL : Nat) (own : String) (A : Nat → Prop) : Prop :=
  (p.tables.exec = Jvm.exec ∧ c.code = cc ∧ c.maxLocals = nL ∧ s.vm.findClass own = some m.cls ∧ ∀ w ∈ lw_all, w.before args s = true) ∧ meth.locks = false ∧ (∀ q, s.heap.size ≤ q → A q) ∧ gx_K G A s
abbrev gx_at (ws : va_W) (a : Nat) (e : va_E) : Prop := ∃ k : Nat, ws[k]? = some (a, e)
theorem gx_pl {L : List Nat} {f : Nat → va_E} {a : Nat} {e : va_E} (ha : a ∈ L) (hf : f a = e) : gx_at (va_pl L f) a e := by
  obtain ⟨k, hk⟩ := va_pl_get (X := []) (f := f) ha
  exact ⟨k, by rw [← hf]; exact hk⟩
/-- FIELD SITES: what the tables say of a field at a place of the pool -/
def gx_fld (own : String) (idx ci k : Nat) (C : String) (T : u_T) (N : Nat) (ref : String) : Prop := (∀ w ∈ u_ws C T N, w ∈ lw_all) ∧ vwCl[ci]? = some (C, T, N) ∧ k < N ∧ Cond.fieldLink own idx ref (T k).2.1 (T k).2.2.1 ∈ lw_all ∧ ((T k).1 = ref ∨ Cond.sameField ref (T k).1 (T k).2.1 (T k).2.2.1 ∈ lw_all)
def gx_fldN (own : String) (idx ci k : Nat) (C : String) (T : u_T) (N : Nat) (ref host : String) : Prop := (∀ w ∈ u_ws C T N, w ∈ lw_all) ∧ vwCl[ci]? = some (C, T, N) ∧ k < N ∧ (own, idx, ref, (T k).2.1, (T k).2.2.1, host) ∈ gx_nF ∧ (T k).1 = ref
def gx_cls (C : String) (T : u_T) (N : Nat) (ty : Nat → FieldType) : Prop := (∀ k, k < N → parseFieldDescriptor (T k).2.2.1 = some (ty k)) ∧ (∀ a, a < N → ∀ b, b < N → a ≠ b → (T a).2.1 ≠ (T b).2.1)
theorem gx_fs {s : State} {args : Array Value} {ref O n d : String} (hts : ∀ w ∈ lw_all, w.before args s = true) (h : O = ref ∨ Cond.sameField ref O n d ∈ lw_all) : ∀ x, s.fieldFound? O n d = some x → s.fieldFound? ref n d = some x := by
  rcases h with h | h
  · subst h
    exact fun _ z => z
  · exact fun x z => u_same (hts _ h) x z
theorem gx_frame {G : gx_T} {A : Nat → Prop} {s : State} {ws : va_W} {H : Heap} {locs : List Loc} (h : gx_W G A s ws H locs) (hA : ∀ q, s.heap.size ≤ q → A q) : ∀ q, va_A ws H.size q → A q := by
  rintro q (⟨k, e, hk⟩ | hq)
  · exact h.2.1.2 k _ hk
  · exact hA q (Nat.le_trans h.2.2.1 hq)
section GX
variable {G : gx_T} {p : Program} {l : Launch} {e : Env} {R : Room} {s : State} {m : MethodId} {args : Array Value} {below : List Frame} {meth : Method} {c : Code} {H : Heap} {locs : List Loc} {cells slots : Nat} {Q : State → Prop}
variable {cc : ByteArray} {nL pc : Nat} {own : String} {A : Nat → Prop} {ls : Array Slot} {rest : List Value} {ws : va_W} {a : Nat} {L : List Nat} {f : Nat → va_E}
theorem gx_C.x (C : gx_C G p s m args meth c cc nL own A) : p.tables.exec = Jvm.exec := C.1.1
theorem gx_C.b (C : gx_C G p s m args meth c cc nL own A) : c.code = cc := C.1.2.1
theorem gx_C.ts (C : gx_C G p s m args meth c cc nL own A) : ∀ w ∈ lw_all, w.before args s = true := C.1.2.2.2.2
theorem gx_C.hown (C : gx_C G p s m args meth c cc nL own A) : s.vm.findClass own = some m.cls := C.1.2.2.2.1
/-- getfield -/
theorem gx_get (C : gx_C G p s m args meth c cc nL own A) (hW : gx_W G A s ws H locs) {idx ci k N : Nat} {K ref : String} {T : u_T} (hf : gx_fld own idx ci k K T N ref) {fs : List Value} (ha : gx_at ws a (.inr (ci, fs))) {v : Value} (hv : fs[k]? = some v) (d : decode cc pc = .ok (.getfield idx, 3))
    (kk : W p l e R s m args below meth c H locs cells slots Q (F0 m (pc + 3) ls (v :: rest))) : W p l e R s m args below meth c H locs cells slots Q (F0 m pc ls (.ref a :: rest)) := by
  obtain ⟨q0, hq⟩ := ha
  exact va_get C.x C.b C.ts hf.1 C.hown C.2.2.2.1 hW.1 q0 hq hf.2.1 k hf.2.2.1 (C.ts _ hf.2.2.2.1) (gx_fs C.ts hf.2.2.2.2) hv d kk
theorem gx_getN (C : gx_C G p s m args meth c cc nL own A) (hW : gx_W G A s ws H locs) {idx ci k N : Nat} {K ref host : String} {T : u_T} (hf : gx_fldN own idx ci k K T N ref host) {fs : List Value} (ha : gx_at ws a (.inr (ci, fs))) {v : Value} (hv : fs[k]? = some v) (d : decode cc pc = .ok (.getfield idx, 3))
    (kk : W p l e R s m args below meth c H locs cells slots Q (F0 m (pc + 3) ls (v :: rest))) : W p l e R s m args below meth c H locs cells slots Q (F0 m pc ls (.ref a :: rest)) := by
  obtain ⟨q0, hq⟩ := ha
  refine va_getN C.x C.b C.ts hf.1 C.hown C.2.2.2.1 hW.1 q0 hq hf.2.1 k hf.2.2.1 ((C.2.2.2.2.1.1 _ hf.2.2.2.1).use rfl) (fun x z => ?_) hv d kk
  rw [← hf.2.2.2.2]
  exact z
/-- putfield, the world a list: the place k0 of the cell -/
theorem gx_putE (C : gx_C G p s m args meth c cc nL own A) (hW : gx_W G A s ws H locs) {idx ci k N : Nat} {K ref : String} {T : u_T} {ty : Nat → FieldType} (hc : gx_cls K T N ty) (hf : gx_fld own idx ci k K T N ref) (q0 : Nat) {fs : List Value} (ha : ws[q0]? = some (a, .inr (ci, fs))) {v : Value} (hfin : (T k).2.2.2 = false ∨ (meth.name = "<init>" ∧ (T k).1 = own)) (hn : narrow (ty k) v = v) (hfit : fits (ty k) v = true) (hl : k < fs.length) (d : decode cc pc = .ok (.putfield idx, 3))
    (kk : ∀ (H1 : Heap) (locs1 : List Loc), gx_W G A s (ws.set q0 (a, .inr (ci, fs.set k v))) H1 locs1 → W p l e R s m args below meth c H1 locs1 cells slots Q (F0 m (pc + 3) ls rest)) : W p l e R s m args below meth c H locs cells slots Q (F0 m pc ls (v :: .ref a :: rest)) := by
  cases hfk : (T k).2.2.2 with
  | false => exact va_put C.x C.b C.ts hf.1 ty hc.1 hc.2 C.hown C.2.2.2.1 hW.1 hW.2.1 hW.2.2 q0 ha hf.2.1 k hf.2.2.1 (C.ts _ hf.2.2.2.1) (gx_fs C.ts hf.2.2.2.2) hfk (hc.1 k hf.2.2.1) hn hfit hl d (fun H1 locs1 h1 h2 h3 => kk H1 locs1 ⟨h1, h2, h3⟩)
  | true =>
    rcases hfin with h0 | h0
    · rw [hfk] at h0
      cases h0
    · exact va_putF C.x C.b C.ts hf.1 ty hc.1 hc.2 C.hown C.2.2.2.1 hW.1 hW.2.1 hW.2.2 q0 ha hf.2.1 k hf.2.2.1 (C.ts _ hf.2.2.2.1) (gx_fs C.ts hf.2.2.2.2) hfk h0.1 h0.2 (hc.1 k hf.2.2.1) hn hfit hl d (fun H1 locs1 h1 h2 h3 => kk H1 locs1 ⟨h1, h2, h3⟩)
theorem gx_setP (hW : va_D A (va_pl L f)) (ha : a ∈ L) {e0 : va_E} {k : Nat} (hk : (va_pl L f)[k]? = some (a, e0)) (e1 : va_E) : f a = e0 ∧ (va_pl L f).set k (a, e1) = va_pl L (va_up f a e1) := by
  have h0 : f a = e0 := by
    obtain ⟨x, hx, hy⟩ := List.mem_map.mp (List.mem_of_getElem? hk)
    cases hy
    rfl
  refine ⟨h0, ?_⟩
  have h1 := va_pl_set (X := []) (e := e1) hW ha (by rw [h0]; exact hk)
  exact h1
/-- putfield, the world a pool -/
theorem gx_put (C : gx_C G p s m args meth c cc nL own A) (hW : gx_W G A s (va_pl L f) H locs) {idx ci k N : Nat} {K ref : String} {T : u_T} {ty : Nat → FieldType} (hc : gx_cls K T N ty) (hf : gx_fld own idx ci k K T N ref) {fs : List Value} (hL : a ∈ L) (ha : f a = .inr (ci, fs)) {v : Value} (hfin : (T k).2.2.2 = false ∨ (meth.name = "<init>" ∧ (T k).1 = own)) (hn : narrow (ty k) v = v) (hfit : fits (ty k) v = true) (hl : k < fs.length) (d : decode cc pc = .ok (.putfield idx, 3))
    (kk : ∀ (H1 : Heap) (locs1 : List Loc), gx_W G A s (va_pl L (va_up f a (.inr (ci, fs.set k v)))) H1 locs1 → W p l e R s m args below meth c H1 locs1 cells slots Q (F0 m (pc + 3) ls rest)) : W p l e R s m args below meth c H locs cells slots Q (F0 m pc ls (v :: .ref a :: rest)) := by
  obtain ⟨q0, hq⟩ := gx_pl hL ha
  refine gx_putE C hW hc hf q0 hq hfin hn hfit hl d (fun H1 locs1 h => kk H1 locs1 ?_)
  rw [(gx_setP hW.2.1 hL hq (.inr (ci, fs.set k v))).2] at h
  exact h
theorem gx_putN (C : gx_C G p s m args meth c cc nL own A) (hW : gx_W G A s (va_pl L f) H locs) {idx ci k N : Nat} {K ref host : String} {T : u_T} {ty : Nat → FieldType} (hc : gx_cls K T N ty) (hf : gx_fldN own idx ci k K T N ref host) {fs : List Value} (hL : a ∈ L) (ha : f a = .inr (ci, fs)) {v : Value} (hfin : (T k).2.2.2 = false) (hn : narrow (ty k) v = v) (hfit : fits (ty k) v = true) (hl : k < fs.length) (d : decode cc pc = .ok (.putfield idx, 3))
    (kk : ∀ (H1 : Heap) (locs1 : List Loc), gx_W G A s (va_pl L (va_up f a (.inr (ci, fs.set k v)))) H1 locs1 → W p l e R s m args below meth c H1 locs1 cells slots Q (F0 m (pc + 3) ls rest)) : W p l e R s m args below meth c H locs cells slots Q (F0 m pc ls (v :: .ref a :: rest)) := by
  obtain ⟨q0, hq⟩ := gx_pl hL ha
  refine va_putN C.x C.b C.ts hf.1 ty hc.1 hc.2 C.hown C.2.2.2.1 hW.1 hW.2.1 hW.2.2 q0 hq hf.2.1 k hf.2.2.1 ((C.2.2.2.2.1.1 _ hf.2.2.2.1).use rfl) (fun x z => by rw [← hf.2.2.2.2]; exact z) hfin (hc.1 k hf.2.2.1) hn hfit hl d (fun H1 locs1 h1 h2 h3 => kk H1 locs1 ?_)
  rw [(gx_setP hW.2.1 hL hq (.inr (ci, fs.set k v))).2] at h1 h2
  exact ⟨h1, h2, h3⟩
/-- new -/
theorem gx_newE (C : gx_C G p s m args meth c cc nL own A) (hW : gx_W G A s ws H locs) {idx ci N : Nat} {K : String} {T : u_T} {ty : Nat → FieldType} (hc : gx_cls K T N ty) (hin : ∀ w ∈ u_ws K T N, w ∈ lw_all) (hcl : vwCl[ci]? = some (K, T, N)) (h1 : Cond.classLink own idx K ∈ lw_all) (h2 : Cond.instantiable K N ∈ lw_all) (h3 : Cond.initialized K ∈ lw_all) {fs : List Value} (hfs : ∀ j, j < N → defaultValue (ty j) = vp_V fs j) (hcells : cells + 1 ≤ R.cells) (hslots : slots + N ≤ R.slots) (d : decode cc pc = .ok (.new idx, 3))
    (kk : ∀ (q : Nat) (H1 : Heap), gx_W G A s (ws ++ [(q, .inr (ci, fs))]) H1 locs → W p l e R s m args below meth c H1 locs (cells + 1) (slots + N) Q (F0 m (pc + 3) ls (.ref q :: rest))) : W p l e R s m args below meth c H locs cells slots Q (F0 m pc ls rest) :=
  va_new C.x C.b C.ts hin ty hc.1 C.hown (C.ts _ h1) (C.ts _ h2) (C.ts _ h3) C.2.2.2.1 hW.1 hW.2.1 hW.2.2 C.2.2.1 hcl hfs hcells hslots d (fun q H1 k1 k2 k3 => kk q H1 ⟨k1, k2, k3⟩)
theorem gx_pushP {q : Nat} {e1 : va_E} {H1 : Heap} {locs1 : List Loc} (h : gx_W G A s (va_pl L f ++ [(q, e1)]) H1 locs1) : q ∉ L ∧ gx_W G A s (va_pl (L ++ [q]) (va_up f q e1)) H1 locs1 := by
  have hq : q ∉ L := va_pl_fresh2 (X := []) h.2.1
  refine ⟨hq, ?_⟩
  rw [va_pl_push hq] at h
  exact h
theorem gx_new (C : gx_C G p s m args meth c cc nL own A) (hW : gx_W G A s (va_pl L f) H locs) {idx ci N : Nat} {K : String} {T : u_T} {ty : Nat → FieldType} (hc : gx_cls K T N ty) (hin : ∀ w ∈ u_ws K T N, w ∈ lw_all) (hcl : vwCl[ci]? = some (K, T, N)) (h1 : Cond.classLink own idx K ∈ lw_all) (h2 : Cond.instantiable K N ∈ lw_all) (h3 : Cond.initialized K ∈ lw_all) {fs : List Value} (hfs : ∀ j, j < N → defaultValue (ty j) = vp_V fs j) (hcells : cells + 1 ≤ R.cells) (hslots : slots + N ≤ R.slots) (d : decode cc pc = .ok (.new idx, 3))
    (kk : ∀ (q : Nat) (H1 : Heap), q ∉ L → gx_W G A s (va_pl (L ++ [q]) (va_up f q (.inr (ci, fs)))) H1 locs → W p l e R s m args below meth c H1 locs (cells + 1) (slots + N) Q (F0 m (pc + 3) ls (.ref q :: rest))) : W p l e R s m args below meth c H locs cells slots Q (F0 m pc ls rest) :=
  gx_newE C hW hc hin hcl h1 h2 h3 hfs hcells hslots d (fun q H1 h => kk q H1 (gx_pushP h).1 (gx_pushP h).2)
end GX
end
section
/-! CALLS, RETURNS, ENTRIES over the ground: the callee's world is a part of ours, what comes back stands beside the rest. -/
section GCA
variable {G : gx_T} {p : Program} {l : Launch} {e : Env} {R : Room} {s : State} {m : MethodId} {args : Array Value} {below : List Frame} {meth : Method} {c : Code} {H : Heap} {locs : List Loc} {cells slots : Nat} {Q : State → Prop}
variable {cc : ByteArray} {nL pc : Nat} {own : String} {A : Nat → Prop} {ls : Array Slot} {rest st0 : List Value} {ws wr wc : va_W} {o : Nat} {L : List Nat} {f : Nat → va_E}
variable {y : MethodName} {b : ByteArray} {n k idx : Nat} {r : Option FieldType} {rm : Room} {As : List Value} {post : Option Value → va_W → Prop} {px : String → va_W → Prop}
theorem gx_W.cut (h : gx_W G A s (wr ++ wc) H locs) : gx_W G A s wc H locs := by
  have hg : ∀ (k : Nat) (q : Nat × va_E), wc[k]? = some q → (wr ++ wc)[wr.length + k]? = some q := fun k q hk => by
    rw [List.getElem?_append_right (Nat.le_add_right _ _), Nat.add_sub_cancel_left]
    exact hk
  refine ⟨fun k q hk => h.1 _ q (hg k q hk), ⟨fun i j p q hi hj e => ?_, fun k q hk => h.2.1.2 _ q (hg k q hk)⟩, h.2.2⟩
  have := h.2.1.1 _ _ p q (hg i p hi) (hg j q hj) e
  omega
theorem gx_W.cutl (h : gx_W G A s (wc ++ wr) H locs) : gx_W G A s wc H locs := by
  have hg : ∀ (k : Nat) (q : Nat × va_E), wc[k]? = some q → (wc ++ wr)[k]? = some q := fun k q hk => by
    rw [List.getElem?_append_left (List.getElem?_eq_some_iff.mp hk).1]
    exact hk
  exact ⟨fun k q hk => h.1 _ q (hg k q hk), ⟨fun i j p q hi hj e => h.2.1.1 i j p q (hg i p hi) (hg j q hj) e, fun k q hk => h.2.1.2 _ q (hg k q hk)⟩, h.2.2⟩
theorem gx_pre (C : gx_C G p s m args meth c cc nL own A) (hW : gx_W G A s ws H locs) (av : List Value) : FrameBlind (gx_P G av ws H.size) ∧ ∀ U : State, U.heap = H → s.WarmedH U.vm → gx_P G av ws H.size av.toArray U := by
  refine ⟨fun a U g mk q => ?_, fun U hU hWm => ?_⟩
  · obtain ⟨q0, q1, q2, q3, q4⟩ := q
    exact ⟨q0, q1, q2, q3, q4.go (State.WarmedH.refl U) rfl (fun _ _ _ => rfl) (fun _ h => h)⟩
  · exact ⟨rfl, by rw [hU], by rw [hU]; exact hW.1, hW.2.1.weaken (fun _ _ _ _ => trivial), C.2.2.2.go hWm hU hW.2.2.2.1 (gx_frame hW C.2.2.1)⟩
theorem gx_join {u : va_W} {H1 : Heap} {locs1 : List Loc} (hW : gx_W G A s (wr ++ wc) H locs) (hA : ∀ q, s.heap.size ≤ q → A q) (hP1 : va_P G.1 vwCl u H1) (hD1 : va_D (va_A wc H.size) u) (hk : ∀ q : Nat, q < H.size → ¬ va_A wc H.size q → H1[q]? = H[q]?) (hS : va_S A s.heap H1 locs1) : gx_W G A s (wr ++ u) H1 locs1 := by
  have hl : ∀ (k : Nat) (q : Nat × va_E), wr[k]? = some q → (wr ++ wc)[k]? = some q := fun k q hk => by
    rw [List.getElem?_append_left (List.getElem?_eq_some_iff.mp hk).1]
    exact hk
  have hg : ∀ (k : Nat) (q : Nat × va_E), wc[k]? = some q → (wr ++ wc)[wr.length + k]? = some q := fun k q hk => by
    rw [List.getElem?_append_right (Nat.le_add_right _ _), Nat.add_sub_cancel_left]
    exact hk
  have hlt : ∀ (k : Nat) (q : Nat × va_E), wr[k]? = some q → q.1 < H.size := fun k q hk => (hW.1 k q (hl k q hk)).lt
  have hno : ∀ (k : Nat) (q : Nat × va_E), wr[k]? = some q → ¬ va_A wc H.size q.1 := by
    rintro k q hq (⟨j, e9, hj⟩ | hz)
    · have h1 := hW.2.1.1 _ _ _ _ (hl k q hq) (hg j _ hj) rfl
      have h2 := (List.getElem?_eq_some_iff.mp hq).1
      omega
    · exact Nat.not_le.mpr (hlt k q hq) hz
  have hF : ∀ q, va_A wc H.size q → A q := gx_frame hW.cut hA
  refine ⟨fun k q hkq => ?_, ⟨fun i j p q hi hj e9 => ?_, fun k q hkq => ?_⟩, hS⟩
  · by_cases h : k < wr.length
    · rw [List.getElem?_append_left h] at hkq
      exact (hW.1 k q (hl k q hkq)).kept (hk _ (hlt k q hkq) (hno k q hkq))
    · rw [List.getElem?_append_right (Nat.not_lt.mp h)] at hkq
      exact hP1 _ q hkq
  · by_cases h1 : i < wr.length <;> by_cases h2 : j < wr.length
    · rw [List.getElem?_append_left h1] at hi
      rw [List.getElem?_append_left h2] at hj
      exact hW.2.1.1 i j p q (hl i p hi) (hl j q hj) e9
    · rw [List.getElem?_append_left h1] at hi
      rw [List.getElem?_append_right (Nat.not_lt.mp h2)] at hj
      exact absurd (by rw [e9]; exact hD1.2 _ q hj) (hno i p hi)
    · rw [List.getElem?_append_right (Nat.not_lt.mp h1)] at hi
      rw [List.getElem?_append_left h2] at hj
      exact absurd (by rw [← e9]; exact hD1.2 _ p hi) (hno j q hj)
    · rw [List.getElem?_append_right (Nat.not_lt.mp h1)] at hi
      rw [List.getElem?_append_right (Nat.not_lt.mp h2)] at hj
      have := hD1.1 _ _ p q hi hj e9
      omega
  · by_cases h : k < wr.length
    · rw [List.getElem?_append_left h] at hkq
      exact hW.2.1.2 k q (hl k q hkq)
    · rw [List.getElem?_append_right (Nat.not_lt.mp h)] at hkq
      exact hF _ (hD1.2 _ q hkq)
/-- what a call gives, from its run -/
theorem gx_ret {mc ms : Nat} {a : Array Value} (C : gx_C G p s m args meth c cc nL own A) (hW : gx_W G A s (wr ++ wc) H locs) (hr : va_Run p l e R s m args below meth c H locs cells slots mc ms (F0 m pc ls st0) rest (gx_Q G (va_A wc H.size) post a) (va_A wc H.size))
    (kk : ∀ (v : Option Value) (u : va_W) (H1 : Heap) (locs1 : List Loc), post v u → gx_W G A s (wr ++ u) H1 locs1 → W p l e R s m args below meth c H1 locs1 (cells + mc) (slots + ms) Q (F0 m (pc + 3) ls (v.toList ++ rest))) : W p l e R s m args below meth c H locs cells slots Q (F0 m pc ls st0) := by
  intro T hT X
  obtain ⟨v, st₀, t, T', L', h0, X', hL, e1, e2, ⟨⟨v', u, hv, hp, hP1, hD1⟩, hF⟩, st⟩ := hr T hT X
  cases hv
  have hf := gx_frame hW.cut C.2.2.1
  obtain ⟨k1, k2, k3⟩ := vx_keep h0 e1 hW.2.2 (fun q _ h => hf q h) hf hL hF
  obtain ⟨t2, a1, b1⟩ := kk v u T'.heap (locs ++ L') hp (gx_join hW C.2.2.1 (by rw [e1]; exact hP1) hD1 k2 k3) T' rfl X'
  exact ⟨t2, st t2 a1, b1⟩
theorem gx_retX {mc ms : Nat} {a : Array Value} (C : gx_C G p s m args meth c cc nL own A) (hW : gx_W G A s (wr ++ wc) H locs) (hr : vx_Run p l e R s m args below meth c H locs cells slots mc ms (F0 m pc ls st0) rest (gx_Q G (va_A wc H.size) post a) (gx_X G (va_A wc H.size) px) (va_A wc H.size))
    (kx : ∀ (E : String) (ce : Cell) (q9 : Addr) (u : va_W) (H1 : Heap) (locs1 : List Loc), px E u → gx_W G A s (wr ++ u) H1 locs1 → H1[q9]? = some ce → ce.vm = .none → s.vm.findClass E = some ce.cls → vx_W p l e R s m args below meth c H1 locs1 (cells + mc) (slots + ms) Q (F0 m pc ls rest) q9)
    (kk : ∀ (v : Option Value) (u : va_W) (H1 : Heap) (locs1 : List Loc), post v u → gx_W G A s (wr ++ u) H1 locs1 → W p l e R s m args below meth c H1 locs1 (cells + mc) (slots + ms) Q (F0 m (pc + 3) ls (v.toList ++ rest))) : W p l e R s m args below meth c H locs cells slots Q (F0 m pc ls st0) := by
  intro T hT X
  have hf := gx_frame hW.cut C.2.2.1
  rcases hr T hT X with ⟨v, st₀, t, T', L', h0, X', hL, e1, e2, ⟨⟨v', u, hv, hp, hP1, hD1⟩, hF⟩, st⟩ | ⟨q, st₀, t, T', L', E, ce, h0, X', hL, e1, e2, ⟨⟨u, hp, hP1, hD1⟩, hF⟩, hce, hcv, hcl, st⟩
  · cases hv
    obtain ⟨k1, k2, k3⟩ := vx_keep h0 e1 hW.2.2 (fun q _ h => hf q h) hf hL hF
    obtain ⟨t2, a1, b1⟩ := kk v u T'.heap (locs ++ L') hp (gx_join hW C.2.2.1 (by rw [e1]; exact hP1) hD1 k2 k3) T' rfl X'
    exact ⟨t2, st t2 a1, b1⟩
  · obtain ⟨k1, k2, k3⟩ := vx_keep h0 e1 hW.2.2 (fun q _ h => hf q h) hf hL hF
    obtain ⟨t2, a1, b1⟩ := kx E ce q u T'.heap (locs ++ L') hp (gx_join hW C.2.2.1 (by rw [e1]; exact hP1) hD1 k2 k3) (by rw [e1]; exact hce) hcv hcl T' rfl X'
    exact ⟨t2, st.trans a1, b1⟩
/-- CALL SITES: what the tables say -/
def gx_desc (y : MethodName) (k : Nat) : Prop := y.cls ≠ "java/lang/invoke/MethodHandle" ∧ y.cls ≠ "java/lang/invoke/VarHandle" ∧ (parseMethodDescriptor y.desc).map (fun d => d.parameters.length) = some k
def gx_sV (own : String) (idx : Nat) (y : MethodName) (b : ByteArray) (n : Nat) (r : Option FieldType) (k : Nat) : Prop := (Cond.methodLink own idx y ∈ lw_all ∧ Cond.instanceMethod y ∈ lw_all ∧ Cond.selects y.cls y y ∈ lw_all ∧ Cond.initialized y.cls ∈ lw_all ∧ Cond.code y b n r ∈ lw_all) ∧ gx_desc y k
def gx_sVK (own : String) (idx : Nat) (K : String) (y : MethodName) (b : ByteArray) (n : Nat) (r : Option FieldType) (k : Nat) : Prop := (Cond.methodLink own idx y ∈ lw_all ∧ Cond.instanceMethod y ∈ lw_all ∧ Cond.selects K y y ∈ lw_all ∧ Cond.initialized y.cls ∈ lw_all ∧ Cond.code y b n r ∈ lw_all) ∧ gx_desc y k
def gx_sS (own : String) (idx : Nat) (y : MethodName) (b : ByteArray) (n : Nat) (r : Option FieldType) (k : Nat) : Prop := (Cond.methodLink own idx y ∈ lw_all ∧ Cond.static y ∈ lw_all ∧ Cond.initialized y.cls ∈ lw_all ∧ Cond.code y b n r ∈ lw_all) ∧ gx_desc y k
def gx_sI (own : String) (idx : Nat) (y : MethodName) (b : ByteArray) (n : Nat) (k : Nat) : Prop := (Cond.methodLink own idx y ∈ lw_all ∧ Cond.instanceMethod y ∈ lw_all ∧ Cond.initialized y.cls ∈ lw_all ∧ Cond.code y b n none ∈ lw_all) ∧ y.name = "<init>" ∧ gx_desc y k
def gx_sVN (own : String) (idx : Nat) (y : MethodName) (host : String) (b : ByteArray) (n : Nat) (r : Option FieldType) (k : Nat) : Prop := ((own, idx, y, host) ∈ gx_nM ∧ Cond.instanceMethod y ∈ lw_all ∧ Cond.selects y.cls y y ∈ lw_all ∧ Cond.initialized y.cls ∈ lw_all ∧ Cond.code y b n r ∈ lw_all) ∧ gx_desc y k
def gx_sIN (own : String) (idx : Nat) (y : MethodName) (host : String) (b : ByteArray) (n : Nat) (k : Nat) : Prop := ((own, idx, y, host) ∈ gx_nM ∧ Cond.instanceMethod y ∈ lw_all ∧ Cond.initialized y.cls ∈ lw_all ∧ Cond.code y b n none ∈ lw_all) ∧ y.name = "<init>" ∧ gx_desc y k
def gx_sU (own : String) (idx : Nat) (C owner : String) (x y : MethodName) (b : ByteArray) (n : Nat) (r : Option FieldType) (k : Nat) : Prop := (Cond.methodLink own idx x ∈ lw_all ∧ Cond.sameMethod x.cls owner x.name x.desc ∈ lw_all ∧ Cond.selects C x y ∈ lw_all ∧ Cond.instanceMethod y ∈ lw_all ∧ Cond.initialized y.cls ∈ lw_all ∧ Cond.code y b n r ∈ lw_all) ∧ y = ⟨owner, x.name, x.desc⟩ ∧ owner ≠ "java/lang/invoke/MethodHandle" ∧ owner ≠ "java/lang/invoke/VarHandle" ∧ (parseMethodDescriptor x.desc).map (fun d => d.parameters.length) = some k
def gx_sSU (own : String) (idx : Nat) (y : MethodName) (b : ByteArray) (n : Nat) (r : Option FieldType) (k : Nat) : Prop := (Cond.methodLink own idx y ∈ lw_all ∧ Cond.sameMethod y.cls y.cls y.name y.desc ∈ lw_all ∧ Cond.superclass own y.cls ∈ lw_all ∧ Cond.instanceMethod y ∈ lw_all ∧ Cond.initialized y.cls ∈ lw_all ∧ Cond.code y b n r ∈ lw_all) ∧ y.name ≠ "<init>" ∧ (parseMethodDescriptor y.desc).map (fun d => d.parameters.length) = some k
theorem gx_goodV (hs : gx_sV own idx y b n r k) : GoodIn lw_all (wsV own idx y.cls y (gx_ws y b n r)) := goodIn_app (fun w hw => gx_good w (by
  obtain ⟨⟨h1, h2, h3, h4, h5⟩, -⟩ := hs
  simp only [List.mem_cons, List.not_mem_nil, or_false] at hw
  rcases hw with rfl | rfl | rfl | rfl <;> assumption)) (gx_goodws hs.1.2.2.2.2)
theorem gx_goodS (hs : gx_sS own idx y b n r k) : GoodIn lw_all (va_wsS own idx y (gx_ws y b n r)) := goodIn_app (fun w hw => gx_good w (by
  obtain ⟨⟨h1, h2, h3, h4⟩, -⟩ := hs
  simp only [List.mem_cons, List.not_mem_nil, or_false] at hw
  rcases hw with rfl | rfl | rfl <;> assumption)) (gx_goodws hs.1.2.2.2)
theorem gx_goodU {C owner : String} {x : MethodName} (hs : gx_sU own idx C owner x y b n r k) : GoodIn lw_all (va_wsU own idx C owner x y (gx_ws y b n r)) := goodIn_app (fun w hw => gx_good w (by
  obtain ⟨⟨h1, h2, h3, h4, h5, h6⟩, -⟩ := hs
  simp only [List.mem_cons, List.not_mem_nil, or_false] at hw
  rcases hw with rfl | rfl | rfl | rfl | rfl <;> assumption)) (gx_goodws hs.1.2.2.2.2.2)
theorem gx_goodSU (hs : gx_sSU own idx y b n r k) : GoodIn lw_all (va_wsSU own idx y (gx_ws y b n r)) := goodIn_app (fun w hw => gx_good w (by
  obtain ⟨⟨h1, h2, h3, h4, h5, h6⟩, -⟩ := hs
  simp only [List.mem_cons, List.not_mem_nil, or_false] at hw
  rcases hw with rfl | rfl | rfl | rfl | rfl <;> assumption)) (gx_goodws hs.1.2.2.2.2.2)
theorem gx_recv (C : gx_C G p s m args meth c cc nL own A) (hW : gx_W G A s ws H locs) {ci N : Nat} {K : String} {T : u_T} {fs : List Value} (ho : gx_at ws o (.inr (ci, fs))) (hc : vwCl[ci]? = some (K, T, N)) : ∃ cell : Cell, H[o]? = some cell ∧ cell.vm.isStatics = false ∧ s.vm.findClass K = some cell.cls := by
  obtain ⟨q0, hq⟩ := ho
  exact va_recv C.2.2.2.1 hW.1 hc hq
abbrev gx_room (rm R : Room) (n : Nat) : Prop := rm.frames + 1 ≤ R.frames ∧ 8 + (n + 11) + rm.locals ≤ R.locals
/-- invokevirtual of the object's own class -/
theorem gx_callV (C : gx_C G p s m args meth c cc nL own A) (hW : gx_W G A s (wr ++ wc) H locs) (hs : gx_sV own idx y b n r k) (hM : gx_M l G y b n r rm (.ref o :: As) wc post) {ci N : Nat} {T : u_T} {fs : List Value} (ho : gx_at wc o (.inr (ci, fs))) (hc : vwCl[ci]? = some (y.cls, T, N)) (hn : As.length = k) (hR : gx_room rm R n) (hsize : ls.size = nL) (hst : st0 = As.reverse ++ .ref o :: rest) (hrest : (rest.map fun v => v.category).sum ≤ 8) (d : decode cc pc = .ok (.invokevirtual idx, 3)) (hf : cells + rm.cells ≤ R.cells ∧ slots + rm.slots ≤ R.slots)
    (kk : ∀ (v : Option Value) (u : va_W) (H1 : Heap) (locs1 : List Loc), post v u → gx_W G A s (wr ++ u) H1 locs1 → W p l e R s m args below meth c H1 locs1 (cells + rm.cells) (slots + rm.slots) Q (F0 m (pc + 3) ls (v.toList ++ rest))) : W p l e R s m args below meth c H locs cells slots Q (F0 m pc ls st0) :=
  gx_ret C hW (va_runV (As := As) (rest := rest) C.1 (hM H.size) (cwV k C.ts (gx_goodV hs) rfl rfl rfl ⟨rfl, hs.2.1, hs.2.2.1, hs.2.2.2⟩ hR) ⟨(gx_pre C hW.cut _).1, gx_recv C hW.cut ho hc, (gx_pre C hW.cut _).2⟩ rfl hn hsize hst (lv_room hrest) d hf) kk
theorem gx_callVK {K : String} (C : gx_C G p s m args meth c cc nL own A) (hW : gx_W G A s (wr ++ wc) H locs) (hs : gx_sVK own idx K y b n r k) (hM : gx_M l G y b n r rm (.ref o :: As) wc post) {ci N : Nat} {T : u_T} {fs : List Value} (ho : gx_at wc o (.inr (ci, fs))) (hc : vwCl[ci]? = some (K, T, N)) (hn : As.length = k) (hR : gx_room rm R n) (hsize : ls.size = nL) (hst : st0 = As.reverse ++ .ref o :: rest) (hrest : (rest.map fun v => v.category).sum ≤ 8) (d : decode cc pc = .ok (.invokevirtual idx, 3)) (hf : cells + rm.cells ≤ R.cells ∧ slots + rm.slots ≤ R.slots)
    (kk : ∀ (v : Option Value) (u : va_W) (H1 : Heap) (locs1 : List Loc), post v u → gx_W G A s (wr ++ u) H1 locs1 → W p l e R s m args below meth c H1 locs1 (cells + rm.cells) (slots + rm.slots) Q (F0 m (pc + 3) ls (v.toList ++ rest))) : W p l e R s m args below meth c H locs cells slots Q (F0 m pc ls st0) :=
  gx_ret C hW (va_runV (As := As) (rest := rest) C.1 (hM H.size) ⟨callB_of k C.ts (gx_goodws hs.1.2.2.2.2) rfl rfl rfl (C.ts _ hs.1.2.2.2.1) (C.ts _ hs.1.1) hs.2 hR, C.ts _ hs.1.2.1, C.ts _ hs.1.2.2.1⟩ ⟨(gx_pre C hW.cut _).1, gx_recv C hW.cut ho hc, (gx_pre C hW.cut _).2⟩ rfl hn hsize hst (lv_room hrest) d hf) kk
theorem gx_callVN {host : String} (C : gx_C G p s m args meth c cc nL own A) (hW : gx_W G A s (wr ++ wc) H locs) (hs : gx_sVN own idx y host b n r k) (hM : gx_M l G y b n r rm (.ref o :: As) wc post) {ci N : Nat} {T : u_T} {fs : List Value} (ho : gx_at wc o (.inr (ci, fs))) (hc : vwCl[ci]? = some (y.cls, T, N)) (hn : As.length = k) (hR : gx_room rm R n) (hsize : ls.size = nL) (hst : st0 = As.reverse ++ .ref o :: rest) (hrest : (rest.map fun v => v.category).sum ≤ 8) (d : decode cc pc = .ok (.invokevirtual idx, 3)) (hf : cells + rm.cells ≤ R.cells ∧ slots + rm.slots ≤ R.slots)
    (kk : ∀ (v : Option Value) (u : va_W) (H1 : Heap) (locs1 : List Loc), post v u → gx_W G A s (wr ++ u) H1 locs1 → W p l e R s m args below meth c H1 locs1 (cells + rm.cells) (slots + rm.slots) Q (F0 m (pc + 3) ls (v.toList ++ rest))) : W p l e R s m args below meth c H locs cells slots Q (F0 m pc ls st0) :=
  gx_ret C hW (va_runVN (As := As) (rest := rest) C.1 (hM H.size) ⟨va_cnB k C.ts (gx_goodws hs.1.2.2.2.2) rfl rfl rfl (C.2.2.2.2.1.2.1 _ hs.1.1) (C.ts _ hs.1.2.2.2.1) hs.2 hR, C.ts _ hs.1.2.1, C.ts _ hs.1.2.2.1⟩ ⟨(gx_pre C hW.cut _).1, gx_recv C hW.cut ho hc, (gx_pre C hW.cut _).2⟩ rfl hn hsize hst (lv_room hrest) d hf) kk
theorem gx_callU {K owner : String} {x : MethodName} (C : gx_C G p s m args meth c cc nL own A) (hW : gx_W G A s (wr ++ wc) H locs) (hs : gx_sU own idx K owner x y b n r k) (hM : gx_M l G y b n r rm (.ref o :: As) wc post) {ci N : Nat} {T : u_T} {fs : List Value} (ho : gx_at wc o (.inr (ci, fs))) (hc : vwCl[ci]? = some (K, T, N)) (hn : As.length = k) (hR : gx_room rm R n) (hsize : ls.size = nL) (hst : st0 = As.reverse ++ .ref o :: rest) (hrest : (rest.map fun v => v.category).sum ≤ 8) (d : decode cc pc = .ok (.invokevirtual idx, 3)) (hf : cells + rm.cells ≤ R.cells ∧ slots + rm.slots ≤ R.slots)
    (kk : ∀ (v : Option Value) (u : va_W) (H1 : Heap) (locs1 : List Loc), post v u → gx_W G A s (wr ++ u) H1 locs1 → W p l e R s m args below meth c H1 locs1 (cells + rm.cells) (slots + rm.slots) Q (F0 m (pc + 3) ls (v.toList ++ rest))) : W p l e R s m args below meth c H locs cells slots Q (F0 m pc ls st0) :=
  gx_ret C hW (va_runU (As := As) (rest := rest) C.1 (hM H.size) (va_cwU k C.ts (gx_goodU hs) rfl rfl rfl hs.2.1 hs.2.2 hR) ⟨(gx_pre C hW.cut _).1, gx_recv C hW.cut ho hc, (gx_pre C hW.cut _).2⟩ rfl hn hsize hst (lv_room hrest) d hf) kk
/-- invokespecial of a superclass's method -/
theorem gx_callSU {K : String} (C : gx_C G p s m args meth c cc nL own A) (hW : gx_W G A s (wr ++ wc) H locs) (hs : gx_sSU own idx y b n r k) (hM : gx_M l G y b n r rm (.ref o :: As) wc post) {ci N : Nat} {T : u_T} {fs : List Value} (ho : gx_at wc o (.inr (ci, fs))) (hc : vwCl[ci]? = some (K, T, N)) (hn : As.length = k) (hR : gx_room rm R n) (hsize : ls.size = nL) (hst : st0 = As.reverse ++ .ref o :: rest) (hrest : (rest.map fun v => v.category).sum ≤ 8) (d : decode cc pc = .ok (.invokespecial idx, 3)) (hf : cells + rm.cells ≤ R.cells ∧ slots + rm.slots ≤ R.slots)
    (kk : ∀ (v : Option Value) (u : va_W) (H1 : Heap) (locs1 : List Loc), post v u → gx_W G A s (wr ++ u) H1 locs1 → W p l e R s m args below meth c H1 locs1 (cells + rm.cells) (slots + rm.slots) Q (F0 m (pc + 3) ls (v.toList ++ rest))) : W p l e R s m args below meth c H locs cells slots Q (F0 m pc ls st0) :=
  gx_ret C hW (va_runSU (As := As) (rest := rest) (C.2.2.2.1.1 ci _ hc).2 C.1 (hM H.size) (va_cwSU k C.ts (gx_goodSU hs) rfl rfl rfl hs.2 hR) ⟨(gx_pre C hW.cut _).1, gx_recv C hW.cut ho hc, (gx_pre C hW.cut _).2⟩ rfl hn hsize hst (lv_room hrest) d hf) kk
/-- invokestatic -/
theorem gx_callS (C : gx_C G p s m args meth c cc nL own A) (hW : gx_W G A s (wr ++ wc) H locs) (hs : gx_sS own idx y b n r k) (hM : gx_M l G y b n r rm As wc post) (hn : As.length = k) (hR : gx_room rm R n) (hsize : ls.size = nL) (hst : st0 = As.reverse ++ rest) (hrest : (rest.map fun v => v.category).sum ≤ 8) (d : decode cc pc = .ok (.invokestatic idx, 3)) (hf : cells + rm.cells ≤ R.cells ∧ slots + rm.slots ≤ R.slots)
    (kk : ∀ (v : Option Value) (u : va_W) (H1 : Heap) (locs1 : List Loc), post v u → gx_W G A s (wr ++ u) H1 locs1 → W p l e R s m args below meth c H1 locs1 (cells + rm.cells) (slots + rm.slots) Q (F0 m (pc + 3) ls (v.toList ++ rest))) : W p l e R s m args below meth c H locs cells slots Q (F0 m pc ls st0) :=
  gx_ret C hW (va_runS (As := As) (rest := rest) C.1 (hM H.size) (va_cwS k C.ts (gx_goodS hs) rfl rfl rfl hs.2 hR) (gx_pre C hW.cut _) rfl hn hsize hst (lv_room hrest) d hf) kk
/-- invokespecial <init> -/
theorem gx_callI (C : gx_C G p s m args meth c cc nL own A) (hW : gx_W G A s (wr ++ wc) H locs) (hs : gx_sI own idx y b n k) (hM : gx_M l G y b n none rm (.ref o :: As) wc post) (hn : As.length = k) (hR : gx_room rm R n) (hsize : ls.size = nL) (hst : st0 = As.reverse ++ .ref o :: rest) (hrest : (rest.map fun v => v.category).sum ≤ 8) (d : decode cc pc = .ok (.invokespecial idx, 3)) (hf : cells + rm.cells ≤ R.cells ∧ slots + rm.slots ≤ R.slots)
    (kk : ∀ (v : Option Value) (u : va_W) (H1 : Heap) (locs1 : List Loc), post v u → gx_W G A s (wr ++ u) H1 locs1 → W p l e R s m args below meth c H1 locs1 (cells + rm.cells) (slots + rm.slots) Q (F0 m (pc + 3) ls (v.toList ++ rest))) : W p l e R s m args below meth c H locs cells slots Q (F0 m pc ls st0) :=
  gx_ret C hW (va_runI (As := As) (rest := rest) C.1 (hM H.size) (cwI k C.ts (gx_goodws hs.1.2.2.2) rfl rfl rfl (C.ts _ hs.1.2.2.1) (C.ts _ hs.1.1) (C.ts _ hs.1.2.1) hs.2.1 hs.2.2 hR) (gx_pre C hW.cut _) rfl hn hsize hst (lv_room hrest) d hf) kk
theorem gx_callIN {host : String} (C : gx_C G p s m args meth c cc nL own A) (hW : gx_W G A s (wr ++ wc) H locs) (hs : gx_sIN own idx y host b n k) (hM : gx_M l G y b n none rm (.ref o :: As) wc post) (hn : As.length = k) (hR : gx_room rm R n) (hsize : ls.size = nL) (hst : st0 = As.reverse ++ .ref o :: rest) (hrest : (rest.map fun v => v.category).sum ≤ 8) (d : decode cc pc = .ok (.invokespecial idx, 3)) (hf : cells + rm.cells ≤ R.cells ∧ slots + rm.slots ≤ R.slots)
    (kk : ∀ (v : Option Value) (u : va_W) (H1 : Heap) (locs1 : List Loc), post v u → gx_W G A s (wr ++ u) H1 locs1 → W p l e R s m args below meth c H1 locs1 (cells + rm.cells) (slots + rm.slots) Q (F0 m (pc + 3) ls (v.toList ++ rest))) : W p l e R s m args below meth c H locs cells slots Q (F0 m pc ls st0) :=
  gx_ret C hW (va_runIN (As := As) (rest := rest) C.1 (hM H.size) ⟨va_cnB k C.ts (gx_goodws hs.1.2.2.2) rfl rfl rfl (C.2.2.2.2.1.2.1 _ hs.1.1) (C.ts _ hs.1.2.2.1) hs.2.2 hR, hs.2.1, C.ts _ hs.1.2.1⟩ (gx_pre C hW.cut _) rfl hn hsize hst (lv_room hrest) d hf) kk
/-- calls that may throw -/
theorem gx_callVX (C : gx_C G p s m args meth c cc nL own A) (hW : gx_W G A s (wr ++ wc) H locs) (hs : gx_sV own idx y b n r k) (hM : gx_MX l G y b n r rm (.ref o :: As) wc post px) {ci N : Nat} {T : u_T} {fs : List Value} (ho : gx_at wc o (.inr (ci, fs))) (hc : vwCl[ci]? = some (y.cls, T, N)) (hn : As.length = k) (hR : gx_room rm R n) (hsize : ls.size = nL) (hst : st0 = As.reverse ++ .ref o :: rest) (hrest : (rest.map fun v => v.category).sum ≤ 8) (d : decode cc pc = .ok (.invokevirtual idx, 3)) (hf : cells + rm.cells ≤ R.cells ∧ slots + rm.slots ≤ R.slots)
    (kx : ∀ (E : String) (ce : Cell) (q9 : Addr) (u : va_W) (H1 : Heap) (locs1 : List Loc), px E u → gx_W G A s (wr ++ u) H1 locs1 → H1[q9]? = some ce → ce.vm = .none → s.vm.findClass E = some ce.cls → vx_W p l e R s m args below meth c H1 locs1 (cells + rm.cells) (slots + rm.slots) Q (F0 m pc ls rest) q9)
    (kk : ∀ (v : Option Value) (u : va_W) (H1 : Heap) (locs1 : List Loc), post v u → gx_W G A s (wr ++ u) H1 locs1 → W p l e R s m args below meth c H1 locs1 (cells + rm.cells) (slots + rm.slots) Q (F0 m (pc + 3) ls (v.toList ++ rest))) : W p l e R s m args below meth c H locs cells slots Q (F0 m pc ls st0) :=
  gx_retX C hW (vx_runV (As := As) (rest := rest) C.1 (hM H.size) (cwV k C.ts (gx_goodV hs) rfl rfl rfl ⟨rfl, hs.2.1, hs.2.2.1, hs.2.2.2⟩ hR) ⟨(gx_pre C hW.cut _).1, gx_recv C hW.cut ho hc, (gx_pre C hW.cut _).2⟩ rfl hn hsize hst (lv_room hrest) d hf) kx kk
theorem gx_callSX (C : gx_C G p s m args meth c cc nL own A) (hW : gx_W G A s (wr ++ wc) H locs) (hs : gx_sS own idx y b n r k) (hM : gx_MX l G y b n r rm As wc post px) (hn : As.length = k) (hR : gx_room rm R n) (hsize : ls.size = nL) (hst : st0 = As.reverse ++ rest) (hrest : (rest.map fun v => v.category).sum ≤ 8) (d : decode cc pc = .ok (.invokestatic idx, 3)) (hf : cells + rm.cells ≤ R.cells ∧ slots + rm.slots ≤ R.slots)
    (kx : ∀ (E : String) (ce : Cell) (q9 : Addr) (u : va_W) (H1 : Heap) (locs1 : List Loc), px E u → gx_W G A s (wr ++ u) H1 locs1 → H1[q9]? = some ce → ce.vm = .none → s.vm.findClass E = some ce.cls → vx_W p l e R s m args below meth c H1 locs1 (cells + rm.cells) (slots + rm.slots) Q (F0 m pc ls rest) q9)
    (kk : ∀ (v : Option Value) (u : va_W) (H1 : Heap) (locs1 : List Loc), post v u → gx_W G A s (wr ++ u) H1 locs1 → W p l e R s m args below meth c H1 locs1 (cells + rm.cells) (slots + rm.slots) Q (F0 m (pc + 3) ls (v.toList ++ rest))) : W p l e R s m args below meth c H locs cells slots Q (F0 m pc ls st0) :=
  gx_retX C hW (vx_runS (As := As) (rest := rest) C.1 (hM H.size) (va_cwS k C.ts (gx_goodS hs) rfl rfl rfl hs.2 hR) (gx_pre C hW.cut _) rfl hn hsize hst (lv_room hrest) d hf) kx kk
/-- ENTRIES -/
theorem gx_start {av : List Value} (hy : plainName y.cls = true) (hlen : (lg_sl av).length ≤ n)
    (body : ∀ (p : Program) (e : Env) (s : State) (m : MethodId) (args : Array Value) (below : List Frame) (meth : Method) (c : Code) (A : Nat → Prop) (ls : Array Slot), gx_C G p s m args meth c b n y.cls A → meth.sig.returnType = r → meth.name = y.name → gx_W G A s ws s.heap [] → lv_has ls n (lv_args 0 av) →
      W p l e rm s m args below meth c s.heap [] 0 0 (MQ below (gx_Q G A post) args s rm.cells rm.slots A) (F0 m 0 ls [])) : gx_M l G y b n r rm av ws post := by
  intro sz
  refine Met.ofW (cc := b) (maxL := n) (ret := r) hy rfl ?_
  intro p e s m args below meth c s₁ B hml hv
  obtain ⟨rfl, hsz, hP, hD, hK⟩ := hv
  subst hsz
  have hts := atoms_spec (ws := gx_ws y b n r) B.pre
  have hl := lv_entry av hlen
  rw [lg_entry_eq]
  exact body p e s m _ below meth c (va_A ws s.heap.size) _ ⟨⟨B.exec, B.bytes, hml, findClass_of_methodNamed B.named, fun w hw => hts w (List.mem_cons_of_mem _ hw)⟩, B.notSynchronized, fun q h => Or.inr h, hK⟩ B.returns (name_of_methodNamed B.named B.method).1 ⟨hP, hD.self, va_S.rf⟩ hl
theorem gx_startX {av : List Value} (hy : plainName y.cls = true) (hlen : (lg_sl av).length ≤ n)
    (body : ∀ (p : Program) (e : Env) (s : State) (m : MethodId) (args : Array Value) (below : List Frame) (meth : Method) (c : Code) (A : Nat → Prop) (ls : Array Slot), gx_C G p s m args meth c b n y.cls A → meth.sig.returnType = r → (∀ x ∈ c.exceptionTable.toList, False) → gx_W G A s ws s.heap [] → lv_has ls n (lv_args 0 av) →
      W p l e rm s m args below meth c s.heap [] 0 0 (vx_MQ below (gx_Q G A post) (gx_X G A px) args s rm.cells rm.slots A) (F0 m 0 ls [])) : gx_MX l G y b n r rm av ws post px := by
  intro sz
  refine vx_ofW (cc := b) (maxL := n) (ret := r) hy rfl ?_
  intro p e s m args below meth c s₁ B hml hno hv
  obtain ⟨rfl, hsz, hP, hD, hK⟩ := hv
  subst hsz
  have hts := atoms_spec (ws := gx_ws y b n r) B.pre
  have hl := lv_entry av hlen
  rw [lg_entry_eq]
  exact body p e s m _ below meth c (va_A ws s.heap.size) _ ⟨⟨B.exec, B.bytes, hml, findClass_of_methodNamed B.named, fun w hw => hts w (List.mem_cons_of_mem _ hw)⟩, B.notSynchronized, fun q h => Or.inr h, hK⟩ B.returns hno ⟨hP, hD.self, va_S.rf⟩ hl
/-- ENDS -/
theorem gx_end {v : Option Value} (hW : gx_W G A s ws H locs) (hp : post v ws) : ∀ t : State, t.heap = H → s.WarmedH t.vm → gx_Q G A post args s (.returned v) t := fun t ht _ => ⟨⟨v, ws, rfl, hp, by rw [ht]; exact hW.1, hW.2.1⟩, hW.2.2.F ht⟩
theorem gx_iret {v : Int32} {mc ms : Nat} (C : gx_C G p s m args meth c cc nL own A) (hr : meth.sig.returnType = some .int) (hW : gx_W G A s ws H locs) (hp : post (some (.int v)) ws) (hc : cells ≤ mc) (hs : slots ≤ ms) (d : decode cc pc = .ok (.ireturn, 1)) : W p l e R s m args below meth c H locs cells slots (MQ below (gx_Q G A post) args s mc ms A) (F0 m pc ls [.int v]) :=
  W.widen hc hs (W.iret C.x C.b hr (gx_end hW hp) hW.2.2.2.2 d C.2.1)
theorem gx_zret {v : Int32} {ty : FieldType} {mc ms : Nat} (C : gx_C G p s m args meth c cc nL own A) (hr : meth.sig.returnType = some ty) (hn : narrow ty (.int v) = .int v) (hW : gx_W G A s ws H locs) (hp : post (some (.int v)) ws) (hc : cells ≤ mc) (hs : slots ≤ ms) (d : decode cc pc = .ok (.ireturn, 1)) : W p l e R s m args below meth c H locs cells slots (MQ below (gx_Q G A post) args s mc ms A) (F0 m pc ls [.int v]) :=
  W.widen hc hs (W.zret C.x C.b hr hn (gx_end hW hp) hW.2.2.2.2 d C.2.1)
theorem gx_lret {v : Int64} {mc ms : Nat} (C : gx_C G p s m args meth c cc nL own A) (hr : meth.sig.returnType = some .long) (hW : gx_W G A s ws H locs) (hp : post (some (.long v)) ws) (hc : cells ≤ mc) (hs : slots ≤ ms) (d : decode cc pc = .ok (.lreturn, 1)) : W p l e R s m args below meth c H locs cells slots (MQ below (gx_Q G A post) args s mc ms A) (F0 m pc ls [.long v]) :=
  W.widen hc hs (W.lret C.x C.b hr (gx_end hW hp) hW.2.2.2.2 d C.2.1)
theorem gx_vret {mc ms : Nat} (C : gx_C G p s m args meth c cc nL own A) (hr : meth.sig.returnType = none) (hW : gx_W G A s ws H locs) (hp : post none ws) (hc : cells ≤ mc) (hs : slots ≤ ms) (d : decode cc pc = .ok (.return_, 1)) : W p l e R s m args below meth c H locs cells slots (MQ below (gx_Q G A post) args s mc ms A) (F0 m pc ls []) :=
  W.widen hc hs (W.vret C.x C.b hr (gx_end hW hp) hW.2.2.2.2 d C.2.1)
theorem gx_aret {v : Nat} {rt : FieldType} {mc ms : Nat} (C : gx_C G p s m args meth c cc nL own A) (hr : meth.sig.returnType = some rt) (hrt : (∃ n, rt = .object n) ∨ ∃ t, rt = .array t) (hW : gx_W G A s ws H locs) (hp : post (some (.ref v)) ws) (hc : cells ≤ mc) (hs : slots ≤ ms) (d : decode cc pc = .ok (.areturn, 1)) : W p l e R s m args below meth c H locs cells slots (MQ below (gx_Q G A post) args s mc ms A) (F0 m pc ls [.ref v]) :=
  W.widen hc hs (W.aret C.x C.b hr hrt (Or.inr ⟨v, rfl⟩) (gx_end hW hp) hW.2.2.2.2 d C.2.1)
end GCA
end
section
/-! ARRAYS over the ground: indexes as nI j. -/
section GA
variable {G : gx_T} {p : Program} {l : Launch} {e : Env} {R : Room} {s : State} {m : MethodId} {args : Array Value} {below : List Frame} {meth : Method} {c : Code} {H : Heap} {locs : List Loc} {cells slots : Nat} {Q : State → Prop}
variable {cc : ByteArray} {nL pc : Nat} {own : String} {A : Nat → Prop} {ls : Array Slot} {rest : List Value} {ws : va_W} {a n j : Nat} {L : List Nat} {f : Nat → va_E} {i : Int32}
theorem gx_ix (hi : i = nI j) (hj : j < n) (hn : n < 2 ^ 31) : vp_in i n ∧ i.toNatClampNeg = j := by
  subst hi
  exact ⟨vp_in_nI hj hn, nI_clamp (Nat.lt_trans hj hn)⟩
theorem gx_lald (C : gx_C G p s m args meth c cc nL own A) (hW : gx_W G A s ws H locs) {g : Nat → Int64} (ha : gx_at ws a (.inl (G.2.1 2, n, .inr (.inl g)))) (hi : i = nI j) (hj : j < n) (hn : n < 2 ^ 31) (d : decode cc pc = .ok (.laload, 1))
    (kk : W p l e R s m args below meth c H locs cells slots Q (F0 m (pc + 1) ls (.long (g j) :: rest))) : W p l e R s m args below meth c H locs cells slots Q (F0 m pc ls (.int i :: .ref a :: rest)) := by
  obtain ⟨q0, hq⟩ := ha
  obtain ⟨h1, h2⟩ := gx_ix hi hj hn
  refine va_lald C.x C.b C.2.2.2.1 hW.1 q0 2 hq rfl h1 d ?_
  rw [h2]
  exact kk
theorem gx_iald (C : gx_C G p s m args meth c cc nL own A) (hW : gx_W G A s ws H locs) {g : Nat → Int32} (ha : gx_at ws a (.inl (G.2.1 1, n, .inl g))) (hi : i = nI j) (hj : j < n) (hn : n < 2 ^ 31) (d : decode cc pc = .ok (.iaload, 1))
    (kk : W p l e R s m args below meth c H locs cells slots Q (F0 m (pc + 1) ls (.int (g j) :: rest))) : W p l e R s m args below meth c H locs cells slots Q (F0 m pc ls (.int i :: .ref a :: rest)) := by
  obtain ⟨q0, hq⟩ := ha
  obtain ⟨h1, h2⟩ := gx_ix hi hj hn
  refine va_iald C.x C.b C.2.2.2.1 hW.1 q0 1 hq rfl h1 d ?_
  rw [h2]
  exact kk
theorem gx_bald (C : gx_C G p s m args meth c cc nL own A) (hW : gx_W G A s ws H locs) {g : Nat → Int32} (ha : gx_at ws a (.inl (G.2.1 0, n, .inl g))) (hi : i = nI j) (hj : j < n) (hn : n < 2 ^ 31) (d : decode cc pc = .ok (.baload, 1))
    (kk : W p l e R s m args below meth c H locs cells slots Q (F0 m (pc + 1) ls (.int (g j) :: rest))) : W p l e R s m args below meth c H locs cells slots Q (F0 m pc ls (.int i :: .ref a :: rest)) := by
  obtain ⟨q0, hq⟩ := ha
  obtain ⟨h1, h2⟩ := gx_ix hi hj hn
  refine va_bald C.x C.b C.2.2.2.1 hW.1 q0 0 hq rfl h1 d ?_
  rw [h2]
  exact kk
theorem gx_dald (C : gx_C G p s m args meth c cc nL own A) (hW : gx_W G A s ws H locs) {g : Nat → UInt64} (ha : gx_at ws a (.inl (G.2.1 4, n, .inr (.inr (.inr (.inl g)))))) (hi : i = nI j) (hj : j < n) (hn : n < 2 ^ 31) (d : decode cc pc = .ok (.daload, 1))
    (kk : W p l e R s m args below meth c H locs cells slots Q (F0 m (pc + 1) ls (.double (g j) :: rest))) : W p l e R s m args below meth c H locs cells slots Q (F0 m pc ls (.int i :: .ref a :: rest)) := by
  obtain ⟨q0, hq⟩ := ha
  obtain ⟨h1, h2⟩ := gx_ix hi hj hn
  refine va_dald C.x C.b C.2.2.2.1 hW.1 q0 4 hq rfl h1 d ?_
  rw [h2]
  exact kk
theorem gx_aald (C : gx_C G p s m args meth c cc nL own A) (hW : gx_W G A s ws H locs) {g : Nat → Option Nat} (ha : gx_at ws a (.inl (G.2.1 3, n, .inr (.inr (.inr (.inr g)))))) (hi : i = nI j) (hj : j < n) (hn : n < 2 ^ 31) (d : decode cc pc = .ok (.aaload, 1))
    (kk : W p l e R s m args below meth c H locs cells slots Q (F0 m (pc + 1) ls (va_rf (g j) :: rest))) : W p l e R s m args below meth c H locs cells slots Q (F0 m pc ls (.int i :: .ref a :: rest)) := by
  obtain ⟨q0, hq⟩ := ha
  obtain ⟨h1, h2⟩ := gx_ix hi hj hn
  refine va_aldq C.x C.b C.2.2.2.1 hW.1 q0 3 hq rfl h1 d ?_
  rw [h2]
  exact kk
theorem gx_alen (C : gx_C G p s m args meth c cc nL own A) (hW : gx_W G A s ws H locs) (t0 : Nat) {cA : ClassId} {ty : FieldType} {x : vp_A} (ht : (gx_tys G)[t0]? = some (cA, ty)) (ha : gx_at ws a (.inl (cA, x))) (d : decode cc pc = .ok (.arraylength, 1))
    (kk : W p l e R s m args below meth c H locs cells slots Q (F0 m (pc + 1) ls (.int (nI x.1) :: rest))) : W p l e R s m args below meth c H locs cells slots Q (F0 m pc ls (.ref a :: rest)) := by
  obtain ⟨q0, hq⟩ := ha
  exact va_alen C.x C.b C.2.2.2.1 hW.1 q0 t0 hq ht rfl d kk
/-- stores, the world a list -/
theorem gx_lastE (C : gx_C G p s m args meth c cc nL own A) (hW : gx_W G A s ws H locs) (q0 : Nat) {g : Nat → Int64} (ha : ws[q0]? = some (a, .inl (G.2.1 2, n, .inr (.inl g)))) {x : Int64} (hi : i = nI j) (hj : j < n) (hn : n < 2 ^ 31) (d : decode cc pc = .ok (.lastore, 1))
    (kk : ∀ (H1 : Heap) (locs1 : List Loc), gx_W G A s (ws.set q0 (a, .inl (G.2.1 2, n, .inr (.inl (vp_updL g j x))))) H1 locs1 → W p l e R s m args below meth c H1 locs1 cells slots Q (F0 m (pc + 1) ls rest)) : W p l e R s m args below meth c H locs cells slots Q (F0 m pc ls (.long x :: .int i :: .ref a :: rest)) := by
  obtain ⟨h1, h2⟩ := gx_ix hi hj hn
  refine va_last C.x C.b C.2.2.2.1 hW.1 hW.2.1 hW.2.2 q0 2 ha rfl h1 d (fun H1 locs1 k1 k2 k3 => kk H1 locs1 ?_)
  rw [h2] at k1 k2
  exact ⟨k1, k2, k3⟩
theorem gx_iastE (C : gx_C G p s m args meth c cc nL own A) (hW : gx_W G A s ws H locs) (q0 : Nat) {g : Nat → Int32} (ha : ws[q0]? = some (a, .inl (G.2.1 1, n, .inl g))) {x : Int32} (hi : i = nI j) (hj : j < n) (hn : n < 2 ^ 31) (d : decode cc pc = .ok (.iastore, 1))
    (kk : ∀ (H1 : Heap) (locs1 : List Loc), gx_W G A s (ws.set q0 (a, .inl (G.2.1 1, n, .inl (upd g j x)))) H1 locs1 → W p l e R s m args below meth c H1 locs1 cells slots Q (F0 m (pc + 1) ls rest)) : W p l e R s m args below meth c H locs cells slots Q (F0 m pc ls (.int x :: .int i :: .ref a :: rest)) := by
  obtain ⟨h1, h2⟩ := gx_ix hi hj hn
  refine va_iast C.x C.b C.2.2.2.1 hW.1 hW.2.1 hW.2.2 q0 1 ha rfl h1 d (fun H1 locs1 k1 k2 k3 => kk H1 locs1 ?_)
  rw [h2] at k1 k2
  exact ⟨k1, k2, k3⟩
theorem gx_dastE (C : gx_C G p s m args meth c cc nL own A) (hW : gx_W G A s ws H locs) (q0 : Nat) {g : Nat → UInt64} (ha : ws[q0]? = some (a, .inl (G.2.1 4, n, .inr (.inr (.inr (.inl g)))))) {x : UInt64} (hi : i = nI j) (hj : j < n) (hn : n < 2 ^ 31) (d : decode cc pc = .ok (.dastore, 1))
    (kk : ∀ (H1 : Heap) (locs1 : List Loc), gx_W G A s (ws.set q0 (a, .inl (G.2.1 4, n, .inr (.inr (.inr (.inl (vf_upd g j x))))))) H1 locs1 → W p l e R s m args below meth c H1 locs1 cells slots Q (F0 m (pc + 1) ls rest)) : W p l e R s m args below meth c H locs cells slots Q (F0 m pc ls (.double x :: .int i :: .ref a :: rest)) := by
  obtain ⟨h1, h2⟩ := gx_ix hi hj hn
  refine va_dast C.x C.b C.2.2.2.1 hW.1 hW.2.1 hW.2.2 q0 4 ha rfl h1 d (fun H1 locs1 k1 k2 k3 => kk H1 locs1 ?_)
  rw [h2] at k1 k2
  exact ⟨k1, k2, k3⟩
/-- stores, the world a pool -/
theorem gx_bast (C : gx_C G p s m args meth c cc nL own A) (hW : gx_W G A s (va_pl L f) H locs) {g : Nat → Int32} (hL : a ∈ L) (ha : f a = .inl (G.2.1 0, n, .inl g)) {x : Int32} (hi : i = nI j) (hj : j < n) (hn : n < 2 ^ 31) (d : decode cc pc = .ok (.bastore, 1))
    (kk : ∀ (H1 : Heap) (locs1 : List Loc), gx_W G A s (va_pl L (va_up f a (.inl (G.2.1 0, n, .inl (upd g j (vp_nar .byte x)))))) H1 locs1 → W p l e R s m args below meth c H1 locs1 cells slots Q (F0 m (pc + 1) ls rest)) : W p l e R s m args below meth c H locs cells slots Q (F0 m pc ls (.int x :: .int i :: .ref a :: rest)) := by
  obtain ⟨h1, h2⟩ := gx_ix hi hj hn
  obtain ⟨q0, hq⟩ := gx_pl hL ha
  refine va_bast C.x C.b C.2.2.2.1 hW.1 hW.2.1 hW.2.2 q0 0 hq rfl h1 d (fun H1 locs1 k1 k2 k3 => kk H1 locs1 ?_)
  rw [h2, (gx_setP hW.2.1 hL hq _).2] at k1 k2
  exact ⟨k1, k2, k3⟩
theorem gx_aast (C : gx_C G p s m args meth c cc nL own A) (hW : gx_W G A s (va_pl L f) H locs) {g : Nat → Option Nat} (hL : a ∈ L) (ha : f a = .inl (G.2.1 3, n, .inr (.inr (.inr (.inr g))))) {v ci N : Nat} {K : String} {T : u_T} {vs : List Value} (hv : v ∈ L) (hfv : f v = .inr (ci, vs)) (hc : vwCl[ci]? = some (K, T, N)) (hca : Cond.castable K "java/lang/Object" ∈ gx_nW) (hi : i = nI j) (hj : j < n) (hn : n < 2 ^ 31) (d : decode cc pc = .ok (.aastore, 1))
    (kk : ∀ (H1 : Heap) (locs1 : List Loc), gx_W G A s (va_pl L (va_up f a (.inl (G.2.1 3, n, .inr (.inr (.inr (.inr (va_up g j (some v))))))))) H1 locs1 → W p l e R s m args below meth c H1 locs1 cells slots Q (F0 m (pc + 1) ls rest)) : W p l e R s m args below meth c H locs cells slots Q (F0 m pc ls (.ref v :: .int i :: .ref a :: rest)) := by
  obtain ⟨h1, h2⟩ := gx_ix hi hj hn
  obtain ⟨q0, hq⟩ := gx_pl hL ha
  obtain ⟨qk, hqk⟩ := gx_pl hv hfv
  refine va_astqO C.x C.b C.2.2.2.1 hW.1 hW.2.1 hW.2.2 q0 3 qk ci hq rfl (C.2.2.2.2.1.2.2.1 _ hca) hqk hc h1 d (fun H1 locs1 k1 k2 k3 => kk H1 locs1 ?_)
  rw [h2, (gx_setP hW.2.1 hL hq _).2] at k1 k2
  exact ⟨k1, k2, k3⟩
theorem gx_aastN (C : gx_C G p s m args meth c cc nL own A) (hW : gx_W G A s (va_pl L f) H locs) {g : Nat → Option Nat} (hL : a ∈ L) (ha : f a = .inl (G.2.1 3, n, .inr (.inr (.inr (.inr g))))) (hi : i = nI j) (hj : j < n) (hn : n < 2 ^ 31) (d : decode cc pc = .ok (.aastore, 1))
    (kk : ∀ (H1 : Heap) (locs1 : List Loc), gx_W G A s (va_pl L (va_up f a (.inl (G.2.1 3, n, .inr (.inr (.inr (.inr (va_up g j none)))))))) H1 locs1 → W p l e R s m args below meth c H1 locs1 cells slots Q (F0 m (pc + 1) ls rest)) : W p l e R s m args below meth c H locs cells slots Q (F0 m pc ls (.null :: .int i :: .ref a :: rest)) := by
  obtain ⟨h1, h2⟩ := gx_ix hi hj hn
  obtain ⟨q0, hq⟩ := gx_pl hL ha
  refine va_astqN C.x C.b C.2.2.2.1 hW.1 hW.2.1 hW.2.2 q0 3 hq rfl h1 d (fun H1 locs1 k1 k2 k3 => kk H1 locs1 ?_)
  rw [h2, (gx_setP hW.2.1 hL hq _).2] at k1 k2
  exact ⟨k1, k2, k3⟩
/-- new rows -/
theorem gx_find {U : State} {cA : ClassId} {ty : FieldType} (h : va_RA U cA ty) : U.vm.findClass ("[" ++ ty.toString) = some cA := by
  cases ty <;> first | exact h | (obtain ⟨_, _, _, _, _, h9⟩ := h; exact h9)
theorem gx_cA {D : va_G} {cl : List vw_C} {U : State} {cA c0 : ClassId} {ty : FieldType} {tys : List (ClassId × FieldType)} (hK : va_K D cl (tys ++ [(cA, ty)]) U) (t0 : Nat) (h : tys[t0]? = some (c0, ty)) : cA = c0 := by
  have h1 := (hK.2 tys.length (cA, ty) (by rw [List.getElem?_append_right (Nat.le_refl _), Nat.sub_self]; rfl)).2
  have h2 := (hK.2 t0 (c0, ty) (by rw [List.getElem?_append_left (List.getElem?_eq_some_iff.mp h).1]; exact h)).2
  exact Option.some.inj ((gx_find h1).symm.trans (gx_find h2))
theorem gx_newa (C : gx_C G p s m args meth c cc nL own A) (hW : gx_W G A s ws H locs) {atype : ArrayType} {ty : FieldType} (hty : newarray.typeOf atype = ty) (hw : Cond.arrayClass (newarray.typeOf atype) ∈ lw_all) (t0 : Nat) {c0 : ClassId} (ht : (gx_tys G)[t0]? = some (c0, ty)) {a0 : vp_A} (ha : ∀ cA : ClassId, vp_cell cA a0 = arrV cA n (fun _ => defaultValue ty)) (hi : i = nI n) (hn : n < 2 ^ 16) (hcells : cells + 1 ≤ R.cells) (hslots : slots + n ≤ R.slots) (d : decode cc pc = .ok (.newarray atype, 2))
    (kk : ∀ (q : Nat) (H1 : Heap), gx_W G A s (ws ++ [(q, .inl (c0, a0))]) H1 locs → W p l e R s m args below meth c H1 locs (cells + 1) (slots + n) Q (F0 m (pc + 2) ls (.ref q :: rest))) : W p l e R s m args below meth c H locs cells slots Q (F0 m pc ls (.int i :: rest)) := by
  subst hi
  have h31 : n < 2 ^ 31 := Nat.lt_of_lt_of_le hn (by decide)
  have hb : n * componentBytes ty ≤ 536870912 := by
    have h8 : componentBytes ty ≤ 8 := by cases ty <;> simp [componentBytes]
    calc n * componentBytes ty ≤ n * 8 := Nat.mul_le_mul_left _ h8
      _ ≤ 536870912 := by omega
  refine va_newa (atype := atype) C.x C.b (C.ts _ hw) hty C.2.2.2.1 hW.1 hW.2.1 hW.2.2 C.2.2.1 ha (nI_pos h31) (nI_clamp h31) hb hcells hslots d (fun q cA H1 k0 k1 k2 k3 => ?_)
  have e := gx_cA k0 t0 ht
  subst e
  exact kk q H1 ⟨k1, k2, k3⟩
theorem gx_newq (C : gx_C G p s m args meth c cc nL own A) (hW : gx_W G A s (va_pl L f) H locs) {idx : Nat} (hw : Cond.classLink own idx "java/lang/Object" ∈ lw_all) (hi : i = nI n) (hn : n < 2 ^ 16) (hcells : cells + 1 ≤ R.cells) (hslots : slots + n ≤ R.slots) (d : decode cc pc = .ok (.anewarray idx, 3))
    (kk : ∀ (q : Nat) (H1 : Heap), q ∉ L → gx_W G A s (va_pl (L ++ [q]) (va_up f q (.inl (G.2.1 3, n, .inr (.inr (.inr (.inr (fun _ => none)))))))) H1 locs → W p l e R s m args below meth c H1 locs (cells + 1) (slots + n) Q (F0 m (pc + 3) ls (.ref q :: rest))) : W p l e R s m args below meth c H locs cells slots Q (F0 m pc ls (.int i :: rest)) := by
  subst hi
  have h31 : n < 2 ^ 31 := Nat.lt_of_lt_of_le hn (by decide)
  refine va_newq C.x C.b C.hown (C.ts _ hw) C.2.2.2.2.1.2.2.2.2.2 C.2.2.2.1 hW.1 hW.2.1 hW.2.2 C.2.2.1 (nI_pos h31) (nI_clamp h31) (by omega) hcells hslots d (fun q cA H1 k0 k1 k2 k3 => ?_)
  have e := gx_cA k0 3 rfl
  subst e
  have k := gx_pushP (s := s) (H1 := H1) (locs1 := locs) ⟨k1, k2, k3⟩
  exact kk q H1 k.1 k.2
end GA
end
section
/-! THROWS over the ground: 'throw new E("text")' in StandTests. -/
def gx_thr (ic : Nat) (cls : String) : Prop := (∀ w ∈ (vx_atS RX5 ic cls gx_up).filter goodWord, w ∈ lw_tbl) ∧ (∀ w ∈ (vx_atS RX5 ic cls gx_up).filter (fun w => !goodWord w), w ∈ gx_nW) ∧ ∀ w ∈ vx_atS RX5 ic cls gx_up, vx_ot w = true
set_option maxRecDepth 100000 in
theorem gx_thr1 : gx_thr 56 gx_E1 := ⟨by decide +kernel, by decide +kernel, by decide +kernel⟩
set_option maxRecDepth 100000 in
theorem gx_thr2 : gx_thr 94 gx_E2 := ⟨by decide +kernel, by decide +kernel, by decide +kernel⟩
set_option maxRecDepth 100000 in
theorem gx_thr3 : gx_thr 83 gx_E3 := ⟨by decide +kernel, by decide +kernel, by decide +kernel⟩
theorem gx_noTr {l : Launch} (h : l.flags = flags0) : l.stackTraces = false := by
  unfold Launch.stackTraces
  rw [h]
  decide +kernel
section GT
variable {G : gx_T} {p : Program} {l : Launch} {e : Env} {R : Room} {s : State} {m : MethodId} {args : Array Value} {below : List Frame} {meth : Method} {c : Code} {H : Heap} {locs : List Loc} {cells slots : Nat} {Q : State → Prop}
variable {cc : ByteArray} {nL pc : Nat} {own : String} {A : Nat → Prop} {ls : Array Slot} {rest : List Value} {ws : va_W}
theorem gx_throw {Qc : Array Value → State → Outcome → State → Prop} {px : String → va_W → Prop} {cls text : String} {ik is ic mc ms : Nat} (hl : l.flags = flags0) (C : gx_C G p s m args meth c cc nL RX5 A) (hno : ∀ x ∈ c.exceptionTable.toList, False) (hW : gx_W G A s ws H locs) (hT : gx_thr ic cls) (hcls : Bundle.fit cls = true) (h1 : Cond.classLink RX5 ik cls ∈ lw_all) (h2 : Cond.initialized cls ∈ lw_all) (h3 : Cond.stringRef "StandTests" is text ∈ tables_1) (hsize : ls.size = nL)
    (d0 : decode cc pc = .ok (.new ik, 3)) (d3 : decode cc (pc + 3) = .ok (.dup, 1)) (d4 : decode cc (pc + 4) = .ok (.ldc is, 2)) (d6 : decode cc (pc + 6) = .ok (.invokespecial ic, 3)) (d9 : decode cc (pc + 9) = .ok (.athrow, 1))
    (hRf : 5 < R.frames) (hRl : (rest.map fun v => v.category).sum + 82 ≤ R.locals) (hRc : cells + 1 ≤ R.cells) (hRs : slots + 6 ≤ R.slots) (hpx : px cls ws) (hc : cells + 1 ≤ mc) (hs : slots + 6 ≤ ms) :
    W p l e R s m args below meth c H locs cells slots (vx_MQ below Qc (gx_X G A px) args s mc ms A) (F0 m pc ls rest) := by
  obtain ⟨sa, hsa⟩ := C.2.2.2.2.1.2.2.2.2.1 is text h3
  have hat : ∀ w ∈ vx_atS RX5 ic cls gx_up, w.before args s = true := vx_hat (B := gx_nW) (fun w hw => C.ts w (List.mem_append_right _ (List.mem_filter.mpr ⟨hT.1 w hw, (List.mem_filter.mp hw).2⟩))) hT.2.1 (fun w hw => (C.2.2.2.2.1.2.2.1 w hw).use ((Bool.and_eq_true _ _).mp (gx_nW_ok w hw)).1)
  refine vx_throwS (own := RX5) (cls := cls) (text := text) (names := gx_up) (ik := ik) (is := is) (ic := ic) (sa := sa) (A := A) C.x C.b (gx_noTr hl) C.hown hcls (by decide +kernel) (C.ts _ h1) (C.ts _ h2) hsa hat ?_ C.2.2.2.2.2.2.1 C.2.2.2.2.2.2.2.1 hW.2.2 (hsize.trans C.1.2.2.1.symm) d0 d3 d4 d6 d9 (fun x hx => (hno x hx).elim) hRf hRl hRc hRs C.2.1 ?_ hW.2.2.2.2 hc hs
  · intro w hw
    rcases List.mem_cons.mp hw with rfl | hw
    · rfl
    · rcases List.mem_cons.mp hw with rfl | hw
      · rfl
      · exact hT.2.2 w hw
  · intro t hvm hz hq
    have hS := hW.2.2
    refine ⟨⟨ws, hpx, fun k q hk => (hW.1 k q hk).kept (hq _ (hW.1 k q hk).lt), hW.2.1⟩, Nat.le_trans hS.1 hz, fun q h4 h5 => (hq q (Nat.lt_of_lt_of_le h4 hS.1)).trans (hS.2.1 q h4 h5)⟩
/-- not caught here: on to the caller -/
theorem gx_out {Qc : Array Value → State → Outcome → State → Prop} {px : String → va_W → Prop} {E : String} {ce : Cell} {q : Addr} {mc ms : Nat} (C : gx_C G p s m args meth c cc nL own A) (hno : ∀ x ∈ c.exceptionTable.toList, False) (hW : gx_W G A s ws H locs) (hcell : H[q]? = some ce) (hv : ce.vm = .none) (hcl : s.vm.findClass E = some ce.cls) (hpx : px E ws) (hc : cells ≤ mc) (hs : slots ≤ ms) : vx_W p l e R s m args below meth c H locs cells slots (vx_MQ below Qc (gx_X G A px) args s mc ms A) (F0 m pc ls rest) q :=
  vx_out (fun x hx => (hno x hx).elim) C.2.1 hcell hv hcl (fun t ht _ => ⟨⟨ws, hpx, by rw [ht]; exact hW.1, hW.2.1⟩, hW.2.2.F ht⟩) hW.2.2.2.2 hc hs
end GT
end
section
/-! MORE ROWS over the ground: long compares, constants, names for a value, casts. -/
section GM
variable {G : gx_T} {p : Program} {l : Launch} {e : Env} {R : Room} {s : State} {m : MethodId} {args : Array Value} {below : List Frame} {meth : Method} {c : Code} {H : Heap} {locs : List Loc} {cells slots : Nat} {Q : State → Prop}
variable {cc : ByteArray} {nL pc : Nat} {own : String} {A : Nat → Prop} {ls : Array Slot} {rest : List Value} {ws : va_W} {a : Nat} {L : List Nat} {f : Nat → va_E}
theorem gx_topi {x y : Int32} (h : x = y) (k : W p l e R s m args below meth c H locs cells slots Q (F0 m pc ls (.int y :: rest))) : W p l e R s m args below meth c H locs cells slots Q (F0 m pc ls (.int x :: rest)) := by
  rw [h]
  exact k
theorem gx_topl {x y : Int64} (h : x = y) (k : W p l e R s m args below meth c H locs cells slots Q (F0 m pc ls (.long y :: rest))) : W p l e R s m args below meth c H locs cells slots Q (F0 m pc ls (.long x :: rest)) := by
  rw [h]
  exact k
theorem gx_topd {x y : UInt64} (h : x = y) (k : W p l e R s m args below meth c H locs cells slots Q (F0 m pc ls (.double y :: rest))) : W p l e R s m args below meth c H locs cells slots Q (F0 m pc ls (.double x :: rest)) := by
  rw [h]
  exact k
theorem gx_lc_eq (C : gx_C G p s m args meth c cc nL own A) {x y : Int64} {off : Int} {tgt : Nat} (d1 : decode cc pc = .ok (.lcmp, 1)) (d2 : decode cc (pc + 1) = .ok (.ifCond .eq off, 3)) (ht : ((pc + 1 : Nat) : Int) + off = (tgt : Int)) (kt : x = y → W p l e R s m args below meth c H locs cells slots Q (F0 m tgt ls rest)) (kf : ¬ x = y → W p l e R s m args below meth c H locs cells slots Q (F0 m (pc + 1 + 3) ls rest)) : W p l e R s m args below meth c H locs cells slots Q (F0 m pc ls (.long y :: .long x :: rest)) :=
  W.lcmp C.x C.b d1 (lv_if_eq C.x C.b d2 ht (fun h => kt ((lg_cmp_eq x y).mp h)) (fun h => kf (fun z => h ((lg_cmp_eq x y).mpr z))))
theorem gx_lc_ne (C : gx_C G p s m args meth c cc nL own A) {x y : Int64} {off : Int} {tgt : Nat} (d1 : decode cc pc = .ok (.lcmp, 1)) (d2 : decode cc (pc + 1) = .ok (.ifCond .ne off, 3)) (ht : ((pc + 1 : Nat) : Int) + off = (tgt : Int)) (kt : ¬ x = y → W p l e R s m args below meth c H locs cells slots Q (F0 m tgt ls rest)) (kf : x = y → W p l e R s m args below meth c H locs cells slots Q (F0 m (pc + 1 + 3) ls rest)) : W p l e R s m args below meth c H locs cells slots Q (F0 m pc ls (.long y :: .long x :: rest)) :=
  W.lcmp C.x C.b d1 (lv_if_ne C.x C.b d2 ht (fun h => kt (fun z => h ((lg_cmp_eq x y).mpr z))) (fun h => kf ((lg_cmp_eq x y).mp h)))
theorem gx_lc_lt (C : gx_C G p s m args meth c cc nL own A) {x y : Int64} {off : Int} {tgt : Nat} (d1 : decode cc pc = .ok (.lcmp, 1)) (d2 : decode cc (pc + 1) = .ok (.ifCond .lt off, 3)) (ht : ((pc + 1 : Nat) : Int) + off = (tgt : Int)) (kt : x < y → W p l e R s m args below meth c H locs cells slots Q (F0 m tgt ls rest)) (kf : ¬ x < y → W p l e R s m args below meth c H locs cells slots Q (F0 m (pc + 1 + 3) ls rest)) : W p l e R s m args below meth c H locs cells slots Q (F0 m pc ls (.long y :: .long x :: rest)) :=
  W.lcmp C.x C.b d1 (lv_if_lt C.x C.b d2 ht (fun h => kt ((lg_cmp_lt x y).mp h)) (fun h => kf (fun z => h ((lg_cmp_lt x y).mpr z))))
theorem gx_lc_ge (C : gx_C G p s m args meth c cc nL own A) {x y : Int64} {off : Int} {tgt : Nat} (d1 : decode cc pc = .ok (.lcmp, 1)) (d2 : decode cc (pc + 1) = .ok (.ifCond .ge off, 3)) (ht : ((pc + 1 : Nat) : Int) + off = (tgt : Int)) (kt : y ≤ x → W p l e R s m args below meth c H locs cells slots Q (F0 m tgt ls rest)) (kf : ¬ y ≤ x → W p l e R s m args below meth c H locs cells slots Q (F0 m (pc + 1 + 3) ls rest)) : W p l e R s m args below meth c H locs cells slots Q (F0 m pc ls (.long y :: .long x :: rest)) :=
  W.lcmp C.x C.b d1 (lv_if_ge C.x C.b d2 ht (fun h => kt ((lg_cmp_ge x y).mp h)) (fun h => kf (fun z => h ((lg_cmp_ge x y).mpr z))))
theorem gx_lc_gt (C : gx_C G p s m args meth c cc nL own A) {x y : Int64} {off : Int} {tgt : Nat} (d1 : decode cc pc = .ok (.lcmp, 1)) (d2 : decode cc (pc + 1) = .ok (.ifCond .gt off, 3)) (ht : ((pc + 1 : Nat) : Int) + off = (tgt : Int)) (kt : y < x → W p l e R s m args below meth c H locs cells slots Q (F0 m tgt ls rest)) (kf : ¬ y < x → W p l e R s m args below meth c H locs cells slots Q (F0 m (pc + 1 + 3) ls rest)) : W p l e R s m args below meth c H locs cells slots Q (F0 m pc ls (.long y :: .long x :: rest)) :=
  W.lcmp C.x C.b d1 (lv_if_gt C.x C.b d2 ht (fun h => kt ((lg_cmp_gt x y).mp h)) (fun h => kf (fun z => h ((lg_cmp_gt x y).mpr z))))
theorem gx_lc_le (C : gx_C G p s m args meth c cc nL own A) {x y : Int64} {off : Int} {tgt : Nat} (d1 : decode cc pc = .ok (.lcmp, 1)) (d2 : decode cc (pc + 1) = .ok (.ifCond .le off, 3)) (ht : ((pc + 1 : Nat) : Int) + off = (tgt : Int)) (kt : x ≤ y → W p l e R s m args below meth c H locs cells slots Q (F0 m tgt ls rest)) (kf : ¬ x ≤ y → W p l e R s m args below meth c H locs cells slots Q (F0 m (pc + 1 + 3) ls rest)) : W p l e R s m args below meth c H locs cells slots Q (F0 m pc ls (.long y :: .long x :: rest)) :=
  W.lcmp C.x C.b d1 (lv_if_le C.x C.b d2 ht (fun h => kt ((lg_cmp_le x y).mp h)) (fun h => kf (fun z => h ((lg_cmp_le x y).mpr z))))
theorem gx_ne {f : Nat → va_E} {a b : Nat} {e1 e2 : va_E} (h1 : f a = e1) (h2 : f b = e2) (h : e1 ≠ e2) : a ≠ b := fun z => h (by rw [← h1, ← h2, z])
theorem gx_cast (C : gx_C G p s m args meth c cc nL own A) (hW : gx_W G A s ws H locs) {idx ci N : Nat} {K : String} {T : u_T} {fs : List Value} (ha : gx_at ws a (.inr (ci, fs))) (hc : vwCl[ci]? = some (K, T, N)) (h1 : Cond.classLink own idx K ∈ lw_all) (d : decode cc pc = .ok (.checkcast idx, 3)) (k : W p l e R s m args below meth c H locs cells slots Q (F0 m (pc + 3) ls (.ref a :: rest))) : W p l e R s m args below meth c H locs cells slots Q (F0 m pc ls (.ref a :: rest)) :=
  va_castS C.x C.b C.hown (C.ts _ h1) (C.2.2.2.1.1 ci _ hc).2 (gx_recv C hW ha hc) d k
theorem tr_1 {w : Cond} (i : Nat) (h : tables_1_1[i]? = some w) : w ∈ tables_1 := List.mem_append_left _ (List.mem_of_getElem? h)
theorem tr_2 {w : Cond} (i : Nat) (h : tables_1_2[i]? = some w) : w ∈ tables_1 := List.mem_append_right _ (List.mem_append_left _ (List.mem_of_getElem? h))
theorem tr_3 {w : Cond} (i : Nat) (h : tables_1_3[i]? = some w) : w ∈ tables_1 := List.mem_append_right _ (List.mem_append_right _ (List.mem_append_left _ (List.mem_of_getElem? h)))
theorem tr_4 {w : Cond} (i : Nat) (h : tables_1_4[i]? = some w) : w ∈ tables_1 := List.mem_append_right _ (List.mem_append_right _ (List.mem_append_right _ (List.mem_append_left _ (List.mem_of_getElem? h))))
theorem tr_5 {w : Cond} (i : Nat) (h : tables_1_5[i]? = some w) : w ∈ tables_1 := List.mem_append_right _ (List.mem_append_right _ (List.mem_append_right _ (List.mem_append_right _ (List.mem_append_left _ (List.mem_of_getElem? h)))))
theorem tr_6 {w : Cond} (i : Nat) (h : tables_1_6[i]? = some w) : w ∈ tables_1 := List.mem_append_right _ (List.mem_append_right _ (List.mem_append_right _ (List.mem_append_right _ (List.mem_append_right _ (List.mem_of_getElem? h)))))
theorem gx_ldci (C : gx_C G p s m args meth c cc nL own A) {idx : Nat} {v : Int32} (h : Cond.constant own idx v ∈ lw_all) (d : decode cc pc = .ok (.ldc idx, 2)) (k : W p l e R s m args below meth c H locs cells slots Q (F0 m (pc + 2) ls (.int v :: rest))) : W p l e R s m args below meth c H locs cells slots Q (F0 m pc ls rest) := W.ldc C.x C.b C.hown (C.ts _ h) rfl d k
theorem gx_ldc2 (C : gx_C G p s m args meth c cc nL own A) {idx : Nat} {v : Int64} (h : Cond.constantLong own idx v ∈ lw_all) (d : decode cc pc = .ok (.ldc2_w idx, 3)) (k : W p l e R s m args below meth c H locs cells slots Q (F0 m (pc + 3) ls (.long v :: rest))) : W p l e R s m args below meth c H locs cells slots Q (F0 m pc ls rest) := W.ldc2 C.x C.b C.hown (C.ts _ h) rfl d k
theorem gx_obj (C : gx_C G p s m args meth c cc nL own A) {idx : Nat} (h1 : Cond.methodLink own idx objectInit ∈ lw_all) (hsize : ls.size = nL) (d : decode cc pc = .ok (.invokespecial idx, 3)) (hf : 1 ≤ R.frames) (hl : (rest.map fun v => v.category).sum + 12 ≤ R.locals) (k : W p l e R s m args below meth c H locs cells slots Q (F0 m (pc + 3) ls rest)) : W p l e R s m args below meth c H locs cells slots Q (F0 m pc ls (.ref a :: rest)) :=
  W.objInit C.x C.b C.hown (C.ts _ h1) (C.ts _ (tq_1 38 (by decide +kernel) rfl)) (C.ts _ (tq_1 39 (by decide +kernel) rfl)) rfl (hsize.trans C.1.2.2.1.symm) rfl d hf (by show 2 * 0 + _ + 12 ≤ _; omega) k
/-- truth as an int -/
def gx_b (b : Prop) [Decidable b] : Int32 := if b then 1 else 0
end GM
end
section
/-! SITES: what the tables say of each class, field and call site (by program, wip/whole/gen.py). -/
theorem clJ0 : gx_cls RJ0 TJ0 4 tyJ0 := ⟨tyJ0_ok, nmJ0⟩
theorem inJ0 : ∀ w ∈ u_ws RJ0 TJ0 4, w ∈ lw_all := tq_u (fun k hk => match k, hk with
  | 0, _ => (tq_3 111 (by decide +kernel) rfl)
  | 1, _ => (tq_3 113 (by decide +kernel) rfl)
  | 2, _ => (tq_3 115 (by decide +kernel) rfl)
  | 3, _ => (tq_3 117 (by decide +kernel) rfl)
  | k + 4, h => absurd h (by omega))
theorem clJ4 : gx_cls RJ4 TJ4 4 tyJ4 := ⟨tyJ4_ok, nmJ4⟩
theorem inJ4 : ∀ w ∈ u_ws RJ4 TJ4 4, w ∈ lw_all := tq_u (fun k hk => match k, hk with
  | 0, _ => (tq_1 89 (by decide +kernel) rfl)
  | 1, _ => (tq_1 91 (by decide +kernel) rfl)
  | 2, _ => (tq_1 93 (by decide +kernel) rfl)
  | 3, _ => (tq_1 95 (by decide +kernel) rfl)
  | k + 4, h => absurd h (by omega))
theorem clJx00060 : gx_cls RJx00060 TJx00060 6 tyJx00060 := ⟨tyJx00060_ok, nmJx00060⟩
theorem inJx00060 : ∀ w ∈ u_ws RJx00060 TJx00060 6, w ∈ lw_all := tq_u (fun k hk => match k, hk with
  | 0, _ => (tq_3 149 (by decide +kernel) rfl)
  | 1, _ => (tq_3 150 (by decide +kernel) rfl)
  | 2, _ => (tq_3 151 (by decide +kernel) rfl)
  | 3, _ => (tq_3 152 (by decide +kernel) rfl)
  | 4, _ => (tq_3 153 (by decide +kernel) rfl)
  | 5, _ => (tq_3 164 (by decide +kernel) rfl)
  | k + 6, h => absurd h (by omega))
theorem clJx7c733 : gx_cls RJx7c733 TJx7c733 6 tyJx7c733 := ⟨tyJx7c733_ok, nmJx7c733⟩
theorem inJx7c733 : ∀ w ∈ u_ws RJx7c733 TJx7c733 6, w ∈ lw_all := tq_u (fun k hk => match k, hk with
  | 0, _ => (tq_3 124 (by decide +kernel) rfl)
  | 1, _ => (tq_3 125 (by decide +kernel) rfl)
  | 2, _ => (tq_3 126 (by decide +kernel) rfl)
  | 3, _ => (tq_3 127 (by decide +kernel) rfl)
  | 4, _ => (tq_3 128 (by decide +kernel) rfl)
  | 5, _ => (tq_3 129 (by decide +kernel) rfl)
  | k + 6, h => absurd h (by omega))
theorem clJx4a65c : gx_cls RJx4a65c TJx4a65c 3 tyJx4a65c := ⟨tyJx4a65c_ok, nmJx4a65c⟩
theorem inJx4a65c : ∀ w ∈ u_ws RJx4a65c TJx4a65c 3, w ∈ lw_all := tq_u (fun k hk => match k, hk with
  | 0, _ => (tq_1 63 (by decide +kernel) rfl)
  | 1, _ => (tq_1 59 (by decide +kernel) rfl)
  | 2, _ => (tq_1 61 (by decide +kernel) rfl)
  | k + 3, h => absurd h (by omega))
theorem clX0 : gx_cls RX0 TX0 3 tyX0 := ⟨tyX0_ok, nmX0⟩
theorem inX0 : ∀ w ∈ u_ws RX0 TX0 3, w ∈ lw_all := tq_u (fun k hk => match k, hk with
  | 0, _ => (tq_4 3 (by decide +kernel) rfl)
  | 1, _ => (tq_4 5 (by decide +kernel) rfl)
  | 2, _ => (tq_4 7 (by decide +kernel) rfl)
  | k + 3, h => absurd h (by omega))
theorem clX1 : gx_cls RX1 TX1 6 tyX1 := ⟨tyX1_ok, nmX1⟩
theorem inX1 : ∀ w ∈ u_ws RX1 TX1 6, w ∈ lw_all := tq_u (fun k hk => match k, hk with
  | 0, _ => (tq_1 116 (by decide +kernel) rfl)
  | 1, _ => (tq_1 118 (by decide +kernel) rfl)
  | 2, _ => (tq_1 120 (by decide +kernel) rfl)
  | 3, _ => (tq_1 122 (by decide +kernel) rfl)
  | 4, _ => (tq_1 124 (by decide +kernel) rfl)
  | 5, _ => (tq_1 126 (by decide +kernel) rfl)
  | k + 6, h => absurd h (by omega))
theorem clX2 : gx_cls RX2 TX2 2 tyX2 := ⟨tyX2_ok, nmX2⟩
theorem inX2 : ∀ w ∈ u_ws RX2 TX2 2, w ∈ lw_all := tq_u (fun k hk => match k, hk with
  | 0, _ => (tq_4 71 (by decide +kernel) rfl)
  | 1, _ => (tq_4 73 (by decide +kernel) rfl)
  | k + 2, h => absurd h (by omega))
theorem clX3 : gx_cls RX3 TX3 2 tyX3 := ⟨tyX3_ok, nmX3⟩
theorem inX3 : ∀ w ∈ u_ws RX3 TX3 2, w ∈ lw_all := tq_u (fun k hk => match k, hk with
  | 0, _ => (tq_2 96 (by decide +kernel) rfl)
  | 1, _ => (tq_2 98 (by decide +kernel) rfl)
  | k + 2, h => absurd h (by omega))
theorem clX4 : gx_cls RX4 TX4 4 tyX4 := ⟨tyX4_ok, nmX4⟩
theorem inX4 : ∀ w ∈ u_ws RX4 TX4 4, w ∈ lw_all := tq_u (fun k hk => match k, hk with
  | 0, _ => (tq_2 38 (by decide +kernel) rfl)
  | 1, _ => (tq_2 40 (by decide +kernel) rfl)
  | 2, _ => (tq_2 42 (by decide +kernel) rfl)
  | 3, _ => (tq_2 44 (by decide +kernel) rfl)
  | k + 4, h => absurd h (by omega))
theorem clX5 : gx_cls RX5 TX5 8 tyX5 := ⟨tyX5_ok, nmX5⟩
theorem inX5 : ∀ w ∈ u_ws RX5 TX5 8, w ∈ lw_all := tq_u (fun k hk => match k, hk with
  | 0, _ => (tq_1 137 (by decide +kernel) rfl)
  | 1, _ => (tq_1 139 (by decide +kernel) rfl)
  | 2, _ => (tq_1 141 (by decide +kernel) rfl)
  | 3, _ => (tq_1 143 (by decide +kernel) rfl)
  | 4, _ => (tq_1 145 (by decide +kernel) rfl)
  | 5, _ => (tq_1 147 (by decide +kernel) rfl)
  | 6, _ => (tq_1 149 (by decide +kernel) rfl)
  | 7, _ => (tq_1 151 (by decide +kernel) rfl)
  | k + 8, h => absurd h (by omega))
theorem clX6 : gx_cls RX6 TX6 24 tyX6 := ⟨tyX6_ok, nmX6⟩
theorem inX6 : ∀ w ∈ u_ws RX6 TX6 24, w ∈ lw_all := tq_u (fun k hk => match k, hk with
  | 0, _ => (tq_5 33 (by decide +kernel) rfl)
  | 1, _ => (tq_5 35 (by decide +kernel) rfl)
  | 2, _ => (tq_5 37 (by decide +kernel) rfl)
  | 3, _ => (tq_5 39 (by decide +kernel) rfl)
  | 4, _ => (tq_5 41 (by decide +kernel) rfl)
  | 5, _ => (tq_5 43 (by decide +kernel) rfl)
  | 6, _ => (tq_5 45 (by decide +kernel) rfl)
  | 7, _ => (tq_5 47 (by decide +kernel) rfl)
  | 8, _ => (tq_5 49 (by decide +kernel) rfl)
  | 9, _ => (tq_5 51 (by decide +kernel) rfl)
  | 10, _ => (tq_5 53 (by decide +kernel) rfl)
  | 11, _ => (tq_5 55 (by decide +kernel) rfl)
  | 12, _ => (tq_5 57 (by decide +kernel) rfl)
  | 13, _ => (tq_5 59 (by decide +kernel) rfl)
  | 14, _ => (tq_5 61 (by decide +kernel) rfl)
  | 15, _ => (tq_5 63 (by decide +kernel) rfl)
  | 16, _ => (tq_5 65 (by decide +kernel) rfl)
  | 17, _ => (tq_5 67 (by decide +kernel) rfl)
  | 18, _ => (tq_5 69 (by decide +kernel) rfl)
  | 19, _ => (tq_5 71 (by decide +kernel) rfl)
  | 20, _ => (tq_5 73 (by decide +kernel) rfl)
  | 21, _ => (tq_5 75 (by decide +kernel) rfl)
  | 22, _ => (tq_5 77 (by decide +kernel) rfl)
  | 23, _ => (tq_5 79 (by decide +kernel) rfl)
  | k + 24, h => absurd h (by omega))
theorem fX0_7 : gx_fld RX0 7 5 0 RX0 TX0 3 "StandTests$Foot" := ⟨inX0, rfl, by decide, (tq_3 237 (by decide +kernel) rfl), Or.inl rfl⟩
theorem fX0_13 : gx_fld RX0 13 5 1 RX0 TX0 3 "StandTests$Foot" := ⟨inX0, rfl, by decide, (tq_3 239 (by decide +kernel) rfl), Or.inl rfl⟩
theorem fX0_17 : gx_fld RX0 17 5 2 RX0 TX0 3 "StandTests$Foot" := ⟨inX0, rfl, by decide, (tq_4 1 (by decide +kernel) rfl), Or.inl rfl⟩
theorem sX0_20 : gx_sV RX0 20 yX0_isAt cX0_isAt 2 (some .boolean) 1 := ⟨⟨(tq_4 50 (by decide +kernel) rfl), (tq_4 52 (by decide +kernel) rfl), (tq_s 16 3 (by decide +kernel)), (tq_1 20 (by decide +kernel) rfl), (tq_4 53 (by decide +kernel) rfl)⟩, ⟨by decide +kernel, by decide +kernel, by decide +kernel⟩⟩
theorem sX0_24 : gx_sV RX0 24 yX0_turn cX0_turn 3 (some .long) 2 := ⟨⟨(tq_4 54 (by decide +kernel) rfl), (tq_4 56 (by decide +kernel) rfl), (tq_s 17 3 (by decide +kernel)), (tq_1 20 (by decide +kernel) rfl), (tq_4 57 (by decide +kernel) rfl)⟩, ⟨by decide +kernel, by decide +kernel, by decide +kernel⟩⟩
theorem sX0_28 : gx_sV RX0 28 yX0_squareTo cX0_squareTo 2 (some .long) 1 := ⟨⟨(tq_4 58 (by decide +kernel) rfl), (tq_4 60 (by decide +kernel) rfl), (tq_s 18 3 (by decide +kernel)), (tq_1 20 (by decide +kernel) rfl), (tq_4 61 (by decide +kernel) rfl)⟩, ⟨by decide +kernel, by decide +kernel, by decide +kernel⟩⟩
theorem fX1_9 : gx_fld RX1 9 6 0 RX1 TX1 6 "StandTests$Load" := ⟨inX1, rfl, by decide, (tq_1 105 (by decide +kernel) rfl), Or.inl rfl⟩
theorem fX1_15 : gx_fld RX1 15 6 1 RX1 TX1 6 "StandTests$Load" := ⟨inX1, rfl, by decide, (tq_1 107 (by decide +kernel) rfl), Or.inl rfl⟩
theorem fX1_18 : gx_fld RX1 18 6 2 RX1 TX1 6 "StandTests$Load" := ⟨inX1, rfl, by decide, (tq_1 109 (by decide +kernel) rfl), Or.inl rfl⟩
theorem fX1_21 : gx_fld RX1 21 6 3 RX1 TX1 6 "StandTests$Load" := ⟨inX1, rfl, by decide, (tq_1 110 (by decide +kernel) rfl), Or.inl rfl⟩
theorem fX1_24 : gx_fld RX1 24 6 4 RX1 TX1 6 "StandTests$Load" := ⟨inX1, rfl, by decide, (tq_1 112 (by decide +kernel) rfl), Or.inl rfl⟩
theorem fX1_28 : gx_fld RX1 28 6 5 RX1 TX1 6 "StandTests$Load" := ⟨inX1, rfl, by decide, (tq_1 114 (by decide +kernel) rfl), Or.inl rfl⟩
theorem sX1_31n : gx_sVN RX1 31 yX2_turnTo "StandTests" cX2_turnTo 5 (some .long) 2 := ⟨⟨List.mem_of_getElem? (i := 10) (by decide +kernel), (tq_4 164 (by decide +kernel) rfl), (tq_s 24 2 (by decide +kernel)), (tq_1 23 (by decide +kernel) rfl), (tq_4 165 (by decide +kernel) rfl)⟩, ⟨by decide +kernel, by decide +kernel, by decide +kernel⟩⟩
theorem fX2_7 : gx_fld RX2 7 7 0 RX2 TX2 2 "StandTests$Side" := ⟨inX2, rfl, by decide, (tq_4 68 (by decide +kernel) rfl), Or.inl rfl⟩
theorem fX2_13 : gx_fld RX2 13 7 1 RX2 TX2 2 "StandTests$Side" := ⟨inX2, rfl, by decide, (tq_4 70 (by decide +kernel) rfl), Or.inl rfl⟩
theorem fX2_16n : gx_fldN RX2 16 5 1 RX0 TX0 3 "StandTests$Foot" "StandTests" := ⟨inX0, rfl, by decide, List.mem_of_getElem? (i := 11) (by decide +kernel), rfl⟩
theorem fX2_22n : gx_fldN RX2 22 5 2 RX0 TX0 3 "StandTests$Foot" "StandTests" := ⟨inX0, rfl, by decide, List.mem_of_getElem? (i := 12) (by decide +kernel), rfl⟩
theorem fX3_7 : gx_fld RX3 7 8 0 RX3 TX3 2 "StandTests$Trial" := ⟨inX3, rfl, by decide, (tq_2 92 (by decide +kernel) rfl), Or.inl rfl⟩
theorem fX3_13 : gx_fld RX3 13 8 1 RX3 TX3 2 "StandTests$Trial" := ⟨inX3, rfl, by decide, (tq_2 94 (by decide +kernel) rfl), Or.inl rfl⟩
theorem fX4_9 : gx_fld RX4 9 9 0 RX4 TX4 4 "StandTests$TrialReader" := ⟨inX4, rfl, by decide, (tq_2 32 (by decide +kernel) rfl), Or.inl rfl⟩
theorem sX4_17 : gx_sI RX4 17 yJx4a65c_init_da8c8 cJx4a65c_init_da8c8 1 0 := ⟨⟨(tq_2 31 (by decide +kernel) rfl), (tq_1 43 (by decide +kernel) rfl), (tq_1 4 (by decide +kernel) rfl), (tq_1 44 (by decide +kernel) rfl)⟩, rfl, ⟨by decide +kernel, by decide +kernel, by decide +kernel⟩⟩
theorem fX4_18 : gx_fld RX4 18 9 1 RX4 TX4 4 "StandTests$TrialReader" := ⟨inX4, rfl, by decide, (tq_2 33 (by decide +kernel) rfl), Or.inl rfl⟩
theorem fX4_22 : gx_fld RX4 22 9 2 RX4 TX4 4 "StandTests$TrialReader" := ⟨inX4, rfl, by decide, (tq_2 35 (by decide +kernel) rfl), Or.inl rfl⟩
theorem fX4_26 : gx_fld RX4 26 9 3 RX4 TX4 4 "StandTests$TrialReader" := ⟨inX4, rfl, by decide, (tq_2 37 (by decide +kernel) rfl), Or.inl rfl⟩
theorem sX4_29 : gx_sV RX4 29 yX4_skip cX4_skip 2 (some .boolean) 1 := ⟨⟨(tq_2 51 (by decide +kernel) rfl), (tq_2 53 (by decide +kernel) rfl), (tq_s 1 4 (by decide +kernel)), (tq_1 26 (by decide +kernel) rfl), (tq_2 54 (by decide +kernel) rfl)⟩, ⟨by decide +kernel, by decide +kernel, by decide +kernel⟩⟩
theorem sX4_33 : gx_sV RX4 33 yX4_readTrial cX4_readTrial 4 (some .boolean) 0 := ⟨⟨(tq_2 68 (by decide +kernel) rfl), (tq_2 70 (by decide +kernel) rfl), (tq_s 2 4 (by decide +kernel)), (tq_1 26 (by decide +kernel) rfl), (tq_2 71 (by decide +kernel) rfl)⟩, ⟨by decide +kernel, by decide +kernel, by decide +kernel⟩⟩
theorem sX4_37 : gx_sV RX4 37 yJ4_length_8abf5 cJ4_length_8abf5 1 (some .int) 0 := ⟨⟨(tq_2 55 (by decide +kernel) rfl), (tq_1 159 (by decide +kernel) rfl), (tq_1 160 (by decide +kernel) rfl), (tq_1 6 (by decide +kernel) rfl), (tq_1 161 (by decide +kernel) rfl)⟩, ⟨by decide +kernel, by decide +kernel, by decide +kernel⟩⟩
theorem sX4_43 : gx_sV RX4 43 yX4_readSigned cX4_readSigned 3 (some .boolean) 0 := ⟨⟨(tq_2 72 (by decide +kernel) rfl), (tq_2 74 (by decide +kernel) rfl), (tq_s 3 4 (by decide +kernel)), (tq_1 26 (by decide +kernel) rfl), (tq_2 75 (by decide +kernel) rfl)⟩, ⟨by decide +kernel, by decide +kernel, by decide +kernel⟩⟩
theorem sX4_46 : gx_sV RX4 46 yX4_readDigits cX4_readDigits 3 (some .boolean) 0 := ⟨⟨(tq_2 76 (by decide +kernel) rfl), (tq_2 78 (by decide +kernel) rfl), (tq_s 4 4 (by decide +kernel)), (tq_1 26 (by decide +kernel) rfl), (tq_2 79 (by decide +kernel) rfl)⟩, ⟨by decide +kernel, by decide +kernel, by decide +kernel⟩⟩
theorem sX4_53n : gx_sIN RX4 53 yX1_init "StandTests" cX1_init 9 4 := ⟨⟨List.mem_of_getElem? (i := 11) (by decide +kernel), (tq_1 102 (by decide +kernel) rfl), (tq_1 9 (by decide +kernel) rfl), (tq_1 103 (by decide +kernel) rfl)⟩, rfl, ⟨by decide +kernel, by decide +kernel, by decide +kernel⟩⟩
theorem sX4_56n : gx_sIN RX4 56 yX3_init "StandTests" cX3_init 3 2 := ⟨⟨List.mem_of_getElem? (i := 12) (by decide +kernel), (tq_2 89 (by decide +kernel) rfl), (tq_1 27 (by decide +kernel) rfl), (tq_2 90 (by decide +kernel) rfl)⟩, rfl, ⟨by decide +kernel, by decide +kernel, by decide +kernel⟩⟩
theorem sX4_59 : gx_sV RX4 59 yJx4a65c_add_9ea2d cJx4a65c_add_9ea2d 2 (some .boolean) 1 := ⟨⟨(tq_2 101 (by decide +kernel) rfl), (tq_2 102 (by decide +kernel) rfl), (tq_2 103 (by decide +kernel) rfl), (tq_1 4 (by decide +kernel) rfl), (tq_2 104 (by decide +kernel) rfl)⟩, ⟨by decide +kernel, by decide +kernel, by decide +kernel⟩⟩
theorem sX4_63 : gx_sV RX4 63 yX4_digitHere cX4_digitHere 2 (some .int) 0 := ⟨⟨(tq_2 80 (by decide +kernel) rfl), (tq_2 82 (by decide +kernel) rfl), (tq_s 5 4 (by decide +kernel)), (tq_1 26 (by decide +kernel) rfl), (tq_2 83 (by decide +kernel) rfl)⟩, ⟨by decide +kernel, by decide +kernel, by decide +kernel⟩⟩
theorem sX4_66 : gx_sV RX4 66 yJ4_charAt_5068e cJ4_charAt_5068e 2 (some .char) 1 := ⟨⟨(tq_2 56 (by decide +kernel) rfl), (tq_2 57 (by decide +kernel) rfl), (tq_2 58 (by decide +kernel) rfl), (tq_1 6 (by decide +kernel) rfl), (tq_2 59 (by decide +kernel) rfl)⟩, ⟨by decide +kernel, by decide +kernel, by decide +kernel⟩⟩
theorem sX5_9 : gx_sI RX5 9 yJx4a65c_init_da8c8 cJx4a65c_init_da8c8 1 0 := ⟨⟨(tq_1 42 (by decide +kernel) rfl), (tq_1 43 (by decide +kernel) rfl), (tq_1 4 (by decide +kernel) rfl), (tq_1 44 (by decide +kernel) rfl)⟩, rfl, ⟨by decide +kernel, by decide +kernel, by decide +kernel⟩⟩
theorem fX5_10 : gx_fld RX5 10 10 0 RX5 TX5 8 "StandTests" := ⟨inX5, rfl, by decide, (tq_1 129 (by decide +kernel) rfl), Or.inl rfl⟩
theorem fX5_16 : gx_fld RX5 16 10 1 RX5 TX5 8 "StandTests" := ⟨inX5, rfl, by decide, (tq_1 130 (by decide +kernel) rfl), Or.inl rfl⟩
theorem fX5_19 : gx_fld RX5 19 10 2 RX5 TX5 8 "StandTests" := ⟨inX5, rfl, by decide, (tq_1 131 (by decide +kernel) rfl), Or.inl rfl⟩
theorem sX5_24 : gx_sI RX5 24 yJ4_init_da8c8 cJ4_init_da8c8 1 0 := ⟨⟨(tq_1 68 (by decide +kernel) rfl), (tq_1 69 (by decide +kernel) rfl), (tq_1 6 (by decide +kernel) rfl), (tq_1 70 (by decide +kernel) rfl)⟩, rfl, ⟨by decide +kernel, by decide +kernel, by decide +kernel⟩⟩
theorem fX5_25 : gx_fld RX5 25 10 3 RX5 TX5 8 "StandTests" := ⟨inX5, rfl, by decide, (tq_1 132 (by decide +kernel) rfl), Or.inl rfl⟩
theorem sX5_31n : gx_sIN RX5 31 yX1_init "StandTests" cX1_init 9 4 := ⟨⟨List.mem_of_getElem? (i := 8) (by decide +kernel), (tq_1 102 (by decide +kernel) rfl), (tq_1 9 (by decide +kernel) rfl), (tq_1 103 (by decide +kernel) rfl)⟩, rfl, ⟨by decide +kernel, by decide +kernel, by decide +kernel⟩⟩
theorem fX5_34 : gx_fld RX5 34 10 4 RX5 TX5 8 "StandTests" := ⟨inX5, rfl, by decide, (tq_1 133 (by decide +kernel) rfl), Or.inl rfl⟩
theorem fX5_38 : gx_fld RX5 38 10 5 RX5 TX5 8 "StandTests" := ⟨inX5, rfl, by decide, (tq_1 134 (by decide +kernel) rfl), Or.inl rfl⟩
theorem fX5_41 : gx_fld RX5 41 10 6 RX5 TX5 8 "StandTests" := ⟨inX5, rfl, by decide, (tq_1 135 (by decide +kernel) rfl), Or.inl rfl⟩
theorem fX5_44 : gx_fld RX5 44 10 7 RX5 TX5 8 "StandTests" := ⟨inX5, rfl, by decide, (tq_1 136 (by decide +kernel) rfl), Or.inl rfl⟩
theorem sX5_48 : gx_sV RX5 48 yJx4a65c_size_8abf5 cJx4a65c_size_8abf5 1 (some .int) 0 := ⟨⟨(tq_3 170 (by decide +kernel) rfl), (tq_3 171 (by decide +kernel) rfl), (tq_3 172 (by decide +kernel) rfl), (tq_1 4 (by decide +kernel) rfl), (tq_3 173 (by decide +kernel) rfl)⟩, ⟨by decide +kernel, by decide +kernel, by decide +kernel⟩⟩
theorem sX5_59 : gx_sS RX5 59 yX5_needPlace cX5_needPlace 2 none 1 := ⟨⟨(tq_3 207 (by decide +kernel) rfl), (tq_3 208 (by decide +kernel) rfl), (tq_1 1 (by decide +kernel) rfl), (tq_3 209 (by decide +kernel) rfl)⟩, ⟨by decide +kernel, by decide +kernel, by decide +kernel⟩⟩
theorem sX5_63 : gx_sS RX5 63 yX5_needGrams cX5_needGrams 2 none 1 := ⟨⟨(tq_3 218 (by decide +kernel) rfl), (tq_3 219 (by decide +kernel) rfl), (tq_1 1 (by decide +kernel) rfl), (tq_3 220 (by decide +kernel) rfl)⟩, ⟨by decide +kernel, by decide +kernel, by decide +kernel⟩⟩
theorem sX5_66 : gx_sV RX5 66 yJx4a65c_add_9ea2d cJx4a65c_add_9ea2d 2 (some .boolean) 1 := ⟨⟨(tq_3 223 (by decide +kernel) rfl), (tq_2 102 (by decide +kernel) rfl), (tq_2 103 (by decide +kernel) rfl), (tq_1 4 (by decide +kernel) rfl), (tq_2 104 (by decide +kernel) rfl)⟩, ⟨by decide +kernel, by decide +kernel, by decide +kernel⟩⟩
theorem sX5_72n : gx_sIN RX5 72 yX0_init "StandTests" cX0_init 6 3 := ⟨⟨List.mem_of_getElem? (i := 9) (by decide +kernel), (tq_3 234 (by decide +kernel) rfl), (tq_1 20 (by decide +kernel) rfl), (tq_3 235 (by decide +kernel) rfl)⟩, rfl, ⟨by decide +kernel, by decide +kernel, by decide +kernel⟩⟩
theorem sX5_75 : gx_sV RX5 75 yX5_layOutSides cX5_layOutSides 6 none 1 := ⟨⟨(tq_4 10 (by decide +kernel) rfl), (tq_4 12 (by decide +kernel) rfl), (tq_s 10 8 (by decide +kernel)), (tq_1 1 (by decide +kernel) rfl), (tq_4 13 (by decide +kernel) rfl)⟩, ⟨by decide +kernel, by decide +kernel, by decide +kernel⟩⟩
theorem sX5_86 : gx_sS RX5 86 yX5_isWithin cX5_isWithin 6 (some .boolean) 3 := ⟨⟨(tq_3 212 (by decide +kernel) rfl), (tq_3 213 (by decide +kernel) rfl), (tq_1 1 (by decide +kernel) rfl), (tq_3 214 (by decide +kernel) rfl)⟩, ⟨by decide +kernel, by decide +kernel, by decide +kernel⟩⟩
theorem sX5_95 : gx_sV RX5 95 yJx4a65c_get_915e3 cJx4a65c_get_915e3 2 (some (.object "java/lang/Object")) 1 := ⟨⟨(tq_4 22 (by decide +kernel) rfl), (tq_4 23 (by decide +kernel) rfl), (tq_4 24 (by decide +kernel) rfl), (tq_1 4 (by decide +kernel) rfl), (tq_4 25 (by decide +kernel) rfl)⟩, ⟨by decide +kernel, by decide +kernel, by decide +kernel⟩⟩
theorem fX5_99n : gx_fldN RX5 99 6 4 RX1 TX1 6 "StandTests$Load" "StandTests" := ⟨inX1, rfl, by decide, List.mem_of_getElem? (i := 10) (by decide +kernel), rfl⟩
theorem fX5_102n : gx_fldN RX5 102 6 5 RX1 TX1 6 "StandTests$Load" "StandTests" := ⟨inX1, rfl, by decide, List.mem_of_getElem? (i := 0) (by decide +kernel), rfl⟩
theorem fX5_106n : gx_fldN RX5 106 6 0 RX1 TX1 6 "StandTests$Load" "StandTests" := ⟨inX1, rfl, by decide, List.mem_of_getElem? (i := 1) (by decide +kernel), rfl⟩
theorem fX5_109n : gx_fldN RX5 109 6 1 RX1 TX1 6 "StandTests$Load" "StandTests" := ⟨inX1, rfl, by decide, List.mem_of_getElem? (i := 2) (by decide +kernel), rfl⟩
theorem fX5_112n : gx_fldN RX5 112 6 3 RX1 TX1 6 "StandTests$Load" "StandTests" := ⟨inX1, rfl, by decide, List.mem_of_getElem? (i := 3) (by decide +kernel), rfl⟩
theorem sX5_119n : gx_sVN RX5 119 yX1_placeOn "StandTests" cX1_placeOn 2 (some .long) 1 := ⟨⟨List.mem_of_getElem? (i := 0) (by decide +kernel), (tq_4 116 (by decide +kernel) rfl), (tq_s 19 6 (by decide +kernel)), (tq_1 9 (by decide +kernel) rfl), (tq_4 117 (by decide +kernel) rfl)⟩, ⟨by decide +kernel, by decide +kernel, by decide +kernel⟩⟩
theorem sX5_125 : gx_sS RX5 125 yJ9_abs_067f4 cJ9_abs_067f4 2 (some .long) 1 := ⟨⟨(tq_4 119 (by decide +kernel) rfl), (tq_4 120 (by decide +kernel) rfl), (tq_1 17 (by decide +kernel) rfl), (tq_4 121 (by decide +kernel) rfl)⟩, ⟨by decide +kernel, by decide +kernel, by decide +kernel⟩⟩
theorem sX5_131 : gx_sS RX5 131 yX5_commonDivisor cX5_commonDivisor 11 (some .long) 2 := ⟨⟨(tq_4 122 (by decide +kernel) rfl), (tq_4 123 (by decide +kernel) rfl), (tq_1 1 (by decide +kernel) rfl), (tq_4 124 (by decide +kernel) rfl)⟩, ⟨by decide +kernel, by decide +kernel, by decide +kernel⟩⟩
theorem sX5_135 : gx_sV RX5 135 yX5_needPolygon cX5_needPolygon 1 none 0 := ⟨⟨(tq_4 132 (by decide +kernel) rfl), (tq_4 134 (by decide +kernel) rfl), (tq_s 20 8 (by decide +kernel)), (tq_1 1 (by decide +kernel) rfl), (tq_4 135 (by decide +kernel) rfl)⟩, ⟨by decide +kernel, by decide +kernel, by decide +kernel⟩⟩
theorem fX5_142n : gx_fldN RX5 142 7 0 RX2 TX2 2 "StandTests$Side" "StandTests" := ⟨inX2, rfl, by decide, List.mem_of_getElem? (i := 4) (by decide +kernel), rfl⟩
theorem fX5_146n : gx_fldN RX5 146 5 0 RX0 TX0 3 "StandTests$Foot" "StandTests" := ⟨inX0, rfl, by decide, List.mem_of_getElem? (i := 5) (by decide +kernel), rfl⟩
theorem sX5_151 : gx_sV RX5 151 yX5_verdict cX5_verdict 4 (some .int) 2 := ⟨⟨(tq_4 150 (by decide +kernel) rfl), (tq_4 152 (by decide +kernel) rfl), (tq_s 21 8 (by decide +kernel)), (tq_1 1 (by decide +kernel) rfl), (tq_4 153 (by decide +kernel) rfl)⟩, ⟨by decide +kernel, by decide +kernel, by decide +kernel⟩⟩
theorem sX5_157 : gx_sV RX5 157 yX5_momentOver cX5_momentOver 7 (some .long) 3 := ⟨⟨(tq_4 154 (by decide +kernel) rfl), (tq_4 156 (by decide +kernel) rfl), (tq_s 22 8 (by decide +kernel)), (tq_1 1 (by decide +kernel) rfl), (tq_4 157 (by decide +kernel) rfl)⟩, ⟨by decide +kernel, by decide +kernel, by decide +kernel⟩⟩
theorem sX5_161 : gx_sV RX5 161 yJ4_length_8abf5 cJ4_length_8abf5 1 (some .int) 0 := ⟨⟨(tq_1 158 (by decide +kernel) rfl), (tq_1 159 (by decide +kernel) rfl), (tq_1 160 (by decide +kernel) rfl), (tq_1 6 (by decide +kernel) rfl), (tq_1 161 (by decide +kernel) rfl)⟩, ⟨by decide +kernel, by decide +kernel, by decide +kernel⟩⟩
theorem sX5_164 : gx_sV RX5 164 yJ4_append_cf468 cJ4_append_cf468 2 (some (.object "java/lang/StringBuilder")) 1 := ⟨⟨(tq_1 165 (by decide +kernel) rfl), (tq_1 166 (by decide +kernel) rfl), (tq_1 167 (by decide +kernel) rfl), (tq_1 6 (by decide +kernel) rfl), (tq_1 168 (by decide +kernel) rfl)⟩, ⟨by decide +kernel, by decide +kernel, by decide +kernel⟩⟩
theorem sX5_170n : gx_sIN RX5 170 yX4_init "StandTests" cX4_init 2 1 := ⟨⟨List.mem_of_getElem? (i := 1) (by decide +kernel), (tq_2 27 (by decide +kernel) rfl), (tq_1 26 (by decide +kernel) rfl), (tq_2 28 (by decide +kernel) rfl)⟩, rfl, ⟨by decide +kernel, by decide +kernel, by decide +kernel⟩⟩
theorem sX5_173n : gx_sVN RX5 173 yX4_readTrials "StandTests" cX4_readTrials 2 (some .boolean) 0 := ⟨⟨List.mem_of_getElem? (i := 2) (by decide +kernel), (tq_2 49 (by decide +kernel) rfl), (tq_s 0 4 (by decide +kernel)), (tq_1 26 (by decide +kernel) rfl), (tq_2 50 (by decide +kernel) rfl)⟩, ⟨by decide +kernel, by decide +kernel, by decide +kernel⟩⟩
theorem sX5_177 : gx_sV RX5 177 yJ4_setLength_d00df cJ4_setLength_d00df 2 none 1 := ⟨⟨(tq_2 148 (by decide +kernel) rfl), (tq_2 149 (by decide +kernel) rfl), (tq_2 150 (by decide +kernel) rfl), (tq_1 6 (by decide +kernel) rfl), (tq_2 151 (by decide +kernel) rfl)⟩, ⟨by decide +kernel, by decide +kernel, by decide +kernel⟩⟩
theorem fX5_181n : gx_fldN RX5 181 9 2 RX4 TX4 4 "StandTests$TrialReader" "StandTests" := ⟨inX4, rfl, by decide, List.mem_of_getElem? (i := 6) (by decide +kernel), rfl⟩
theorem fX5_184n : gx_fldN RX5 184 9 1 RX4 TX4 4 "StandTests$TrialReader" "StandTests" := ⟨inX4, rfl, by decide, List.mem_of_getElem? (i := 7) (by decide +kernel), rfl⟩
theorem fX5_191n : gx_fldN RX5 191 8 0 RX3 TX3 2 "StandTests$Trial" "StandTests" := ⟨inX3, rfl, by decide, List.mem_of_getElem? (i := 8) (by decide +kernel), rfl⟩
theorem sX5_194 : gx_sV RX5 194 yX5_openDrawers cX5_openDrawers 2 (some .int) 1 := ⟨⟨(tq_4 191 (by decide +kernel) rfl), (tq_4 193 (by decide +kernel) rfl), (tq_s 25 8 (by decide +kernel)), (tq_1 1 (by decide +kernel) rfl), (tq_4 194 (by decide +kernel) rfl)⟩, ⟨by decide +kernel, by decide +kernel, by decide +kernel⟩⟩
theorem sX5_200n : gx_sVN RX5 200 yX0_turn "StandTests" cX0_turn 3 (some .long) 2 := ⟨⟨List.mem_of_getElem? (i := 3) (by decide +kernel), (tq_4 56 (by decide +kernel) rfl), (tq_s 17 3 (by decide +kernel)), (tq_1 20 (by decide +kernel) rfl), (tq_4 57 (by decide +kernel) rfl)⟩, ⟨by decide +kernel, by decide +kernel, by decide +kernel⟩⟩
theorem sX5_206 : gx_sS RX5 206 yX5_needHeight cX5_needHeight 2 none 1 := ⟨⟨(tq_4 212 (by decide +kernel) rfl), (tq_4 213 (by decide +kernel) rfl), (tq_1 1 (by decide +kernel) rfl), (tq_4 214 (by decide +kernel) rfl)⟩, ⟨by decide +kernel, by decide +kernel, by decide +kernel⟩⟩
theorem sX5_211 : gx_sS RX5 211 yX5_isSize cX5_isSize 6 (some .boolean) 3 := ⟨⟨(tq_4 226 (by decide +kernel) rfl), (tq_4 227 (by decide +kernel) rfl), (tq_1 1 (by decide +kernel) rfl), (tq_4 228 (by decide +kernel) rfl)⟩, ⟨by decide +kernel, by decide +kernel, by decide +kernel⟩⟩
theorem sX5_251 : gx_sV RX5 251 yJx4a65c_isEmpty_aae02 cJx4a65c_isEmpty_aae02 1 (some .boolean) 0 := ⟨⟨(tq_4 136 (by decide +kernel) rfl), (tq_4 137 (by decide +kernel) rfl), (tq_4 138 (by decide +kernel) rfl), (tq_1 4 (by decide +kernel) rfl), (tq_4 139 (by decide +kernel) rfl)⟩, ⟨by decide +kernel, by decide +kernel, by decide +kernel⟩⟩
theorem fX5_256n : gx_fldN RX5 256 8 1 RX3 TX3 2 "StandTests$Trial" "StandTests" := ⟨inX3, rfl, by decide, List.mem_of_getElem? (i := 9) (by decide +kernel), rfl⟩
theorem sX5_259n : gx_sVN RX5 259 yX1_momentAbout "StandTests" cX1_momentAbout 4 (some .long) 2 := ⟨⟨List.mem_of_getElem? (i := 4) (by decide +kernel), (tq_4 160 (by decide +kernel) rfl), (tq_s 23 6 (by decide +kernel)), (tq_1 9 (by decide +kernel) rfl), (tq_4 161 (by decide +kernel) rfl)⟩, ⟨by decide +kernel, by decide +kernel, by decide +kernel⟩⟩
theorem sX5_263 : gx_sV RX5 263 yJx4a65c_clear_da8c8 cJx4a65c_clear_da8c8 4 none 0 := ⟨⟨(tq_4 14 (by decide +kernel) rfl), (tq_4 15 (by decide +kernel) rfl), (tq_4 16 (by decide +kernel) rfl), (tq_1 4 (by decide +kernel) rfl), (tq_4 17 (by decide +kernel) rfl)⟩, ⟨by decide +kernel, by decide +kernel, by decide +kernel⟩⟩
theorem sX5_266 : gx_sV RX5 266 yX5_firstCorner cX5_firstCorner 5 (some (.object "StandTests$Foot")) 1 := ⟨⟨(tq_4 18 (by decide +kernel) rfl), (tq_4 20 (by decide +kernel) rfl), (tq_s 11 8 (by decide +kernel)), (tq_1 1 (by decide +kernel) rfl), (tq_4 21 (by decide +kernel) rfl)⟩, ⟨by decide +kernel, by decide +kernel, by decide +kernel⟩⟩
theorem sX5_270 : gx_sV RX5 270 yX5_cornersAgainstClock cX5_cornersAgainstClock 5 (some (.object "java/util/ArrayList")) 1 := ⟨⟨(tq_4 38 (by decide +kernel) rfl), (tq_4 40 (by decide +kernel) rfl), (tq_s 13 8 (by decide +kernel)), (tq_1 1 (by decide +kernel) rfl), (tq_4 41 (by decide +kernel) rfl)⟩, ⟨by decide +kernel, by decide +kernel, by decide +kernel⟩⟩
theorem sX5_274n : gx_sIN RX5 274 yX2_init "StandTests" cX2_init 3 2 := ⟨⟨List.mem_of_getElem? (i := 5) (by decide +kernel), (tq_4 65 (by decide +kernel) rfl), (tq_1 23 (by decide +kernel) rfl), (tq_4 66 (by decide +kernel) rfl)⟩, rfl, ⟨by decide +kernel, by decide +kernel, by decide +kernel⟩⟩
theorem sX5_277n : gx_sVN RX5 277 yX0_isBefore "StandTests" cX0_isBefore 2 (some .boolean) 1 := ⟨⟨List.mem_of_getElem? (i := 6) (by decide +kernel), (tq_4 36 (by decide +kernel) rfl), (tq_s 12 3 (by decide +kernel)), (tq_1 20 (by decide +kernel) rfl), (tq_4 37 (by decide +kernel) rfl)⟩, ⟨by decide +kernel, by decide +kernel, by decide +kernel⟩⟩
theorem sX5_281 : gx_sV RX5 281 yX5_cornerAfter cX5_cornerAfter 5 (some (.object "StandTests$Foot")) 1 := ⟨⟨(tq_4 42 (by decide +kernel) rfl), (tq_4 44 (by decide +kernel) rfl), (tq_s 14 8 (by decide +kernel)), (tq_1 1 (by decide +kernel) rfl), (tq_4 45 (by decide +kernel) rfl)⟩, ⟨by decide +kernel, by decide +kernel, by decide +kernel⟩⟩
theorem sX5_284n : gx_sVN RX5 284 yX0_seesMoreRightOf "StandTests" cX0_seesMoreRightOf 5 (some .boolean) 2 := ⟨⟨List.mem_of_getElem? (i := 7) (by decide +kernel), (tq_4 48 (by decide +kernel) rfl), (tq_s 15 3 (by decide +kernel)), (tq_1 20 (by decide +kernel) rfl), (tq_4 49 (by decide +kernel) rfl)⟩, ⟨by decide +kernel, by decide +kernel, by decide +kernel⟩⟩
theorem fX6_7 : gx_fld RX6 7 11 2 RX6 TX6 24 "StandTestsModel" := ⟨inX6, rfl, by decide, (tq_5 11 (by decide +kernel) rfl), Or.inl rfl⟩
theorem fX6_13 : gx_fld RX6 13 11 3 RX6 TX6 24 "StandTestsModel" := ⟨inX6, rfl, by decide, (tq_5 12 (by decide +kernel) rfl), Or.inl rfl⟩
theorem fX6_16 : gx_fld RX6 16 11 4 RX6 TX6 24 "StandTestsModel" := ⟨inX6, rfl, by decide, (tq_5 13 (by decide +kernel) rfl), Or.inl rfl⟩
theorem fX6_19 : gx_fld RX6 19 11 5 RX6 TX6 24 "StandTestsModel" := ⟨inX6, rfl, by decide, (tq_5 14 (by decide +kernel) rfl), Or.inl rfl⟩
theorem fX6_22 : gx_fld RX6 22 11 6 RX6 TX6 24 "StandTestsModel" := ⟨inX6, rfl, by decide, (tq_5 15 (by decide +kernel) rfl), Or.inl rfl⟩
theorem fX6_25 : gx_fld RX6 25 11 8 RX6 TX6 24 "StandTestsModel" := ⟨inX6, rfl, by decide, (tq_5 17 (by decide +kernel) rfl), Or.inl rfl⟩
theorem fX6_28 : gx_fld RX6 28 11 9 RX6 TX6 24 "StandTestsModel" := ⟨inX6, rfl, by decide, (tq_5 18 (by decide +kernel) rfl), Or.inl rfl⟩
theorem fX6_31 : gx_fld RX6 31 11 11 RX6 TX6 24 "StandTestsModel" := ⟨inX6, rfl, by decide, (tq_5 20 (by decide +kernel) rfl), Or.inl rfl⟩
theorem fX6_35 : gx_fld RX6 35 11 16 RX6 TX6 24 "StandTestsModel" := ⟨inX6, rfl, by decide, (tq_5 25 (by decide +kernel) rfl), Or.inl rfl⟩
theorem fX6_38 : gx_fld RX6 38 11 17 RX6 TX6 24 "StandTestsModel" := ⟨inX6, rfl, by decide, (tq_5 26 (by decide +kernel) rfl), Or.inl rfl⟩
theorem fX6_41 : gx_fld RX6 41 11 22 RX6 TX6 24 "StandTestsModel" := ⟨inX6, rfl, by decide, (tq_5 31 (by decide +kernel) rfl), Or.inl rfl⟩
theorem fX6_44 : gx_fld RX6 44 11 23 RX6 TX6 24 "StandTestsModel" := ⟨inX6, rfl, by decide, (tq_5 32 (by decide +kernel) rfl), Or.inl rfl⟩
theorem fX6_47 : gx_fld RX6 47 11 0 RX6 TX6 24 "StandTestsModel" := ⟨inX6, rfl, by decide, (tq_5 9 (by decide +kernel) rfl), Or.inl rfl⟩
theorem sX6_55 : gx_sS RX6 55 yX6_isPlace cX6_isPlace 2 (some .boolean) 1 := ⟨⟨(tq_5 92 (by decide +kernel) rfl), (tq_5 93 (by decide +kernel) rfl), (tq_1 10 (by decide +kernel) rfl), (tq_5 94 (by decide +kernel) rfl)⟩, ⟨by decide +kernel, by decide +kernel, by decide +kernel⟩⟩
theorem sX6_61 : gx_sS RX6 61 yX6_isIn cX6_isIn 6 (some .boolean) 3 := ⟨⟨(tq_5 98 (by decide +kernel) rfl), (tq_5 99 (by decide +kernel) rfl), (tq_1 10 (by decide +kernel) rfl), (tq_5 100 (by decide +kernel) rfl)⟩, ⟨by decide +kernel, by decide +kernel, by decide +kernel⟩⟩
theorem fX6_65 : gx_fld RX6 65 11 1 RX6 TX6 24 "StandTestsModel" := ⟨inX6, rfl, by decide, (tq_5 10 (by decide +kernel) rfl), Or.inl rfl⟩
theorem fX6_68 : gx_fld RX6 68 11 7 RX6 TX6 24 "StandTestsModel" := ⟨inX6, rfl, by decide, (tq_5 16 (by decide +kernel) rfl), Or.inl rfl⟩
theorem sX6_71 : gx_sV RX6 71 yX6_wind cX6_wind 4 none 0 := ⟨⟨(tq_5 105 (by decide +kernel) rfl), (tq_5 107 (by decide +kernel) rfl), (tq_s 26 24 (by decide +kernel)), (tq_1 10 (by decide +kernel) rfl), (tq_5 108 (by decide +kernel) rfl)⟩, ⟨by decide +kernel, by decide +kernel, by decide +kernel⟩⟩
theorem fX6_74 : gx_fld RX6 74 11 10 RX6 TX6 24 "StandTestsModel" := ⟨inX6, rfl, by decide, (tq_5 19 (by decide +kernel) rfl), Or.inl rfl⟩
theorem fX6_77 : gx_fld RX6 77 11 12 RX6 TX6 24 "StandTestsModel" := ⟨inX6, rfl, by decide, (tq_5 21 (by decide +kernel) rfl), Or.inl rfl⟩
theorem fX6_81 : gx_fld RX6 81 11 13 RX6 TX6 24 "StandTestsModel" := ⟨inX6, rfl, by decide, (tq_5 22 (by decide +kernel) rfl), Or.inl rfl⟩
theorem fX6_84 : gx_fld RX6 84 11 14 RX6 TX6 24 "StandTestsModel" := ⟨inX6, rfl, by decide, (tq_5 23 (by decide +kernel) rfl), Or.inl rfl⟩
theorem sX6_87 : gx_sV RX6 87 yX6_turn cX6_turn 7 (some .long) 4 := ⟨⟨(tq_5 117 (by decide +kernel) rfl), (tq_5 119 (by decide +kernel) rfl), (tq_s 29 24 (by decide +kernel)), (tq_1 10 (by decide +kernel) rfl), (tq_5 120 (by decide +kernel) rfl)⟩, ⟨by decide +kernel, by decide +kernel, by decide +kernel⟩⟩
theorem sX6_91 : gx_sV RX6 91 yX6_isSide cX6_isSide 11 (some .boolean) 2 := ⟨⟨(tq_5 113 (by decide +kernel) rfl), (tq_5 115 (by decide +kernel) rfl), (tq_s 28 24 (by decide +kernel)), (tq_1 10 (by decide +kernel) rfl), (tq_5 116 (by decide +kernel) rfl)⟩, ⟨by decide +kernel, by decide +kernel, by decide +kernel⟩⟩
theorem fX6_95 : gx_fld RX6 95 11 15 RX6 TX6 24 "StandTestsModel" := ⟨inX6, rfl, by decide, (tq_5 24 (by decide +kernel) rfl), Or.inl rfl⟩
theorem sX6_98 : gx_sV RX6 98 yX6_next cX6_next 3 (some .int) 1 := ⟨⟨(tq_5 109 (by decide +kernel) rfl), (tq_5 111 (by decide +kernel) rfl), (tq_s 27 24 (by decide +kernel)), (tq_1 10 (by decide +kernel) rfl), (tq_5 112 (by decide +kernel) rfl)⟩, ⟨by decide +kernel, by decide +kernel, by decide +kernel⟩⟩
theorem sX6_102 : gx_sS RX6 102 yX6_common cX6_common 10 (some .long) 2 := ⟨⟨(tq_5 133 (by decide +kernel) rfl), (tq_5 134 (by decide +kernel) rfl), (tq_1 10 (by decide +kernel) rfl), (tq_5 135 (by decide +kernel) rfl)⟩, ⟨by decide +kernel, by decide +kernel, by decide +kernel⟩⟩
theorem sX6_106 : gx_sV RX6 106 yX6_isOut cX6_isOut 5 (some .boolean) 2 := ⟨⟨(tq_5 156 (by decide +kernel) rfl), (tq_5 158 (by decide +kernel) rfl), (tq_s 33 24 (by decide +kernel)), (tq_1 10 (by decide +kernel) rfl), (tq_5 159 (by decide +kernel) rfl)⟩, ⟨by decide +kernel, by decide +kernel, by decide +kernel⟩⟩
theorem sX6_109 : gx_sV RX6 109 yX6_momentOf cX6_momentOf 14 (some .long) 5 := ⟨⟨(tq_5 152 (by decide +kernel) rfl), (tq_5 154 (by decide +kernel) rfl), (tq_s 32 24 (by decide +kernel)), (tq_1 10 (by decide +kernel) rfl), (tq_5 155 (by decide +kernel) rfl)⟩, ⟨by decide +kernel, by decide +kernel, by decide +kernel⟩⟩
theorem sX6_113 : gx_sV RX6 113 yX6_noPolygon cX6_noPolygon 1 (some .boolean) 0 := ⟨⟨(tq_5 140 (by decide +kernel) rfl), (tq_5 142 (by decide +kernel) rfl), (tq_s 30 24 (by decide +kernel)), (tq_1 10 (by decide +kernel) rfl), (tq_5 143 (by decide +kernel) rfl)⟩, ⟨by decide +kernel, by decide +kernel, by decide +kernel⟩⟩
theorem sX6_117 : gx_sV RX6 117 yX6_tipping cX6_tipping 10 (some .int) 4 := ⟨⟨(tq_5 148 (by decide +kernel) rfl), (tq_5 150 (by decide +kernel) rfl), (tq_s 31 24 (by decide +kernel)), (tq_1 10 (by decide +kernel) rfl), (tq_5 151 (by decide +kernel) rfl)⟩, ⟨by decide +kernel, by decide +kernel, by decide +kernel⟩⟩
theorem fX6_121 : gx_fld RX6 121 11 18 RX6 TX6 24 "StandTestsModel" := ⟨inX6, rfl, by decide, (tq_5 27 (by decide +kernel) rfl), Or.inl rfl⟩
theorem fX6_124 : gx_fld RX6 124 11 19 RX6 TX6 24 "StandTestsModel" := ⟨inX6, rfl, by decide, (tq_5 28 (by decide +kernel) rfl), Or.inl rfl⟩
theorem fX6_127 : gx_fld RX6 127 11 20 RX6 TX6 24 "StandTestsModel" := ⟨inX6, rfl, by decide, (tq_5 29 (by decide +kernel) rfl), Or.inl rfl⟩
theorem sX6_130 : gx_sV RX6 130 yX6_here cX6_here 1 (some .int) 0 := ⟨⟨(tq_5 180 (by decide +kernel) rfl), (tq_5 182 (by decide +kernel) rfl), (tq_s 35 24 (by decide +kernel)), (tq_1 10 (by decide +kernel) rfl), (tq_5 183 (by decide +kernel) rfl)⟩, ⟨by decide +kernel, by decide +kernel, by decide +kernel⟩⟩
theorem sX6_134 : gx_sV RX6 134 yX6_fail cX6_fail 1 none 0 := ⟨⟨(tq_5 184 (by decide +kernel) rfl), (tq_5 186 (by decide +kernel) rfl), (tq_s 36 24 (by decide +kernel)), (tq_1 10 (by decide +kernel) rfl), (tq_5 187 (by decide +kernel) rfl)⟩, ⟨by decide +kernel, by decide +kernel, by decide +kernel⟩⟩
theorem sX6_137 : gx_sV RX6 137 yX6_readNumber cX6_readNumber 5 (some .int) 1 := ⟨⟨(tq_5 188 (by decide +kernel) rfl), (tq_5 190 (by decide +kernel) rfl), (tq_s 37 24 (by decide +kernel)), (tq_1 10 (by decide +kernel) rfl), (tq_5 191 (by decide +kernel) rfl)⟩, ⟨by decide +kernel, by decide +kernel, by decide +kernel⟩⟩
theorem sX6_141 : gx_sV RX6 141 yX6_readTest cX6_readTest 3 none 1 := ⟨⟨(tq_5 176 (by decide +kernel) rfl), (tq_5 178 (by decide +kernel) rfl), (tq_s 34 24 (by decide +kernel)), (tq_1 10 (by decide +kernel) rfl), (tq_5 179 (by decide +kernel) rfl)⟩, ⟨by decide +kernel, by decide +kernel, by decide +kernel⟩⟩
theorem fX6_145 : gx_fld RX6 145 11 21 RX6 TX6 24 "StandTestsModel" := ⟨inX6, rfl, by decide, (tq_5 30 (by decide +kernel) rfl), Or.inl rfl⟩
theorem sX6_148 : gx_sV RX6 148 yX6_openIn cX6_openIn 2 (some .int) 1 := ⟨⟨(tq_5 200 (by decide +kernel) rfl), (tq_5 202 (by decide +kernel) rfl), (tq_s 39 24 (by decide +kernel)), (tq_1 10 (by decide +kernel) rfl), (tq_5 203 (by decide +kernel) rfl)⟩, ⟨by decide +kernel, by decide +kernel, by decide +kernel⟩⟩
theorem sX6_151 : gx_sV RX6 151 yX6_testAt cX6_testAt 2 (some .int) 1 := ⟨⟨(tq_5 196 (by decide +kernel) rfl), (tq_5 198 (by decide +kernel) rfl), (tq_s 38 24 (by decide +kernel)), (tq_1 10 (by decide +kernel) rfl), (tq_5 199 (by decide +kernel) rfl)⟩, ⟨by decide +kernel, by decide +kernel, by decide +kernel⟩⟩
theorem sX6_158 : gx_sV RX6 158 yX6_cross cX6_cross 3 (some .long) 2 := ⟨⟨(tq_5 214 (by decide +kernel) rfl), (tq_5 216 (by decide +kernel) rfl), (tq_s 40 24 (by decide +kernel)), (tq_1 10 (by decide +kernel) rfl), (tq_5 217 (by decide +kernel) rfl)⟩, ⟨by decide +kernel, by decide +kernel, by decide +kernel⟩⟩
theorem sX6_164 : gx_sS RX6 164 yX6_isNumber cX6_isNumber 6 (some .boolean) 3 := ⟨⟨(tq_5 223 (by decide +kernel) rfl), (tq_5 224 (by decide +kernel) rfl), (tq_1 10 (by decide +kernel) rfl), (tq_5 225 (by decide +kernel) rfl)⟩, ⟨by decide +kernel, by decide +kernel, by decide +kernel⟩⟩
theorem sJxc12de_1 : gx_sI RJxc12de 1 yJxa1e45_init_da8c8 cJxa1e45_init_da8c8 1 0 := ⟨⟨(tq_1 48 (by decide +kernel) rfl), (tq_1 49 (by decide +kernel) rfl), (tq_1 2 (by decide +kernel) rfl), (tq_1 50 (by decide +kernel) rfl)⟩, rfl, ⟨by decide +kernel, by decide +kernel, by decide +kernel⟩⟩
theorem fJxc12de_7 : gx_fld RJxc12de 7 4 0 RJx4a65c TJx4a65c 3 "java/util/AbstractList" := ⟨inJx4a65c, rfl, by decide, (tq_1 56 (by decide +kernel) rfl), Or.inl rfl⟩
theorem sJx4a65c_1 : gx_sI RJx4a65c 1 yJxc12de_init_da8c8 cJxc12de_init_da8c8 1 0 := ⟨⟨(tq_1 45 (by decide +kernel) rfl), (tq_1 46 (by decide +kernel) rfl), (tq_1 3 (by decide +kernel) rfl), (tq_1 47 (by decide +kernel) rfl)⟩, rfl, ⟨by decide +kernel, by decide +kernel, by decide +kernel⟩⟩
theorem fJx4a65c_9 : gx_fld RJx4a65c 9 4 1 RJx4a65c TJx4a65c 3 "java/util/ArrayList" := ⟨inJx4a65c, rfl, by decide, (tq_1 54 (by decide +kernel) rfl), Or.inl rfl⟩
theorem sJx4a65c_73 : gx_sS RJx4a65c 73 yJ8_newLength_cabcc cJ8_newLength_cabcc 4 (some .int) 3 := ⟨⟨(tq_2 117 (by decide +kernel) rfl), (tq_1 181 (by decide +kernel) rfl), (tq_1 16 (by decide +kernel) rfl), (tq_1 182 (by decide +kernel) rfl)⟩, ⟨by decide +kernel, by decide +kernel, by decide +kernel⟩⟩
theorem sJx4a65c_66 : gx_sS RJx4a65c 66 yJ7_copyOf_1904c cJ7_copyOf_1904c 2 (some (.array (.object "java/lang/Object"))) 2 := ⟨⟨(tq_2 118 (by decide +kernel) rfl), (tq_2 119 (by decide +kernel) rfl), (tq_1 18 (by decide +kernel) rfl), (tq_2 120 (by decide +kernel) rfl)⟩, ⟨by decide +kernel, by decide +kernel, by decide +kernel⟩⟩
theorem sJx4a65c_79 : gx_sS RJx4a65c 79 yJ9_max_7cf53 cJ9_max_7cf53 2 (some .int) 2 := ⟨⟨(tq_2 146 (by decide +kernel) rfl), (tq_1 184 (by decide +kernel) rfl), (tq_1 17 (by decide +kernel) rfl), (tq_1 185 (by decide +kernel) rfl)⟩, ⟨by decide +kernel, by decide +kernel, by decide +kernel⟩⟩
theorem fJx4a65c_48 : gx_fld RJx4a65c 48 4 2 RJx4a65c TJx4a65c 3 "java/util/ArrayList" := ⟨inJx4a65c, rfl, by decide, (tq_1 55 (by decide +kernel) rfl), Or.inl rfl⟩
theorem sJx4a65c_69 : gx_sV RJx4a65c 69 yJx4a65c_grow_92f84 cJx4a65c_grow_92f84 4 (some (.array (.object "java/lang/Object"))) 1 := ⟨⟨(tq_2 113 (by decide +kernel) rfl), (tq_2 115 (by decide +kernel) rfl), (tq_s 8 3 (by decide +kernel)), (tq_1 4 (by decide +kernel) rfl), (tq_2 116 (by decide +kernel) rfl)⟩, ⟨by decide +kernel, by decide +kernel, by decide +kernel⟩⟩
theorem sJx4a65c_118 : gx_sS RJx4a65c 118 yJ15_checkIndex_7cf53 cJ15_checkIndex_7cf53 2 (some .int) 2 := ⟨⟨(tq_4 26 (by decide +kernel) rfl), (tq_4 27 (by decide +kernel) rfl), (tq_1 21 (by decide +kernel) rfl), (tq_4 28 (by decide +kernel) rfl)⟩, ⟨by decide +kernel, by decide +kernel, by decide +kernel⟩⟩
theorem sJx4a65c_123 : gx_sV RJx4a65c 123 yJx4a65c_elementData_915e3 cJx4a65c_elementData_915e3 2 (some (.object "java/lang/Object")) 1 := ⟨⟨(tq_4 30 (by decide +kernel) rfl), (tq_4 31 (by decide +kernel) rfl), (tq_4 32 (by decide +kernel) rfl), (tq_1 4 (by decide +kernel) rfl), (tq_4 33 (by decide +kernel) rfl)⟩, ⟨by decide +kernel, by decide +kernel, by decide +kernel⟩⟩
theorem sJx4a65c_129 : gx_sV RJx4a65c 129 yJx4a65c_grow_d5877 cJx4a65c_grow_d5877 1 (some (.array (.object "java/lang/Object"))) 0 := ⟨⟨(tq_2 109 (by decide +kernel) rfl), (tq_2 111 (by decide +kernel) rfl), (tq_s 7 3 (by decide +kernel)), (tq_1 4 (by decide +kernel) rfl), (tq_2 112 (by decide +kernel) rfl)⟩, ⟨by decide +kernel, by decide +kernel, by decide +kernel⟩⟩
theorem fJx4a65c_63 : gx_fld RJx4a65c 63 4 0 RJx4a65c TJx4a65c 3 "java/util/ArrayList" := ⟨inJx4a65c, rfl, by decide, (tq_1 57 (by decide +kernel) rfl), Or.inr (tq_1 58 (by decide +kernel) rfl)⟩
theorem sJx4a65c_131 : gx_sV RJx4a65c 131 yJx4a65c_add_72be8 cJx4a65c_add_72be8 4 none 3 := ⟨⟨(tq_2 105 (by decide +kernel) rfl), (tq_2 107 (by decide +kernel) rfl), (tq_s 6 3 (by decide +kernel)), (tq_1 4 (by decide +kernel) rfl), (tq_2 108 (by decide +kernel) rfl)⟩, ⟨by decide +kernel, by decide +kernel, by decide +kernel⟩⟩
theorem sJ7_300 : gx_sS RJ7 300 yJ7_copyOf_6403c cJ7_copyOf_6403c 4 (some (.array (.object "java/lang/Object"))) 3 := ⟨⟨(tq_2 140 (by decide +kernel) rfl), (tq_2 141 (by decide +kernel) rfl), (tq_1 18 (by decide +kernel) rfl), (tq_2 142 (by decide +kernel) rfl)⟩, ⟨by decide +kernel, by decide +kernel, by decide +kernel⟩⟩
theorem sJ7_304 : gx_sS RJ7 304 yJ9_min_7cf53 cJ9_min_7cf53 2 (some .int) 2 := ⟨⟨(tq_1 201 (by decide +kernel) rfl), (tq_1 202 (by decide +kernel) rfl), (tq_1 17 (by decide +kernel) rfl), (tq_1 203 (by decide +kernel) rfl)⟩, ⟨by decide +kernel, by decide +kernel, by decide +kernel⟩⟩
theorem sJ15_105 : gx_sS RJ15 105 yJ3_checkIndex_8e157 cJ3_checkIndex_8e157 3 (some .int) 3 := ⟨⟨(tq_4 29 (by decide +kernel) rfl), (tq_2 18 (by decide +kernel) rfl), (tq_1 22 (by decide +kernel) rfl), (tq_2 19 (by decide +kernel) rfl)⟩, ⟨by decide +kernel, by decide +kernel, by decide +kernel⟩⟩
theorem sJ8_194 : gx_sS RJ8 194 yJ9_max_7cf53 cJ9_max_7cf53 2 (some .int) 2 := ⟨⟨(tq_1 183 (by decide +kernel) rfl), (tq_1 184 (by decide +kernel) rfl), (tq_1 17 (by decide +kernel) rfl), (tq_1 185 (by decide +kernel) rfl)⟩, ⟨by decide +kernel, by decide +kernel, by decide +kernel⟩⟩
theorem sJ8_201 : gx_sS RJ8 201 yJ8_hugeLength_7cf53 cJ8_hugeLength_7cf53 3 (some .int) 2 := ⟨⟨(tq_1 187 (by decide +kernel) rfl), (tq_1 188 (by decide +kernel) rfl), (tq_1 16 (by decide +kernel) rfl), (tq_1 189 (by decide +kernel) rfl)⟩, ⟨by decide +kernel, by decide +kernel, by decide +kernel⟩⟩
theorem fJ5_15 : gx_fld RJ5 15 1 0 RJ4 TJ4 4 "java/lang/AbstractStringBuilder" := ⟨inJ4, rfl, by decide, (tq_1 84 (by decide +kernel) rfl), Or.inl rfl⟩
theorem fJ5_22 : gx_fld RJ5 22 1 1 RJ4 TJ4 4 "java/lang/AbstractStringBuilder" := ⟨inJ4, rfl, by decide, (tq_1 85 (by decide +kernel) rfl), Or.inl rfl⟩
theorem sJ5_26 : gx_sS RJ5 26 yJ2_newBytesFor_77867 cJ2_newBytesFor_77867 1 (some (.array .byte)) 1 := ⟨⟨(tq_1 77 (by decide +kernel) rfl), (tq_1 78 (by decide +kernel) rfl), (tq_1 8 (by decide +kernel) rfl), (tq_1 79 (by decide +kernel) rfl)⟩, ⟨by decide +kernel, by decide +kernel, by decide +kernel⟩⟩
theorem fJ5_79 : gx_fld RJ5 79 1 3 RJ4 TJ4 4 "java/lang/AbstractStringBuilder" := ⟨inJ4, rfl, by decide, (tq_1 88 (by decide +kernel) rfl), Or.inl rfl⟩
theorem sJ5_104 : gx_sVK RJ5 104 "java/lang/StringBuilder" yJ5_newCapacity_0f7a4 cJ5_newCapacity_0f7a4 6 (some .int) 1 := ⟨⟨(tq_1 176 (by decide +kernel) rfl), (tq_1 178 (by decide +kernel) rfl), (tq_x 1 (by decide +kernel)), (tq_1 5 (by decide +kernel) rfl), (tq_1 179 (by decide +kernel) rfl)⟩, ⟨by decide +kernel, by decide +kernel, by decide +kernel⟩⟩
theorem sJ5_108 : gx_sS RJ5 108 yJ7_copyOf_9075b cJ7_copyOf_9075b 3 (some (.array .byte)) 2 := ⟨⟨(tq_1 191 (by decide +kernel) rfl), (tq_1 192 (by decide +kernel) rfl), (tq_1 18 (by decide +kernel) rfl), (tq_1 193 (by decide +kernel) rfl)⟩, ⟨by decide +kernel, by decide +kernel, by decide +kernel⟩⟩
theorem sJ5_114 : gx_sS RJ5 114 yJ8_newLength_cabcc cJ8_newLength_cabcc 4 (some .int) 3 := ⟨⟨(tq_1 180 (by decide +kernel) rfl), (tq_1 181 (by decide +kernel) rfl), (tq_1 16 (by decide +kernel) rfl), (tq_1 182 (by decide +kernel) rfl)⟩, ⟨by decide +kernel, by decide +kernel, by decide +kernel⟩⟩
theorem sJ5_131 : gx_sI RJ5 131 yJx7c733_init_d00df cJx7c733_init_d00df 2 1 := ⟨⟨(tq_2 157 (by decide +kernel) rfl), (tq_2 158 (by decide +kernel) rfl), (tq_1 28 (by decide +kernel) rfl), (tq_2 159 (by decide +kernel) rfl)⟩, rfl, ⟨by decide +kernel, by decide +kernel, by decide +kernel⟩⟩
theorem sJ5_100 : gx_sVK RJ5 100 "java/lang/StringBuilder" yJ5_ensureCapacityInternal_d00df cJ5_ensureCapacityInternal_d00df 3 none 1 := ⟨⟨(tq_1 172 (by decide +kernel) rfl), (tq_1 174 (by decide +kernel) rfl), (tq_x 0 (by decide +kernel)), (tq_1 5 (by decide +kernel) rfl), (tq_1 175 (by decide +kernel) rfl)⟩, ⟨by decide +kernel, by decide +kernel, by decide +kernel⟩⟩
theorem sJ5_83 : gx_sU RJ5 83 "java/lang/StringBuilder" "java/lang/AbstractStringBuilder" (⟨"java/lang/AbstractStringBuilder", "isLatin1", "()Z"⟩ : MethodName) yJ5_isLatin1_aae02 cJ5_isLatin1_aae02 1 (some .boolean) 0 := ⟨⟨(tq_1 207 (by decide +kernel) rfl), (tq_1 209 (by decide +kernel) rfl), (tq_1 210 (by decide +kernel) rfl), (tq_1 208 (by decide +kernel) rfl), (tq_1 5 (by decide +kernel) rfl), (tq_1 211 (by decide +kernel) rfl)⟩, rfl, by decide +kernel, by decide +kernel, by decide +kernel⟩
theorem sJ5_133 : gx_sS RJ5 133 yJ1_fillNull_b72d1 cJ1_fillNull_b72d1 3 none 3 := ⟨⟨(tq_3 131 (by decide +kernel) rfl), (tq_3 132 (by decide +kernel) rfl), (tq_1 25 (by decide +kernel) rfl), (tq_3 133 (by decide +kernel) rfl)⟩, ⟨by decide +kernel, by decide +kernel, by decide +kernel⟩⟩
theorem sJ5_137 : gx_sS RJ5 137 yJ2_fillNull_b72d1 cJ2_fillNull_b72d1 3 none 3 := ⟨⟨(tq_3 166 (by decide +kernel) rfl), (tq_3 167 (by decide +kernel) rfl), (tq_1 8 (by decide +kernel) rfl), (tq_3 168 (by decide +kernel) rfl)⟩, ⟨by decide +kernel, by decide +kernel, by decide +kernel⟩⟩
theorem fJ5_73 : gx_fld RJ5 73 1 2 RJ4 TJ4 4 "java/lang/AbstractStringBuilder" := ⟨inJ4, rfl, by decide, (tq_1 86 (by decide +kernel) rfl), Or.inl rfl⟩
theorem sJ5_138 : gx_sS RJ5 138 yJ9_min_7cf53 cJ9_min_7cf53 2 (some .int) 2 := ⟨⟨(tq_2 63 (by decide +kernel) rfl), (tq_1 202 (by decide +kernel) rfl), (tq_1 17 (by decide +kernel) rfl), (tq_1 203 (by decide +kernel) rfl)⟩, ⟨by decide +kernel, by decide +kernel, by decide +kernel⟩⟩
theorem sJ5_144 : gx_sS RJ5 144 yJ0_checkIndex_df160 cJ0_checkIndex_df160 2 none 2 := ⟨⟨(tq_2 64 (by decide +kernel) rfl), (tq_2 15 (by decide +kernel) rfl), (tq_1 7 (by decide +kernel) rfl), (tq_2 16 (by decide +kernel) rfl)⟩, ⟨by decide +kernel, by decide +kernel, by decide +kernel⟩⟩
theorem sJ5_148 : gx_sS RJ5 148 yJ2_getChar_3b067 cJ2_getChar_3b067 2 (some .char) 2 := ⟨⟨(tq_2 65 (by decide +kernel) rfl), (tq_2 66 (by decide +kernel) rfl), (tq_1 8 (by decide +kernel) rfl), (tq_2 67 (by decide +kernel) rfl)⟩, ⟨by decide +kernel, by decide +kernel, by decide +kernel⟩⟩
theorem sJ5_32 : gx_sV RJ5 32 yJ0_length_8abf5 cJ0_length_8abf5 1 (some .int) 0 := ⟨⟨(tq_2 186 (by decide +kernel) rfl), (tq_2 187 (by decide +kernel) rfl), (tq_2 188 (by decide +kernel) rfl), (tq_1 7 (by decide +kernel) rfl), (tq_2 189 (by decide +kernel) rfl)⟩, ⟨by decide +kernel, by decide +kernel, by decide +kernel⟩⟩
theorem sJ5_191 : gx_sS RJ5 191 yJ1_canEncode_fc78d cJ1_canEncode_fc78d 1 (some .boolean) 1 := ⟨⟨(tq_1 212 (by decide +kernel) rfl), (tq_1 213 (by decide +kernel) rfl), (tq_1 25 (by decide +kernel) rfl), (tq_1 214 (by decide +kernel) rfl)⟩, ⟨by decide +kernel, by decide +kernel, by decide +kernel⟩⟩
theorem sJ5_197 : gx_sS RJ5 197 yJ2_putCharSB_b72d1 cJ2_putCharSB_b72d1 3 none 3 := ⟨⟨(tq_2 8 (by decide +kernel) rfl), (tq_2 9 (by decide +kernel) rfl), (tq_1 8 (by decide +kernel) rfl), (tq_2 10 (by decide +kernel) rfl)⟩, ⟨by decide +kernel, by decide +kernel, by decide +kernel⟩⟩
theorem sJ5_245 : gx_sS RJ5 245 yJ6_stringSize_0f7a4 cJ6_stringSize_0f7a4 4 (some .int) 1 := ⟨⟨(tq_2 217 (by decide +kernel) rfl), (tq_2 218 (by decide +kernel) rfl), (tq_1 30 (by decide +kernel) rfl), (tq_2 219 (by decide +kernel) rfl)⟩, ⟨by decide +kernel, by decide +kernel, by decide +kernel⟩⟩
theorem sJ5_248 : gx_sS RJ5 248 yJ6_getChars_ba4f3 cJ6_getChars_ba4f3 7 (some .int) 3 := ⟨⟨(tq_2 220 (by decide +kernel) rfl), (tq_2 221 (by decide +kernel) rfl), (tq_1 30 (by decide +kernel) rfl), (tq_2 222 (by decide +kernel) rfl)⟩, ⟨by decide +kernel, by decide +kernel, by decide +kernel⟩⟩
theorem sJ5_251 : gx_sS RJ5 251 yJ2_getChars_46870 cJ2_getChars_46870 5 (some .int) 4 := ⟨⟨(tq_2 227 (by decide +kernel) rfl), (tq_2 228 (by decide +kernel) rfl), (tq_1 8 (by decide +kernel) rfl), (tq_2 229 (by decide +kernel) rfl)⟩, ⟨by decide +kernel, by decide +kernel, by decide +kernel⟩⟩
theorem sJ4_1 : gx_sI RJ4 1 yJ5_init_d00df cJ5_init_d00df 2 1 := ⟨⟨(tq_1 71 (by decide +kernel) rfl), (tq_1 72 (by decide +kernel) rfl), (tq_1 5 (by decide +kernel) rfl), (tq_1 73 (by decide +kernel) rfl)⟩, rfl, ⟨by decide +kernel, by decide +kernel, by decide +kernel⟩⟩
theorem sJ4_29 : gx_sSU RJ4 29 yJ5_append_cf1ce cJ5_append_cf1ce 3 (some (.object "java/lang/AbstractStringBuilder")) 1 := ⟨⟨(tq_2 167 (by decide +kernel) rfl), (tq_6 12 (by decide +kernel) rfl), (tq_1 97 (by decide +kernel) rfl), (tq_2 168 (by decide +kernel) rfl), (tq_1 5 (by decide +kernel) rfl), (tq_2 169 (by decide +kernel) rfl)⟩, by decide +kernel, by decide +kernel⟩
theorem sJ4_50 : gx_sSU RJ4 50 yJ5_append_3fe6f cJ5_append_3fe6f 2 (some (.object "java/lang/AbstractStringBuilder")) 1 := ⟨⟨(tq_1 169 (by decide +kernel) rfl), (tq_6 6 (by decide +kernel) rfl), (tq_1 97 (by decide +kernel) rfl), (tq_1 170 (by decide +kernel) rfl), (tq_1 5 (by decide +kernel) rfl), (tq_1 171 (by decide +kernel) rfl)⟩, by decide +kernel, by decide +kernel⟩
theorem sJ4_53 : gx_sSU RJ4 53 yJ5_append_c97b9 cJ5_append_c97b9 4 (some (.object "java/lang/AbstractStringBuilder")) 1 := ⟨⟨(tq_2 214 (by decide +kernel) rfl), (tq_6 16 (by decide +kernel) rfl), (tq_1 97 (by decide +kernel) rfl), (tq_2 215 (by decide +kernel) rfl), (tq_1 5 (by decide +kernel) rfl), (tq_2 216 (by decide +kernel) rfl)⟩, by decide +kernel, by decide +kernel⟩
theorem sJ4_329 : gx_sSU RJ4 329 yJ5_charAt_5068e cJ5_charAt_5068e 5 (some .char) 1 := ⟨⟨(tq_2 60 (by decide +kernel) rfl), (tq_6 10 (by decide +kernel) rfl), (tq_1 97 (by decide +kernel) rfl), (tq_2 61 (by decide +kernel) rfl), (tq_1 5 (by decide +kernel) rfl), (tq_2 62 (by decide +kernel) rfl)⟩, by decide +kernel, by decide +kernel⟩
theorem sJ4_333 : gx_sSU RJ4 333 yJ5_setLength_d00df cJ5_setLength_d00df 2 none 1 := ⟨⟨(tq_2 152 (by decide +kernel) rfl), (tq_6 11 (by decide +kernel) rfl), (tq_1 97 (by decide +kernel) rfl), (tq_2 153 (by decide +kernel) rfl), (tq_1 5 (by decide +kernel) rfl), (tq_2 154 (by decide +kernel) rfl)⟩, by decide +kernel, by decide +kernel⟩
theorem sJ4_343 : gx_sSU RJ4 343 yJ5_length_8abf5 cJ5_length_8abf5 1 (some .int) 0 := ⟨⟨(tq_1 162 (by decide +kernel) rfl), (tq_6 5 (by decide +kernel) rfl), (tq_1 97 (by decide +kernel) rfl), (tq_1 163 (by decide +kernel) rfl), (tq_1 5 (by decide +kernel) rfl), (tq_1 164 (by decide +kernel) rfl)⟩, by decide +kernel, by decide +kernel⟩
theorem sJ0_1059 : gx_sS RJ0 1059 yJ3_checkIndex_8e157 cJ3_checkIndex_8e157 3 (some .int) 3 := ⟨⟨(tq_2 17 (by decide +kernel) rfl), (tq_2 18 (by decide +kernel) rfl), (tq_1 22 (by decide +kernel) rfl), (tq_2 19 (by decide +kernel) rfl)⟩, ⟨by decide +kernel, by decide +kernel, by decide +kernel⟩⟩
theorem sJ2_48 : gx_sS RJ2 48 yJ2_length_9d52b cJ2_length_9d52b 1 (some .int) 1 := ⟨⟨(tq_1 228 (by decide +kernel) rfl), (tq_1 229 (by decide +kernel) rfl), (tq_1 8 (by decide +kernel) rfl), (tq_1 230 (by decide +kernel) rfl)⟩, ⟨by decide +kernel, by decide +kernel, by decide +kernel⟩⟩
theorem sJ2_414 : gx_sS RJ2 414 yJ0_checkIndex_df160 cJ0_checkIndex_df160 2 none 2 := ⟨⟨(tq_2 14 (by decide +kernel) rfl), (tq_2 15 (by decide +kernel) rfl), (tq_1 7 (by decide +kernel) rfl), (tq_2 16 (by decide +kernel) rfl)⟩, ⟨by decide +kernel, by decide +kernel, by decide +kernel⟩⟩
end
section
/-! JDK ROWS over the ground: Math, mirrors, arraycopy, statics. -/
section GJ
variable {G : gx_T} {p : Program} {l : Launch} {e : Env} {R : Room} {s : State} {m : MethodId} {args : Array Value} {below : List Frame} {meth : Method} {c : Code} {H : Heap} {locs : List Loc} {cells slots : Nat} {Q : State → Prop}
variable {cc : ByteArray} {nL pc : Nat} {own : String} {A : Nat → Prop} {ls : Array Slot} {rest : List Value} {ws : va_W} {a n j idx : Nat} {L : List Nat} {f : Nat → va_E}
theorem gx_mmax (C : gx_C G p s m args meth c cc nL own A) {x y : Int32} (h1 : Cond.methodLink own idx Lib.Math.max.name ∈ lw_all) (hsize : ls.size = nL) (hf : 1 ≤ R.frames) (hl : (rest.map fun v => v.category).sum + 13 ≤ R.locals) (hc : cells ≤ R.cells) (hs : slots ≤ R.slots) (d : decode cc pc = .ok (.invokestatic idx, 3)) (kk : W p l e R s m args below meth c H locs cells slots Q (F0 m (pc + 3) ls (.int (if x < y then y else x) :: rest))) : W p l e R s m args below meth c H locs cells slots Q (F0 m pc ls (.int y :: .int x :: rest)) :=
  va_mmax C.x C.b (C.1.2.2.1.trans hsize.symm) C.hown (C.ts _ h1) (C.ts _ (tq_1 184 (by decide +kernel) rfl)) (C.ts _ (tq_1 17 (by decide +kernel) rfl)) (C.ts _ (tq_1 185 (by decide +kernel) rfl)) hf hl hc hs d kk
theorem gx_mmin (C : gx_C G p s m args meth c cc nL own A) {x y : Int32} (h1 : Cond.methodLink own idx Lib.Math.min.name ∈ lw_all) (hsize : ls.size = nL) (hf : 1 ≤ R.frames) (hl : (rest.map fun v => v.category).sum + 13 ≤ R.locals) (hc : cells ≤ R.cells) (hs : slots ≤ R.slots) (d : decode cc pc = .ok (.invokestatic idx, 3)) (kk : W p l e R s m args below meth c H locs cells slots Q (F0 m (pc + 3) ls (.int (if y < x then y else x) :: rest))) : W p l e R s m args below meth c H locs cells slots Q (F0 m pc ls (.int y :: .int x :: rest)) :=
  va_mmin C.x C.b (C.1.2.2.1.trans hsize.symm) C.hown (C.ts _ h1) (C.ts _ (tq_1 202 (by decide +kernel) rfl)) (C.ts _ (tq_1 17 (by decide +kernel) rfl)) (C.ts _ (tq_1 203 (by decide +kernel) rfl)) hf hl hc hs d kk
theorem gx_mabs (C : gx_C G p s m args meth c cc nL own A) {x : Int64} (h1 : Cond.methodLink own idx Lib.MathLoose.abs_long.x ∈ lw_all) (hsize : ls.size = nL) (hf : 1 ≤ R.frames) (hl : (rest.map fun v => v.category).sum + 13 ≤ R.locals) (hc : cells ≤ R.cells) (hs : slots ≤ R.slots) (d : decode cc pc = .ok (.invokestatic idx, 3)) (kk : W p l e R s m args below meth c H locs cells slots Q (F0 m (pc + 3) ls (.long (if 0 < x then x else -x) :: rest))) : W p l e R s m args below meth c H locs cells slots Q (F0 m pc ls (.long x :: rest)) :=
  va_mabs_long C.x C.b (C.1.2.2.1.trans hsize.symm) C.hown (C.ts _ h1) (C.ts _ (tq_4 120 (by decide +kernel) rfl)) (C.ts _ (tq_1 17 (by decide +kernel) rfl)) (C.ts _ (tq_4 121 (by decide +kernel) rfl)) hf hl hc hs d kk
theorem gx_rcA (C : gx_C G p s m args meth c cc nL own A) (hW : gx_W G A s ws H locs) {x : vp_A} (ha : gx_at ws a (.inl (G.2.1 3, x))) : ∃ cell : Cell, H[a]? = some cell ∧ cell.vm.isStatics = false ∧ s.vm.findClass "[Ljava/lang/Object;" = some cell.cls := by
  obtain ⟨q0, hq⟩ := ha
  refine ⟨_, hW.1 q0 _ hq, ?_, ?_⟩
  · obtain ⟨k, g | g | g | g | g⟩ := x <;> rfl
  · have h := gx_find (C.2.2.2.1.2 3 _ rfl).2
    have e : ∀ x : vp_A, (vp_cell (G.2.1 3) x).cls = G.2.1 3 := by
      rintro ⟨k, g | g | g | g | g⟩ <;> rfl
    rw [e]
    exact h
theorem gx_getC (C : gx_C G p s m args meth c cc nL own A) (hW : gx_W G A s ws H locs) {x : vp_A} (ha : gx_at ws a (.inl (G.2.1 3, x))) (h1 : Cond.methodLink own idx ⟨"java/lang/Object", "getClass", "()Ljava/lang/Class;"⟩ ∈ lw_all) (hsize : ls.size = nL) (hf : 1 ≤ R.frames) (hl : (rest.map fun v => v.category).sum + 14 ≤ R.locals) (d : decode cc pc = .ok (.invokevirtual idx, 3)) (k : W p l e R s m args below meth c H locs cells slots Q (F0 m (pc + 3) ls (.ref (G.2.2 1) :: rest))) : W p l e R s m args below meth c H locs cells slots Q (F0 m pc ls (.ref a :: rest)) :=
  va_getC (C := "[Ljava/lang/Object;") C.x C.b (C.1.2.2.1.trans hsize.symm) C.hown (C.ts _ h1) ((C.2.2.2.2.1.2.2.1 (.declares ⟨"java/lang/Object", "getClass", "()Ljava/lang/Class;"⟩) (List.mem_of_getElem? (i := 7) (by decide +kernel))).use rfl) (C.ts _ (tq_6 38 (by decide +kernel) rfl)) (C.ts _ (tq_2 122 (by decide +kernel) rfl)) (C.ts _ (tq_2 139 (by decide +kernel) rfl)) C.2.2.2.2.2.1 (gx_rcA C hW ha) hf hl d k
theorem gx_ldcM (C : gx_C G p s m args meth c cc nL own A) (h1 : Cond.classLink own idx "[Ljava/lang/Object;" ∈ lw_all) (d : decode cc pc = .ok (.ldc idx, 2)) (k : W p l e R s m args below meth c H locs cells slots Q (F0 m (pc + 2) ls (.ref (G.2.2 1) :: rest))) : W p l e R s m args below meth c H locs cells slots Q (F0 m pc ls rest) := va_ldcM C.x C.b C.hown (C.ts _ h1) C.2.2.2.2.2.1 d k
theorem gx_castA (C : gx_C G p s m args meth c cc nL own A) (hW : gx_W G A s ws H locs) {x : vp_A} (ha : gx_at ws a (.inl (G.2.1 3, x))) (h1 : Cond.classLink own idx "[Ljava/lang/Object;" ∈ lw_all) (d : decode cc pc = .ok (.checkcast idx, 3)) (k : W p l e R s m args below meth c H locs cells slots Q (F0 m (pc + 3) ls (.ref a :: rest))) : W p l e R s m args below meth c H locs cells slots Q (F0 m pc ls (.ref a :: rest)) := by
  obtain ⟨q0, hq⟩ := ha
  exact va_castA C.x C.b C.hown (C.ts _ h1) hW.1 q0 hq (gx_find (C.2.2.2.1.2 3 _ rfl).2) d k
/-- an element that a row of Objects may hold -/
def gx_el (L : List Nat) (f : Nat → va_E) (x : Nat) : Prop := x ∈ L ∧ ∃ (ci N : Nat) (vs : List Value) (K : String) (T : u_T), f x = .inr (ci, vs) ∧ vwCl[ci]? = some (K, T, N) ∧ Cond.castable K "java/lang/Object" ∈ gx_nW
theorem gx_any (C : gx_C G p s m args meth c cc nL own A) (hW : gx_W G A s (va_pl L f) H locs) {x : Nat} (h : gx_el L f x) : va_Any "java/lang/Object" s H x := by
  obtain ⟨hx, ci, N, vs, K, T, hf, hc, hw⟩ := h
  obtain ⟨q0, hq⟩ := gx_pl hx hf
  refine va_rAny C.2.2.2.1 hW.1 hq hc (fun comp c0 h1 h2 => ?_)
  have h3 : (Cond.castable K "java/lang/Object").before args s = true := (C.2.2.2.2.1.2.2.1 _ hw).use rfl
  obtain ⟨c3, c4, hc3, hc4, hasg⟩ := Cond.castable_spec h3
  cases Option.some.inj (hc3.symm.trans h2)
  cases Option.some.inj (hc4.symm.trans h1)
  exact hasg
theorem gx_acopy (C : gx_C G p s m args meth c cc nL own A) (hW : gx_W G A s (va_pl L f) H locs) {a0 n0 n1 k : Nat} {g0 g1 : Nat → Option Nat} (hL0 : a0 ∈ L) (ha0 : f a0 = .inl (G.2.1 3, n0, .inr (.inr (.inr (.inr g0))))) (hL : a ∈ L) (ha : f a = .inl (G.2.1 3, n1, .inr (.inr (.inr (.inr g1))))) {i : Int32} (hi : i = nI k) (h0 : k ≤ n0) (h1 : k ≤ n1) (hk : k < 2 ^ 31) (hel : ∀ j : Nat, j < k → ∀ y : Nat, g0 j = some y → gx_el L f y) (hl1 : Cond.methodLink own idx arraycopyName ∈ lw_all) (hsize : ls.size = nL) (hf : 1 ≤ R.frames) (hl : (rest.map fun v => v.category).sum + (nativeFrameWords "java/lang/System" "arraycopy" 5 + 11) ≤ R.locals) (d : decode cc pc = .ok (.invokestatic idx, 3))
    (kk : ∀ (H1 : Heap) (locs1 : List Loc), gx_W G A s (va_pl L (va_up f a (.inl (G.2.1 3, n1, .inr (.inr (.inr (.inr (va_cpy g0 g1 0 0 k)))))))) H1 locs1 → W p l e R s m args below meth c H1 locs1 cells slots Q (F0 m (pc + 3) ls rest)) : W p l e R s m args below meth c H locs cells slots Q (F0 m pc ls (.int i :: .int 0 :: .ref a :: .int 0 :: .ref a0 :: rest)) := by
  subst hi
  obtain ⟨q0, hq0⟩ := gx_pl hL0 ha0
  obtain ⟨q1, hq1⟩ := gx_pl hL ha
  have e0 : (0 : Int32).toNatClampNeg = 0 := by decide
  have ek : (nI k).toNatClampNeg = k := nI_clamp hk
  refine va_copyM C.x C.b (C.1.2.2.1.trans hsize.symm) C.hown (C.ts _ hl1) (C.ts _ (tq_1 206 (by decide +kernel) rfl)) (C.ts _ (tq_1 205 (by decide +kernel) rfl)) (C.ts _ (tq_1 19 (by decide +kernel) rfl)) C.2.2.2.1 hW.1 hW.2.1 hW.2.2 q0 q1 3 3 hq0 hq1 rfl rfl (by decide) (by decide) (nI_pos hk) (by rw [e0, ek]; omega) (by rw [e0, ek]; omega) (fun j hj y hy => ?_) hf hl d (fun H1 locs1 k1 k2 k3 => kk H1 locs1 ?_)
  · rw [ek] at hj
    rw [e0, Nat.zero_add] at hy
    exact gx_any C hW (hel j hj y hy)
  · rw [(gx_setP hW.2.1 hL hq1 _).2, e0, ek] at k1 k2
    exact ⟨k1, k2, k3⟩
theorem gx_getsE (C : gx_C G p s m args meth c cc nL own A) (hW : gx_W G A s ws H locs) (h1 : Cond.fieldLink own idx "java/util/ArrayList" "DEFAULTCAPACITY_EMPTY_ELEMENTDATA" "[Ljava/lang/Object;" ∈ lw_all) (d : decode cc pc = .ok (.getstatic idx, 3)) (kk : W p l e R s m args below meth c H locs cells slots Q (F0 m (pc + 3) ls (.ref (G.2.2 0) :: rest))) : W p l e R s m args below meth c H locs cells slots Q (F0 m pc ls rest) :=
  va_gets C.x C.b C.2.2.2.2.2.2.2.2.1 hW.2.2 C.hown (C.ts _ h1) (fun _ h => h) d kk
theorem gx_lenE (C : gx_C G p s m args meth c cc nL own A) (hW : gx_W G A s ws H locs) (d : decode cc pc = .ok (.arraylength, 1)) (kk : W p l e R s m args below meth c H locs cells slots Q (F0 m (pc + 1) ls (.int 0 :: rest))) : W p l e R s m args below meth c H locs cells slots Q (F0 m pc ls (.ref (G.2.2 0) :: rest)) :=
  va_tlen C.x C.b C.2.2.2.2.2.2.2.2.2.1 hW.2.2 rfl d kk
theorem gx_getsC (C : gx_C G p s m args meth c cc nL own A) (hW : gx_W G A s ws H locs) (h1 : Cond.fieldLink own idx "java/lang/String" "COMPACT_STRINGS" "Z" ∈ lw_all) (d : decode cc pc = .ok (.getstatic idx, 3)) (kk : W p l e R s m args below meth c H locs cells slots Q (F0 m (pc + 3) ls (.int 1 :: rest))) : W p l e R s m args below meth c H locs cells slots Q (F0 m pc ls rest) :=
  va_gets C.x C.b C.2.2.2.2.2.2.2.2.2.2.1 hW.2.2 C.hown (C.ts _ h1) (fun _ h => h) d kk
/-- the formatter: some reference or null -/
theorem gx_getsF (C : gx_C G p s m args meth c cc nL own A) (hW : gx_W G A s ws H locs) (h1 : Cond.fieldLink own idx "jdk/internal/util/Preconditions" "SIOOBE_FORMATTER" "Ljava/util/function/BiFunction;" ∈ lw_all) (d : decode cc pc = .ok (.getstatic idx, 3)) (k0 : W p l e R s m args below meth c H locs cells slots Q (F0 m (pc + 3) ls (.null :: rest))) (k1 : ∀ t : Nat, W p l e R s m args below meth c H locs cells slots Q (F0 m (pc + 3) ls (.ref t :: rest))) : W p l e R s m args below meth c H locs cells slots Q (F0 m pc ls rest) := by
  rcases C.2.2.2.2.2.2.2.2.2.2.2 with h | ⟨t, h⟩
  · exact va_gets C.x C.b h hW.2.2 C.hown (C.ts _ h1) (fun _ h => h) d k0
  · exact va_gets C.x C.b h hW.2.2 C.hown (C.ts _ h1) (fun _ h => h) d (k1 t)
/-- a row's place that holds a reference -/
theorem gx_aaldS (C : gx_C G p s m args meth c cc nL own A) (hW : gx_W G A s ws H locs) {g : Nat → Option Nat} {w : Nat} {i : Int32} (ha : gx_at ws a (.inl (G.2.1 3, n, .inr (.inr (.inr (.inr g)))))) (hi : i = nI j) (hj : j < n) (hn : n < 2 ^ 31) (hg : g j = some w) (d : decode cc pc = .ok (.aaload, 1)) (kk : W p l e R s m args below meth c H locs cells slots Q (F0 m (pc + 1) ls (.ref w :: rest))) : W p l e R s m args below meth c H locs cells slots Q (F0 m pc ls (.int i :: .ref a :: rest)) := by
  refine gx_aald C hW ha hi hj hn d ?_
  rw [hg]
  exact kk
end GJ
end
section
/-! LEAVES: Foot, Side, Load, Trial. -/
set_option maxHeartbeats 4000000 in
set_option maxRecDepth 100000 in
theorem kX0_init (l : Launch) (G : gx_T) (L : List Nat) (f : Nat → va_E) (h : Nat) (n : Int32) (x y : Int64) (hh : h ∈ L) (fh : f h = .inr (5, [.int 0, .long 0, .long 0])) : gx_M l G yX0_init cX0_init 6 none ({ frames := 1, cells := 0, slots := 0, locals := 20 } : Room) [.ref h, .int n, .long x, .long y] (va_pl L f) (fun v u => v = none ∧ u = va_pl L (va_up f h (.inr (5, [.int n, .long x, .long y])))) := by
  refine gx_start (by decide +kernel) (Nat.le_of_ble_eq_true rfl) ?_
  intro p e s m args below meth c A ls C hr hnm hW hl
  have gX := C.x
  have gB := C.b
  have hl : lv_has ls 6 [(0, .ref h), (1, .int n), (2, .long x), (4, .long y)] := hl
  refine lv_aload_n gX gB dX0_init_0 rfl (lv_at hl 0 rfl) ?_
  refine gx_obj C (tq_3 236 (by decide +kernel) rfl) hl.1 dX0_init_1 (Nat.le_of_ble_eq_true rfl) (Nat.le_of_ble_eq_true rfl) ?_
  refine lv_aload_n gX gB dX0_init_4 rfl (lv_at hl 0 rfl) ?_
  refine lv_iload_n gX gB dX0_init_5 rfl (lv_at hl 1 rfl) ?_
  refine gx_put C hW clX0 fX0_7 hh fh (Or.inr ⟨hnm, rfl⟩) rfl rfl (Nat.le_of_ble_eq_true rfl) dX0_init_6 (fun H locs hW => ?_)
  obtain ⟨f1, hf1⟩ : ∃ z, z = va_up f h (.inr (5, [.int n, .long 0, .long 0])) := ⟨_, rfl⟩
  have hW : gx_W G A s (va_pl L f1) H locs := by rw [hf1]; exact hW
  have f1_h : f1 h = .inr (5, [.int n, .long 0, .long 0]) := by rw [hf1]; exact va_up_self _ _ _
  refine lv_aload_n gX gB dX0_init_9 rfl (lv_at hl 0 rfl) ?_
  refine lv_lload_n gX gB dX0_init_10 rfl (lv_at hl 2 rfl) ?_
  refine gx_put C hW clX0 fX0_13 hh f1_h (Or.inr ⟨hnm, rfl⟩) rfl rfl (Nat.le_of_ble_eq_true rfl) dX0_init_11 (fun H locs hW => ?_)
  obtain ⟨f2, hf2⟩ : ∃ z, z = va_up f1 h (.inr (5, [.int n, .long x, .long 0])) := ⟨_, rfl⟩
  have hW : gx_W G A s (va_pl L f2) H locs := by rw [hf2]; exact hW
  have f2_h : f2 h = .inr (5, [.int n, .long x, .long 0]) := by rw [hf2]; exact va_up_self _ _ _
  refine lv_aload_n gX gB dX0_init_14 rfl (lv_at hl 0 rfl) ?_
  refine lv_lload gX gB dX0_init_15 (lv_at hl 3 rfl) ?_
  refine gx_put C hW clX0 fX0_17 hh f2_h (Or.inr ⟨hnm, rfl⟩) rfl rfl (Nat.le_of_ble_eq_true rfl) dX0_init_17 (fun H locs hW => ?_)
  obtain ⟨f3, hf3⟩ : ∃ z, z = va_up f2 h (.inr (5, [.int n, .long x, .long y])) := ⟨_, rfl⟩
  have hW : gx_W G A s (va_pl L f3) H locs := by rw [hf3]; exact hW
  have f3_h : f3 h = .inr (5, [.int n, .long x, .long y]) := by rw [hf3]; exact va_up_self _ _ _
  exact gx_vret C hr hW (⟨rfl, by rw [hf3, hf2, hf1]; simp only [bx_uu]⟩) (Nat.le_of_ble_eq_true rfl) (Nat.le_of_ble_eq_true rfl) dX0_init_20
set_option maxHeartbeats 4000000 in
set_option maxRecDepth 100000 in
theorem kX0_turn (l : Launch) (G : gx_T) (L : List Nat) (f : Nat → va_E) (h a b : Nat) (n na nb : Int32) (x y xa ya xb yb : Int64) (hh : h ∈ L) (fh : f h = .inr (5, [.int n, .long x, .long y])) (ha : a ∈ L) (fa : f a = .inr (5, [.int na, .long xa, .long ya])) (hb : b ∈ L) (fb : f b = .inr (5, [.int nb, .long xb, .long yb])) : gx_M l G yX0_turn cX0_turn 3 (some .long) ({ frames := 0, cells := 0, slots := 0, locals := 0 } : Room) [.ref h, .ref a, .ref b] (va_pl L f) (fun v u => v = some (.long ((xa - x) * (yb - y) - (ya - y) * (xb - x))) ∧ u = va_pl L f) := by
  refine gx_start (by decide +kernel) (Nat.le_of_ble_eq_true rfl) ?_
  intro p e s m args below meth c A ls C hr hnm hW hl
  have gX := C.x
  have gB := C.b
  have hl : lv_has ls 3 [(0, .ref h), (1, .ref a), (2, .ref b)] := hl
  refine lv_aload_n gX gB dX0_turn_0 rfl (lv_at hl 1 rfl) ?_
  refine gx_get C hW fX0_13 (gx_pl ha fa) rfl dX0_turn_1 ?_
  refine lv_aload_n gX gB dX0_turn_4 rfl (lv_at hl 0 rfl) ?_
  refine gx_get C hW fX0_13 (gx_pl hh fh) rfl dX0_turn_5 ?_
  refine lv_lsub gX gB dX0_turn_8 ?_
  refine lv_aload_n gX gB dX0_turn_9 rfl (lv_at hl 2 rfl) ?_
  refine gx_get C hW fX0_17 (gx_pl hb fb) rfl dX0_turn_10 ?_
  refine lv_aload_n gX gB dX0_turn_13 rfl (lv_at hl 0 rfl) ?_
  refine gx_get C hW fX0_17 (gx_pl hh fh) rfl dX0_turn_14 ?_
  refine lv_lsub gX gB dX0_turn_17 ?_
  refine lv_lmul gX gB dX0_turn_18 ?_
  refine lv_aload_n gX gB dX0_turn_19 rfl (lv_at hl 1 rfl) ?_
  refine gx_get C hW fX0_17 (gx_pl ha fa) rfl dX0_turn_20 ?_
  refine lv_aload_n gX gB dX0_turn_23 rfl (lv_at hl 0 rfl) ?_
  refine gx_get C hW fX0_17 (gx_pl hh fh) rfl dX0_turn_24 ?_
  refine lv_lsub gX gB dX0_turn_27 ?_
  refine lv_aload_n gX gB dX0_turn_28 rfl (lv_at hl 2 rfl) ?_
  refine gx_get C hW fX0_13 (gx_pl hb fb) rfl dX0_turn_29 ?_
  refine lv_aload_n gX gB dX0_turn_32 rfl (lv_at hl 0 rfl) ?_
  refine gx_get C hW fX0_13 (gx_pl hh fh) rfl dX0_turn_33 ?_
  refine lv_lsub gX gB dX0_turn_36 ?_
  refine lv_lmul gX gB dX0_turn_37 ?_
  refine lv_lsub gX gB dX0_turn_38 ?_
  exact gx_lret C hr hW (⟨rfl, rfl⟩) (Nat.le_of_ble_eq_true rfl) (Nat.le_of_ble_eq_true rfl) dX0_turn_39
set_option maxHeartbeats 4000000 in
set_option maxRecDepth 100000 in
theorem kX0_squareTo (l : Launch) (G : gx_T) (L : List Nat) (f : Nat → va_E) (h a : Nat) (n na : Int32) (x y xa ya : Int64) (hh : h ∈ L) (fh : f h = .inr (5, [.int n, .long x, .long y])) (ha : a ∈ L) (fa : f a = .inr (5, [.int na, .long xa, .long ya])) : gx_M l G yX0_squareTo cX0_squareTo 2 (some .long) ({ frames := 0, cells := 0, slots := 0, locals := 0 } : Room) [.ref h, .ref a] (va_pl L f) (fun v u => v = some (.long ((xa - x) * (xa - x) + (ya - y) * (ya - y))) ∧ u = va_pl L f) := by
  refine gx_start (by decide +kernel) (Nat.le_of_ble_eq_true rfl) ?_
  intro p e s m args below meth c A ls C hr hnm hW hl
  have gX := C.x
  have gB := C.b
  have hl : lv_has ls 2 [(0, .ref h), (1, .ref a)] := hl
  refine lv_aload_n gX gB dX0_squareTo_0 rfl (lv_at hl 1 rfl) ?_
  refine gx_get C hW fX0_13 (gx_pl ha fa) rfl dX0_squareTo_1 ?_
  refine lv_aload_n gX gB dX0_squareTo_4 rfl (lv_at hl 0 rfl) ?_
  refine gx_get C hW fX0_13 (gx_pl hh fh) rfl dX0_squareTo_5 ?_
  refine lv_lsub gX gB dX0_squareTo_8 ?_
  refine lv_aload_n gX gB dX0_squareTo_9 rfl (lv_at hl 1 rfl) ?_
  refine gx_get C hW fX0_13 (gx_pl ha fa) rfl dX0_squareTo_10 ?_
  refine lv_aload_n gX gB dX0_squareTo_13 rfl (lv_at hl 0 rfl) ?_
  refine gx_get C hW fX0_13 (gx_pl hh fh) rfl dX0_squareTo_14 ?_
  refine lv_lsub gX gB dX0_squareTo_17 ?_
  refine lv_lmul gX gB dX0_squareTo_18 ?_
  refine lv_aload_n gX gB dX0_squareTo_19 rfl (lv_at hl 1 rfl) ?_
  refine gx_get C hW fX0_17 (gx_pl ha fa) rfl dX0_squareTo_20 ?_
  refine lv_aload_n gX gB dX0_squareTo_23 rfl (lv_at hl 0 rfl) ?_
  refine gx_get C hW fX0_17 (gx_pl hh fh) rfl dX0_squareTo_24 ?_
  refine lv_lsub gX gB dX0_squareTo_27 ?_
  refine lv_aload_n gX gB dX0_squareTo_28 rfl (lv_at hl 1 rfl) ?_
  refine gx_get C hW fX0_17 (gx_pl ha fa) rfl dX0_squareTo_29 ?_
  refine lv_aload_n gX gB dX0_squareTo_32 rfl (lv_at hl 0 rfl) ?_
  refine gx_get C hW fX0_17 (gx_pl hh fh) rfl dX0_squareTo_33 ?_
  refine lv_lsub gX gB dX0_squareTo_36 ?_
  refine lv_lmul gX gB dX0_squareTo_37 ?_
  refine lv_ladd gX gB dX0_squareTo_38 ?_
  exact gx_lret C hr hW (⟨rfl, rfl⟩) (Nat.le_of_ble_eq_true rfl) (Nat.le_of_ble_eq_true rfl) dX0_squareTo_39
set_option maxHeartbeats 4000000 in
set_option maxRecDepth 100000 in
theorem kX0_isAt (l : Launch) (G : gx_T) (L : List Nat) (f : Nat → va_E) (h a : Nat) (n na : Int32) (x y xa ya : Int64) (hh : h ∈ L) (fh : f h = .inr (5, [.int n, .long x, .long y])) (ha : a ∈ L) (fa : f a = .inr (5, [.int na, .long xa, .long ya])) : gx_M l G yX0_isAt cX0_isAt 2 (some .boolean) ({ frames := 0, cells := 0, slots := 0, locals := 0 } : Room) [.ref h, .ref a] (va_pl L f) (fun v u => v = some (.int (gx_b (x = xa ∧ y = ya))) ∧ u = va_pl L f) := by
  refine gx_start (by decide +kernel) (Nat.le_of_ble_eq_true rfl) ?_
  intro p e s m args below meth c A ls C hr hnm hW hl
  have gX := C.x
  have gB := C.b
  have hl : lv_has ls 2 [(0, .ref h), (1, .ref a)] := hl
  refine lv_aload_n gX gB dX0_isAt_0 rfl (lv_at hl 0 rfl) ?_
  refine gx_get C hW fX0_13 (gx_pl hh fh) rfl dX0_isAt_1 ?_
  refine lv_aload_n gX gB dX0_isAt_4 rfl (lv_at hl 1 rfl) ?_
  refine gx_get C hW fX0_13 (gx_pl ha fa) rfl dX0_isAt_5 ?_
  refine gx_lc_ne (tgt := 28) C dX0_isAt_8 dX0_isAt_9 (by decide) (fun c8 => ?_) (fun c8 => ?_)
  · refine lv_iconst (v := 0) gX gB dX0_isAt_28 (by decide) ?_
    exact gx_zret C hr (by decide) hW (⟨by simp [gx_b, c8], rfl⟩) (Nat.le_of_ble_eq_true rfl) (Nat.le_of_ble_eq_true rfl) dX0_isAt_29
  · refine lv_aload_n gX gB dX0_isAt_12 rfl (lv_at hl 0 rfl) ?_
    refine gx_get C hW fX0_17 (gx_pl hh fh) rfl dX0_isAt_13 ?_
    refine lv_aload_n gX gB dX0_isAt_16 rfl (lv_at hl 1 rfl) ?_
    refine gx_get C hW fX0_17 (gx_pl ha fa) rfl dX0_isAt_17 ?_
    refine gx_lc_ne (tgt := 28) C dX0_isAt_20 dX0_isAt_21 (by decide) (fun c20 => ?_) (fun c20 => ?_)
    · refine lv_iconst (v := 0) gX gB dX0_isAt_28 (by decide) ?_
      exact gx_zret C hr (by decide) hW (⟨by simp [gx_b, c8, c20], rfl⟩) (Nat.le_of_ble_eq_true rfl) (Nat.le_of_ble_eq_true rfl) dX0_isAt_29
    · refine lv_iconst (v := 1) gX gB dX0_isAt_24 (by decide) ?_
      refine lv_goto (tgt := 29) gX gB dX0_isAt_25 (by decide) ?_
      exact gx_zret C hr (by decide) hW (⟨by simp [gx_b, c8, c20], rfl⟩) (Nat.le_of_ble_eq_true rfl) (Nat.le_of_ble_eq_true rfl) dX0_isAt_29
set_option maxHeartbeats 4000000 in
set_option maxRecDepth 100000 in
theorem kX0_isBefore (l : Launch) (G : gx_T) (L : List Nat) (f : Nat → va_E) (h a : Nat) (n na : Int32) (x y xa ya : Int64) (hh : h ∈ L) (fh : f h = .inr (5, [.int n, .long x, .long y])) (ha : a ∈ L) (fa : f a = .inr (5, [.int na, .long xa, .long ya])) : gx_M l G yX0_isBefore cX0_isBefore 2 (some .boolean) ({ frames := 0, cells := 0, slots := 0, locals := 0 } : Room) [.ref h, .ref a] (va_pl L f) (fun v u => v = some (.int (if x = xa then (if y = ya then gx_b (n < na) else gx_b (y < ya)) else gx_b (x < xa))) ∧ u = va_pl L f) := by
  refine gx_start (by decide +kernel) (Nat.le_of_ble_eq_true rfl) ?_
  intro p e s m args below meth c A ls C hr hnm hW hl
  have gX := C.x
  have gB := C.b
  have hl : lv_has ls 2 [(0, .ref h), (1, .ref a)] := hl
  refine lv_aload_n gX gB dX0_isBefore_0 rfl (lv_at hl 0 rfl) ?_
  refine gx_get C hW fX0_13 (gx_pl hh fh) rfl dX0_isBefore_1 ?_
  refine lv_aload_n gX gB dX0_isBefore_4 rfl (lv_at hl 1 rfl) ?_
  refine gx_get C hW fX0_13 (gx_pl ha fa) rfl dX0_isBefore_5 ?_
  refine gx_lc_eq (tgt := 30) C dX0_isBefore_8 dX0_isBefore_9 (by decide) (fun c8 => ?_) (fun c8 => ?_)
  · refine lv_aload_n gX gB dX0_isBefore_30 rfl (lv_at hl 0 rfl) ?_
    refine gx_get C hW fX0_17 (gx_pl hh fh) rfl dX0_isBefore_31 ?_
    refine lv_aload_n gX gB dX0_isBefore_34 rfl (lv_at hl 1 rfl) ?_
    refine gx_get C hW fX0_17 (gx_pl ha fa) rfl dX0_isBefore_35 ?_
    refine gx_lc_eq (tgt := 62) C dX0_isBefore_38 dX0_isBefore_39 (by decide) (fun c38 => ?_) (fun c38 => ?_)
    · refine lv_aload_n gX gB dX0_isBefore_62 rfl (lv_at hl 0 rfl) ?_
      refine gx_get C hW fX0_7 (gx_pl hh fh) rfl dX0_isBefore_63 ?_
      refine lv_aload_n gX gB dX0_isBefore_66 rfl (lv_at hl 1 rfl) ?_
      refine gx_get C hW fX0_7 (gx_pl ha fa) rfl dX0_isBefore_67 ?_
      refine lv_icmp_ge (tgt := 77) gX gB dX0_isBefore_70 (by decide) (fun c70 => ?_) (fun c70 => ?_)
      · refine lv_iconst (v := 0) gX gB dX0_isBefore_77 (by decide) ?_
        exact gx_zret C hr (by decide) hW (⟨by simp [gx_b, c8, c38, c70], rfl⟩) (Nat.le_of_ble_eq_true rfl) (Nat.le_of_ble_eq_true rfl) dX0_isBefore_78
      · refine lv_iconst (v := 1) gX gB dX0_isBefore_73 (by decide) ?_
        refine lv_goto (tgt := 78) gX gB dX0_isBefore_74 (by decide) ?_
        exact gx_zret C hr (by decide) hW (⟨by simp [gx_b, c8, c38, c70], rfl⟩) (Nat.le_of_ble_eq_true rfl) (Nat.le_of_ble_eq_true rfl) dX0_isBefore_78
    · refine lv_aload_n gX gB dX0_isBefore_42 rfl (lv_at hl 0 rfl) ?_
      refine gx_get C hW fX0_17 (gx_pl hh fh) rfl dX0_isBefore_43 ?_
      refine lv_aload_n gX gB dX0_isBefore_46 rfl (lv_at hl 1 rfl) ?_
      refine gx_get C hW fX0_17 (gx_pl ha fa) rfl dX0_isBefore_47 ?_
      refine gx_lc_ge (tgt := 58) C dX0_isBefore_50 dX0_isBefore_51 (by decide) (fun c50 => ?_) (fun c50 => ?_)
      · refine lv_iconst (v := 0) gX gB dX0_isBefore_58 (by decide) ?_
        refine lv_goto (tgt := 78) gX gB dX0_isBefore_59 (by decide) ?_
        exact gx_zret C hr (by decide) hW (⟨by simp [gx_b, c8, c38, c50], rfl⟩) (Nat.le_of_ble_eq_true rfl) (Nat.le_of_ble_eq_true rfl) dX0_isBefore_78
      · refine lv_iconst (v := 1) gX gB dX0_isBefore_54 (by decide) ?_
        refine lv_goto (tgt := 78) gX gB dX0_isBefore_55 (by decide) ?_
        exact gx_zret C hr (by decide) hW (⟨by simp [gx_b, c8, c38, c50], rfl⟩) (Nat.le_of_ble_eq_true rfl) (Nat.le_of_ble_eq_true rfl) dX0_isBefore_78
  · refine lv_aload_n gX gB dX0_isBefore_12 rfl (lv_at hl 0 rfl) ?_
    refine gx_get C hW fX0_13 (gx_pl hh fh) rfl dX0_isBefore_13 ?_
    refine lv_aload_n gX gB dX0_isBefore_16 rfl (lv_at hl 1 rfl) ?_
    refine gx_get C hW fX0_13 (gx_pl ha fa) rfl dX0_isBefore_17 ?_
    refine gx_lc_ge (tgt := 28) C dX0_isBefore_20 dX0_isBefore_21 (by decide) (fun c20 => ?_) (fun c20 => ?_)
    · refine lv_iconst (v := 0) gX gB dX0_isBefore_28 (by decide) ?_
      exact gx_zret C hr (by decide) hW (⟨by simp [gx_b, c8, c20], rfl⟩) (Nat.le_of_ble_eq_true rfl) (Nat.le_of_ble_eq_true rfl) dX0_isBefore_29
    · refine lv_iconst (v := 1) gX gB dX0_isBefore_24 (by decide) ?_
      refine lv_goto (tgt := 29) gX gB dX0_isBefore_25 (by decide) ?_
      exact gx_zret C hr (by decide) hW (⟨by simp [gx_b, c8, c20], rfl⟩) (Nat.le_of_ble_eq_true rfl) (Nat.le_of_ble_eq_true rfl) dX0_isBefore_29
/-- whether b is seen more to the right from h than a is -/
def ft_more (x y xa ya xb yb : Int64) : Prop := ¬ (x = xb ∧ y = yb) ∧ ((x = xa ∧ y = ya) ∨ (xa - x) * (yb - y) - (ya - y) * (xb - x) < 0 ∨ ((xa - x) * (yb - y) - (ya - y) * (xb - x) = 0 ∧ (xa - x) * (xa - x) + (ya - y) * (ya - y) < (xb - x) * (xb - x) + (yb - y) * (yb - y)))
theorem gx_b0 {b : Prop} [Decidable b] : gx_b b = 0 ↔ ¬ b := by
  unfold gx_b
  by_cases h : b <;> simp [h]
set_option maxHeartbeats 4000000 in
set_option maxRecDepth 100000 in
theorem kX0_seesMoreRightOf (l : Launch) (G : gx_T) (L : List Nat) (f : Nat → va_E) (h a b : Nat) (n na nb : Int32) (x y xa ya xb yb : Int64) (hh : h ∈ L) (fh : f h = .inr (5, [.int n, .long x, .long y])) (ha : a ∈ L) (fa : f a = .inr (5, [.int na, .long xa, .long ya])) (hb : b ∈ L) (fb : f b = .inr (5, [.int nb, .long xb, .long yb])) : gx_M l G yX0_seesMoreRightOf cX0_seesMoreRightOf 5 (some .boolean) ({ frames := 1, cells := 0, slots := 0, locals := 22 } : Room) [.ref h, .ref a, .ref b] (va_pl L f) (fun v u => v = some (.int (@gx_b (ft_more x y xa ya xb yb) (Classical.propDecidable _))) ∧ u = va_pl L f) := by
  refine gx_start (by decide +kernel) (Nat.le_of_ble_eq_true rfl) ?_
  intro p e s m args below meth c A ls C hr hnm hW hl
  have gX := C.x
  have gB := C.b
  have hl : lv_has ls 5 [(0, .ref h), (1, .ref a), (2, .ref b)] := hl
  refine lv_aload_n gX gB dX0_seesMoreRightOf_0 rfl (lv_at hl 0 rfl) ?_
  refine lv_aload_n gX gB dX0_seesMoreRightOf_1 rfl (lv_at hl 2 rfl) ?_
  refine gx_callV (wr := []) (rest := []) C hW sX0_20 (kX0_isAt l G L f h b n nb x y xb yb hh fh hb fb) (gx_pl hh fh) rfl rfl ⟨(Nat.le_of_ble_eq_true rfl), (Nat.le_of_ble_eq_true rfl)⟩ hl.1 rfl (Nat.le_of_ble_eq_true rfl) dX0_seesMoreRightOf_2 ⟨(Nat.le_of_ble_eq_true rfl), (Nat.le_of_ble_eq_true rfl)⟩ (fun v9 u9 H locs hp hW => ?_)
  obtain ⟨rfl, rfl⟩ := hp
  have hW : gx_W G A s (va_pl L f) H locs := hW
  refine W.eq (g2 := F0 m 5 ls [.int (gx_b (x = xb ∧ y = yb))]) rfl ?_
  refine W.widen (k := 0) (n := 0) (Nat.le_of_ble_eq_true rfl) (Nat.le_of_ble_eq_true rfl) ?_
  refine lv_if_eq (tgt := 10) gX gB dX0_seesMoreRightOf_5 (by decide) (fun c5 => ?_) (fun c5 => ?_)
  · refine lv_aload_n gX gB dX0_seesMoreRightOf_10 rfl (lv_at hl 0 rfl) ?_
    refine lv_aload_n gX gB dX0_seesMoreRightOf_11 rfl (lv_at hl 1 rfl) ?_
    refine gx_callV (wr := []) (rest := []) C hW sX0_20 (kX0_isAt l G L f h a n na x y xa ya hh fh ha fa) (gx_pl hh fh) rfl rfl ⟨(Nat.le_of_ble_eq_true rfl), (Nat.le_of_ble_eq_true rfl)⟩ hl.1 rfl (Nat.le_of_ble_eq_true rfl) dX0_seesMoreRightOf_12 ⟨(Nat.le_of_ble_eq_true rfl), (Nat.le_of_ble_eq_true rfl)⟩ (fun v9 u9 H locs hp hW => ?_)
    obtain ⟨rfl, rfl⟩ := hp
    have hW : gx_W G A s (va_pl L f) H locs := hW
    refine W.eq (g2 := F0 m 15 ls [.int (gx_b (x = xa ∧ y = ya))]) rfl ?_
    refine W.widen (k := 0) (n := 0) (Nat.le_of_ble_eq_true rfl) (Nat.le_of_ble_eq_true rfl) ?_
    refine lv_if_eq (tgt := 20) gX gB dX0_seesMoreRightOf_15 (by decide) (fun c15 => ?_) (fun c15 => ?_)
    · refine lv_aload_n gX gB dX0_seesMoreRightOf_20 rfl (lv_at hl 0 rfl) ?_
      refine lv_aload_n gX gB dX0_seesMoreRightOf_21 rfl (lv_at hl 1 rfl) ?_
      refine lv_aload_n gX gB dX0_seesMoreRightOf_22 rfl (lv_at hl 2 rfl) ?_
      refine gx_callV (wr := []) (rest := []) C hW sX0_24 (kX0_turn l G L f h a b n na nb x y xa ya xb yb hh fh ha fa hb fb) (gx_pl hh fh) rfl rfl ⟨(Nat.le_of_ble_eq_true rfl), (Nat.le_of_ble_eq_true rfl)⟩ hl.1 rfl (Nat.le_of_ble_eq_true rfl) dX0_seesMoreRightOf_23 ⟨(Nat.le_of_ble_eq_true rfl), (Nat.le_of_ble_eq_true rfl)⟩ (fun v9 u9 H locs hp hW => ?_)
      obtain ⟨rfl, rfl⟩ := hp
      have hW : gx_W G A s (va_pl L f) H locs := hW
      refine W.eq (g2 := F0 m 26 ls [.long ((xa - x) * (yb - y) - (ya - y) * (xb - x))]) rfl ?_
      refine W.widen (k := 0) (n := 0) (Nat.le_of_ble_eq_true rfl) (Nat.le_of_ble_eq_true rfl) ?_
      refine lv_lstore_n (lv' := [(3, .long ((xa - x) * (yb - y) - (ya - y) * (xb - x))), (0, .ref h), (1, .ref a), (2, .ref b)]) gX gB dX0_seesMoreRightOf_26 rfl hl (by decide) rfl (fun ls hl => ?_)
      refine lv_lload_n gX gB dX0_seesMoreRightOf_27 rfl (lv_at hl 0 rfl) ?_
      refine lv_lconst (v := 0) gX gB dX0_seesMoreRightOf_28 (by decide) ?_
      refine gx_lc_lt (tgt := 53) C dX0_seesMoreRightOf_29 dX0_seesMoreRightOf_30 (by decide) (fun c29 => ?_) (fun c29 => ?_)
      · refine lv_iconst (v := 1) gX gB dX0_seesMoreRightOf_53 (by decide) ?_
        refine lv_goto (tgt := 58) gX gB dX0_seesMoreRightOf_54 (by decide) ?_
        exact gx_zret C hr (by decide) hW (⟨congrArg (fun z => some (Value.int z)) (by
                  unfold ft_more
                  simp_all [gx_b0, gx_b]), rfl⟩) (Nat.le_of_ble_eq_true rfl) (Nat.le_of_ble_eq_true rfl) dX0_seesMoreRightOf_58
      · refine lv_lload_n gX gB dX0_seesMoreRightOf_33 rfl (lv_at hl 0 rfl) ?_
        refine lv_lconst (v := 0) gX gB dX0_seesMoreRightOf_34 (by decide) ?_
        refine gx_lc_ne (tgt := 57) C dX0_seesMoreRightOf_35 dX0_seesMoreRightOf_36 (by decide) (fun c35 => ?_) (fun c35 => ?_)
        · refine lv_iconst (v := 0) gX gB dX0_seesMoreRightOf_57 (by decide) ?_
          exact gx_zret C hr (by decide) hW (⟨congrArg (fun z => some (Value.int z)) (by
                      unfold ft_more
                      simp_all [gx_b0, gx_b]), rfl⟩) (Nat.le_of_ble_eq_true rfl) (Nat.le_of_ble_eq_true rfl) dX0_seesMoreRightOf_58
        · refine lv_aload_n gX gB dX0_seesMoreRightOf_39 rfl (lv_at hl 1 rfl) ?_
          refine lv_aload_n gX gB dX0_seesMoreRightOf_40 rfl (lv_at hl 3 rfl) ?_
          refine gx_callV (wr := []) (rest := []) C hW sX0_28 (kX0_squareTo l G L f h b n nb x y xb yb hh fh hb fb) (gx_pl hh fh) rfl rfl ⟨(Nat.le_of_ble_eq_true rfl), (Nat.le_of_ble_eq_true rfl)⟩ hl.1 rfl (Nat.le_of_ble_eq_true rfl) dX0_seesMoreRightOf_41 ⟨(Nat.le_of_ble_eq_true rfl), (Nat.le_of_ble_eq_true rfl)⟩ (fun v9 u9 H locs hp hW => ?_)
          obtain ⟨rfl, rfl⟩ := hp
          have hW : gx_W G A s (va_pl L f) H locs := hW
          refine W.eq (g2 := F0 m 44 ls [.long ((xb - x) * (xb - x) + (yb - y) * (yb - y))]) rfl ?_
          refine W.widen (k := 0) (n := 0) (Nat.le_of_ble_eq_true rfl) (Nat.le_of_ble_eq_true rfl) ?_
          refine lv_aload_n gX gB dX0_seesMoreRightOf_44 rfl (lv_at hl 1 rfl) ?_
          refine lv_aload_n gX gB dX0_seesMoreRightOf_45 rfl (lv_at hl 2 rfl) ?_
          refine gx_callV (wr := []) (rest := [.long ((xb - x) * (xb - x) + (yb - y) * (yb - y))]) C hW sX0_28 (kX0_squareTo l G L f h a n na x y xa ya hh fh ha fa) (gx_pl hh fh) rfl rfl ⟨(Nat.le_of_ble_eq_true rfl), (Nat.le_of_ble_eq_true rfl)⟩ hl.1 rfl (Nat.le_of_ble_eq_true rfl) dX0_seesMoreRightOf_46 ⟨(Nat.le_of_ble_eq_true rfl), (Nat.le_of_ble_eq_true rfl)⟩ (fun v9 u9 H locs hp hW => ?_)
          obtain ⟨rfl, rfl⟩ := hp
          have hW : gx_W G A s (va_pl L f) H locs := hW
          refine W.eq (g2 := F0 m 49 ls [.long ((xa - x) * (xa - x) + (ya - y) * (ya - y)), .long ((xb - x) * (xb - x) + (yb - y) * (yb - y))]) rfl ?_
          refine W.widen (k := 0) (n := 0) (Nat.le_of_ble_eq_true rfl) (Nat.le_of_ble_eq_true rfl) ?_
          refine gx_lc_le (tgt := 57) C dX0_seesMoreRightOf_49 dX0_seesMoreRightOf_50 (by decide) (fun c49 => ?_) (fun c49 => ?_)
          · refine lv_iconst (v := 0) gX gB dX0_seesMoreRightOf_57 (by decide) ?_
            exact gx_zret C hr (by decide) hW (⟨congrArg (fun z => some (Value.int z)) (by
                          unfold ft_more
                          simp_all [gx_b0, gx_b]), rfl⟩) (Nat.le_of_ble_eq_true rfl) (Nat.le_of_ble_eq_true rfl) dX0_seesMoreRightOf_58
          · refine lv_iconst (v := 1) gX gB dX0_seesMoreRightOf_53 (by decide) ?_
            refine lv_goto (tgt := 58) gX gB dX0_seesMoreRightOf_54 (by decide) ?_
            exact gx_zret C hr (by decide) hW (⟨congrArg (fun z => some (Value.int z)) (by
                          unfold ft_more
                          simp_all [gx_b0, gx_b]), rfl⟩) (Nat.le_of_ble_eq_true rfl) (Nat.le_of_ble_eq_true rfl) dX0_seesMoreRightOf_58
    · refine lv_iconst (v := 1) gX gB dX0_seesMoreRightOf_18 (by decide) ?_
      exact gx_zret C hr (by decide) hW (⟨congrArg (fun z => some (Value.int z)) (by
              unfold ft_more
              simp_all [gx_b0, gx_b]), rfl⟩) (Nat.le_of_ble_eq_true rfl) (Nat.le_of_ble_eq_true rfl) dX0_seesMoreRightOf_19
  · refine lv_iconst (v := 0) gX gB dX0_seesMoreRightOf_8 (by decide) ?_
    exact gx_zret C hr (by decide) hW (⟨congrArg (fun z => some (Value.int z)) (by
          unfold ft_more
          simp_all [gx_b0, gx_b]), rfl⟩) (Nat.le_of_ble_eq_true rfl) (Nat.le_of_ble_eq_true rfl) dX0_seesMoreRightOf_9
end
section
/-! LEAVES: Side, Load, Trial. -/
set_option maxHeartbeats 4000000 in
set_option maxRecDepth 100000 in
theorem kX2_init (l : Launch) (G : gx_T) (L : List Nat) (f : Nat → va_E) (h : Nat) (a b : Nat) (hh : h ∈ L) (fh : f h = .inr (7, [.null, .null])) : gx_M l G yX2_init cX2_init 3 none ({ frames := 1, cells := 0, slots := 0, locals := 20 } : Room) [.ref h, .ref a, .ref b] (va_pl L f) (fun v u => v = none ∧ u = va_pl L (va_up f h (.inr (7, [.ref a, .ref b])))) := by
  refine gx_start (by decide +kernel) (Nat.le_of_ble_eq_true rfl) ?_
  intro p e s m args below meth c A ls C hr hnm hW hl
  have gX := C.x
  have gB := C.b
  have hl : lv_has ls 3 [(0, .ref h), (1, .ref a), (2, .ref b)] := hl
  refine lv_aload_n gX gB dX2_init_0 rfl (lv_at hl 0 rfl) ?_
  refine gx_obj C (tq_4 67 (by decide +kernel) rfl) hl.1 dX2_init_1 (Nat.le_of_ble_eq_true rfl) (Nat.le_of_ble_eq_true rfl) ?_
  refine lv_aload_n gX gB dX2_init_4 rfl (lv_at hl 0 rfl) ?_
  refine lv_aload_n gX gB dX2_init_5 rfl (lv_at hl 1 rfl) ?_
  refine gx_put C hW clX2 fX2_7 hh fh (Or.inr ⟨hnm, rfl⟩) rfl rfl (Nat.le_of_ble_eq_true rfl) dX2_init_6 (fun H locs hW => ?_)
  obtain ⟨f1, hf1⟩ : ∃ zz, zz = va_up f h (.inr (7, [.ref a, .null])) := ⟨_, rfl⟩
  have hW : gx_W G A s (va_pl L f1) H locs := by rw [hf1]; exact hW
  have f1_h : f1 h = .inr (7, [.ref a, .null]) := by rw [hf1]; exact va_up_self _ _ _
  refine lv_aload_n gX gB dX2_init_9 rfl (lv_at hl 0 rfl) ?_
  refine lv_aload_n gX gB dX2_init_10 rfl (lv_at hl 2 rfl) ?_
  refine gx_put C hW clX2 fX2_13 hh f1_h (Or.inr ⟨hnm, rfl⟩) rfl rfl (Nat.le_of_ble_eq_true rfl) dX2_init_11 (fun H locs hW => ?_)
  obtain ⟨f2, hf2⟩ : ∃ zz, zz = va_up f1 h (.inr (7, [.ref a, .ref b])) := ⟨_, rfl⟩
  have hW : gx_W G A s (va_pl L f2) H locs := by rw [hf2]; exact hW
  have f2_h : f2 h = .inr (7, [.ref a, .ref b]) := by rw [hf2]; exact va_up_self _ _ _
  exact gx_vret C hr hW (⟨rfl, by rw [hf2, hf1]; simp only [bx_uu]⟩) (Nat.le_of_ble_eq_true rfl) (Nat.le_of_ble_eq_true rfl) dX2_init_14
set_option maxHeartbeats 4000000 in
set_option maxRecDepth 100000 in
theorem kX3_init (l : Launch) (G : gx_T) (L : List Nat) (f : Nat → va_E) (h : Nat) (a : Nat) (k : Int32) (hh : h ∈ L) (fh : f h = .inr (8, [.null, .int 0])) : gx_M l G yX3_init cX3_init 3 none ({ frames := 1, cells := 0, slots := 0, locals := 20 } : Room) [.ref h, .ref a, .int k] (va_pl L f) (fun v u => v = none ∧ u = va_pl L (va_up f h (.inr (8, [.ref a, .int k])))) := by
  refine gx_start (by decide +kernel) (Nat.le_of_ble_eq_true rfl) ?_
  intro p e s m args below meth c A ls C hr hnm hW hl
  have gX := C.x
  have gB := C.b
  have hl : lv_has ls 3 [(0, .ref h), (1, .ref a), (2, .int k)] := hl
  refine lv_aload_n gX gB dX3_init_0 rfl (lv_at hl 0 rfl) ?_
  refine gx_obj C (tq_2 91 (by decide +kernel) rfl) hl.1 dX3_init_1 (Nat.le_of_ble_eq_true rfl) (Nat.le_of_ble_eq_true rfl) ?_
  refine lv_aload_n gX gB dX3_init_4 rfl (lv_at hl 0 rfl) ?_
  refine lv_aload_n gX gB dX3_init_5 rfl (lv_at hl 1 rfl) ?_
  refine gx_put C hW clX3 fX3_7 hh fh (Or.inr ⟨hnm, rfl⟩) rfl rfl (Nat.le_of_ble_eq_true rfl) dX3_init_6 (fun H locs hW => ?_)
  obtain ⟨f3, hf3⟩ : ∃ zz, zz = va_up f h (.inr (8, [.ref a, .int 0])) := ⟨_, rfl⟩
  have hW : gx_W G A s (va_pl L f3) H locs := by rw [hf3]; exact hW
  have f3_h : f3 h = .inr (8, [.ref a, .int 0]) := by rw [hf3]; exact va_up_self _ _ _
  refine lv_aload_n gX gB dX3_init_9 rfl (lv_at hl 0 rfl) ?_
  refine lv_iload_n gX gB dX3_init_10 rfl (lv_at hl 2 rfl) ?_
  refine gx_put C hW clX3 fX3_13 hh f3_h (Or.inr ⟨hnm, rfl⟩) rfl rfl (Nat.le_of_ble_eq_true rfl) dX3_init_11 (fun H locs hW => ?_)
  obtain ⟨f4, hf4⟩ : ∃ zz, zz = va_up f3 h (.inr (8, [.ref a, .int k])) := ⟨_, rfl⟩
  have hW : gx_W G A s (va_pl L f4) H locs := by rw [hf4]; exact hW
  have f4_h : f4 h = .inr (8, [.ref a, .int k]) := by rw [hf4]; exact va_up_self _ _ _
  exact gx_vret C hr hW (⟨rfl, by rw [hf4, hf3]; simp only [bx_uu]⟩) (Nat.le_of_ble_eq_true rfl) (Nat.le_of_ble_eq_true rfl) dX3_init_14
set_option maxHeartbeats 4000000 in
set_option maxRecDepth 100000 in
theorem kX1_init (l : Launch) (G : gx_T) (L : List Nat) (f : Nat → va_E) (h : Nat) (x y z g : Int64) (hh : h ∈ L) (fh : f h = .inr (6, [.long 0, .long 0, .long 0, .long 0, .int 0, .long 0])) : gx_M l G yX1_init cX1_init 9 none ({ frames := 1, cells := 0, slots := 0, locals := 20 } : Room) [.ref h, .long x, .long y, .long z, .long g] (va_pl L f) (fun v u => v = none ∧ u = va_pl L (va_up f h (.inr (6, [.long x, .long y, .long z, .long g, .int (-1), .long 0])))) := by
  refine gx_start (by decide +kernel) (Nat.le_of_ble_eq_true rfl) ?_
  intro p e s m args below meth c A ls C hr hnm hW hl
  have gX := C.x
  have gB := C.b
  have hl : lv_has ls 9 [(0, .ref h), (1, .long x), (3, .long y), (5, .long z), (7, .long g)] := hl
  refine lv_aload_n gX gB dX1_init_0 rfl (lv_at hl 0 rfl) ?_
  refine gx_obj C (tq_1 104 (by decide +kernel) rfl) hl.1 dX1_init_1 (Nat.le_of_ble_eq_true rfl) (Nat.le_of_ble_eq_true rfl) ?_
  refine lv_aload_n gX gB dX1_init_4 rfl (lv_at hl 0 rfl) ?_
  refine lv_lload_n gX gB dX1_init_5 rfl (lv_at hl 1 rfl) ?_
  refine gx_put C hW clX1 fX1_9 hh fh (Or.inr ⟨hnm, rfl⟩) rfl rfl (Nat.le_of_ble_eq_true rfl) dX1_init_6 (fun H locs hW => ?_)
  obtain ⟨f5, hf5⟩ : ∃ zz, zz = va_up f h (.inr (6, [.long x, .long 0, .long 0, .long 0, .int 0, .long 0])) := ⟨_, rfl⟩
  have hW : gx_W G A s (va_pl L f5) H locs := by rw [hf5]; exact hW
  have f5_h : f5 h = .inr (6, [.long x, .long 0, .long 0, .long 0, .int 0, .long 0]) := by rw [hf5]; exact va_up_self _ _ _
  refine lv_aload_n gX gB dX1_init_9 rfl (lv_at hl 0 rfl) ?_
  refine lv_lload_n gX gB dX1_init_10 rfl (lv_at hl 2 rfl) ?_
  refine gx_put C hW clX1 fX1_15 hh f5_h (Or.inr ⟨hnm, rfl⟩) rfl rfl (Nat.le_of_ble_eq_true rfl) dX1_init_11 (fun H locs hW => ?_)
  obtain ⟨f6, hf6⟩ : ∃ zz, zz = va_up f5 h (.inr (6, [.long x, .long y, .long 0, .long 0, .int 0, .long 0])) := ⟨_, rfl⟩
  have hW : gx_W G A s (va_pl L f6) H locs := by rw [hf6]; exact hW
  have f6_h : f6 h = .inr (6, [.long x, .long y, .long 0, .long 0, .int 0, .long 0]) := by rw [hf6]; exact va_up_self _ _ _
  refine lv_aload_n gX gB dX1_init_14 rfl (lv_at hl 0 rfl) ?_
  refine lv_lload gX gB dX1_init_15 (lv_at hl 3 rfl) ?_
  refine gx_put C hW clX1 fX1_18 hh f6_h (Or.inr ⟨hnm, rfl⟩) rfl rfl (Nat.le_of_ble_eq_true rfl) dX1_init_17 (fun H locs hW => ?_)
  obtain ⟨f7, hf7⟩ : ∃ zz, zz = va_up f6 h (.inr (6, [.long x, .long y, .long z, .long 0, .int 0, .long 0])) := ⟨_, rfl⟩
  have hW : gx_W G A s (va_pl L f7) H locs := by rw [hf7]; exact hW
  have f7_h : f7 h = .inr (6, [.long x, .long y, .long z, .long 0, .int 0, .long 0]) := by rw [hf7]; exact va_up_self _ _ _
  refine lv_aload_n gX gB dX1_init_20 rfl (lv_at hl 0 rfl) ?_
  refine lv_lload gX gB dX1_init_21 (lv_at hl 4 rfl) ?_
  refine gx_put C hW clX1 fX1_21 hh f7_h (Or.inr ⟨hnm, rfl⟩) rfl rfl (Nat.le_of_ble_eq_true rfl) dX1_init_23 (fun H locs hW => ?_)
  obtain ⟨f8, hf8⟩ : ∃ zz, zz = va_up f7 h (.inr (6, [.long x, .long y, .long z, .long g, .int 0, .long 0])) := ⟨_, rfl⟩
  have hW : gx_W G A s (va_pl L f8) H locs := by rw [hf8]; exact hW
  have f8_h : f8 h = .inr (6, [.long x, .long y, .long z, .long g, .int 0, .long 0]) := by rw [hf8]; exact va_up_self _ _ _
  refine lv_aload_n gX gB dX1_init_26 rfl (lv_at hl 0 rfl) ?_
  refine lv_iconst (v := (-1)) gX gB dX1_init_27 (by decide) ?_
  refine gx_put C hW clX1 fX1_24 hh f8_h (Or.inl rfl) rfl rfl (Nat.le_of_ble_eq_true rfl) dX1_init_28 (fun H locs hW => ?_)
  obtain ⟨f9, hf9⟩ : ∃ zz, zz = va_up f8 h (.inr (6, [.long x, .long y, .long z, .long g, .int (-1), .long 0])) := ⟨_, rfl⟩
  have hW : gx_W G A s (va_pl L f9) H locs := by rw [hf9]; exact hW
  have f9_h : f9 h = .inr (6, [.long x, .long y, .long z, .long g, .int (-1), .long 0]) := by rw [hf9]; exact va_up_self _ _ _
  refine lv_aload_n gX gB dX1_init_31 rfl (lv_at hl 0 rfl) ?_
  refine lv_lconst (v := 0) gX gB dX1_init_32 (by decide) ?_
  refine gx_put C hW clX1 fX1_28 hh f9_h (Or.inl rfl) rfl rfl (Nat.le_of_ble_eq_true rfl) dX1_init_33 (fun H locs hW => ?_)
  obtain ⟨f10, hf10⟩ : ∃ zz, zz = va_up f9 h (.inr (6, [.long x, .long y, .long z, .long g, .int (-1), .long 0])) := ⟨_, rfl⟩
  have hW : gx_W G A s (va_pl L f10) H locs := by rw [hf10]; exact hW
  have f10_h : f10 h = .inr (6, [.long x, .long y, .long z, .long g, .int (-1), .long 0]) := by rw [hf10]; exact va_up_self _ _ _
  exact gx_vret C hr hW (⟨rfl, by rw [hf10, hf9, hf8, hf7, hf6, hf5]; simp only [bx_uu]⟩) (Nat.le_of_ble_eq_true rfl) (Nat.le_of_ble_eq_true rfl) dX1_init_36
/-- twice the area from a to b and to (x, y) -/
def ft_turn (xa ya xb yb x y : Int64) : Int64 := (xb - xa) * (y - ya) - (yb - ya) * (x - xa)
set_option maxHeartbeats 4000000 in
set_option maxRecDepth 100000 in
theorem kX2_turnTo (l : Launch) (G : gx_T) (L : List Nat) (f : Nat → va_E) (h a b : Nat) (na nb : Int32) (xa ya xb yb x y : Int64) (hh : h ∈ L) (fh : f h = .inr (7, [.ref a, .ref b])) (ha : a ∈ L) (fa : f a = .inr (5, [.int na, .long xa, .long ya])) (hb : b ∈ L) (fb : f b = .inr (5, [.int nb, .long xb, .long yb])) : gx_M l G yX2_turnTo cX2_turnTo 5 (some .long) ({ frames := 0, cells := 0, slots := 0, locals := 0 } : Room) [.ref h, .long x, .long y] (va_pl L f) (fun v u => v = some (.long (ft_turn xa ya xb yb x y)) ∧ u = va_pl L f) := by
  refine gx_start (by decide +kernel) (Nat.le_of_ble_eq_true rfl) ?_
  intro p e s m args below meth c A ls C hr hnm hW hl
  have gX := C.x
  have gB := C.b
  have hl : lv_has ls 5 [(0, .ref h), (1, .long x), (3, .long y)] := hl
  refine lv_aload_n gX gB dX2_turnTo_0 rfl (lv_at hl 0 rfl) ?_
  refine gx_get C hW fX2_13 (gx_pl hh fh) rfl dX2_turnTo_1 ?_
  refine gx_getN C hW fX2_16n (gx_pl hb fb) rfl dX2_turnTo_4 ?_
  refine lv_aload_n gX gB dX2_turnTo_7 rfl (lv_at hl 0 rfl) ?_
  refine gx_get C hW fX2_7 (gx_pl hh fh) rfl dX2_turnTo_8 ?_
  refine gx_getN C hW fX2_16n (gx_pl ha fa) rfl dX2_turnTo_11 ?_
  refine lv_lsub gX gB dX2_turnTo_14 ?_
  refine lv_lload_n gX gB dX2_turnTo_15 rfl (lv_at hl 2 rfl) ?_
  refine lv_aload_n gX gB dX2_turnTo_16 rfl (lv_at hl 0 rfl) ?_
  refine gx_get C hW fX2_7 (gx_pl hh fh) rfl dX2_turnTo_17 ?_
  refine gx_getN C hW fX2_22n (gx_pl ha fa) rfl dX2_turnTo_20 ?_
  refine lv_lsub gX gB dX2_turnTo_23 ?_
  refine lv_lmul gX gB dX2_turnTo_24 ?_
  refine lv_aload_n gX gB dX2_turnTo_25 rfl (lv_at hl 0 rfl) ?_
  refine gx_get C hW fX2_13 (gx_pl hh fh) rfl dX2_turnTo_26 ?_
  refine gx_getN C hW fX2_22n (gx_pl hb fb) rfl dX2_turnTo_29 ?_
  refine lv_aload_n gX gB dX2_turnTo_32 rfl (lv_at hl 0 rfl) ?_
  refine gx_get C hW fX2_7 (gx_pl hh fh) rfl dX2_turnTo_33 ?_
  refine gx_getN C hW fX2_22n (gx_pl ha fa) rfl dX2_turnTo_36 ?_
  refine lv_lsub gX gB dX2_turnTo_39 ?_
  refine lv_lload_n gX gB dX2_turnTo_40 rfl (lv_at hl 1 rfl) ?_
  refine lv_aload_n gX gB dX2_turnTo_41 rfl (lv_at hl 0 rfl) ?_
  refine gx_get C hW fX2_7 (gx_pl hh fh) rfl dX2_turnTo_42 ?_
  refine gx_getN C hW fX2_16n (gx_pl ha fa) rfl dX2_turnTo_45 ?_
  refine lv_lsub gX gB dX2_turnTo_48 ?_
  refine lv_lmul gX gB dX2_turnTo_49 ?_
  refine lv_lsub gX gB dX2_turnTo_50 ?_
  exact gx_lret C hr hW (⟨rfl, rfl⟩) (Nat.le_of_ble_eq_true rfl) (Nat.le_of_ble_eq_true rfl) dX2_turnTo_51
set_option maxHeartbeats 4000000 in
set_option maxRecDepth 100000 in
theorem kX1_placeOn (l : Launch) (G : gx_T) (L : List Nat) (f : Nat → va_E) (h : Nat) (x y z gr o : Int64) (dr k : Int32) (hh : h ∈ L) (fh : f h = .inr (6, [.long x, .long y, .long z, .long gr, .int dr, .long o])) : gx_M l G yX1_placeOn cX1_placeOn 2 (some .long) ({ frames := 0, cells := 0, slots := 0, locals := 0 } : Room) [.ref h, .int k] (va_pl L f) (fun v u => v = some (.long (if k = 0 then x else if k = 1 then y else z)) ∧ u = va_pl L f) := by
  refine gx_start (by decide +kernel) (Nat.le_of_ble_eq_true rfl) ?_
  intro p e s m args below meth c A ls C hr hnm hW hl
  have gX := C.x
  have gB := C.b
  have hl : lv_has ls 2 [(0, .ref h), (1, .int k)] := hl
  refine lv_iload_n gX gB dX1_placeOn_0 rfl (lv_at hl 1 rfl) ?_
  refine lv_if_ne (tgt := 9) gX gB dX1_placeOn_1 (by decide) (fun c1 => ?_) (fun c1 => ?_)
  · refine lv_iload_n gX gB dX1_placeOn_9 rfl (lv_at hl 1 rfl) ?_
    refine lv_iconst (v := 1) gX gB dX1_placeOn_10 (by decide) ?_
    refine lv_icmp_ne (tgt := 21) gX gB dX1_placeOn_11 (by decide) (fun c11 => ?_) (fun c11 => ?_)
    · refine lv_aload_n gX gB dX1_placeOn_21 rfl (lv_at hl 0 rfl) ?_
      refine gx_get C hW fX1_18 (gx_pl hh fh) rfl dX1_placeOn_22 ?_
      exact gx_lret C hr hW (⟨by simp [gx_b, c1, c11], rfl⟩) (Nat.le_of_ble_eq_true rfl) (Nat.le_of_ble_eq_true rfl) dX1_placeOn_25
    · refine lv_aload_n gX gB dX1_placeOn_14 rfl (lv_at hl 0 rfl) ?_
      refine gx_get C hW fX1_15 (gx_pl hh fh) rfl dX1_placeOn_15 ?_
      refine lv_goto (tgt := 25) gX gB dX1_placeOn_18 (by decide) ?_
      exact gx_lret C hr hW (⟨by simp [gx_b, c1, c11], rfl⟩) (Nat.le_of_ble_eq_true rfl) (Nat.le_of_ble_eq_true rfl) dX1_placeOn_25
  · refine lv_aload_n gX gB dX1_placeOn_4 rfl (lv_at hl 0 rfl) ?_
    refine gx_get C hW fX1_9 (gx_pl hh fh) rfl dX1_placeOn_5 ?_
    exact gx_lret C hr hW (⟨by simp [gx_b, c1], rfl⟩) (Nat.le_of_ble_eq_true rfl) (Nat.le_of_ble_eq_true rfl) dX1_placeOn_8
/-- a load's moment about the line from a to b, so many drawers open -/
def ld_moment (xa ya xb yb x y gr o : Int64) (dr k : Int32) : Int64 := gr * ft_turn xa ya xb yb x (if dr = -1 then y else if dr < k then y + o else y)
set_option maxHeartbeats 4000000 in
set_option maxRecDepth 100000 in
theorem kX1_momentAbout (l : Launch) (G : gx_T) (L : List Nat) (f : Nat → va_E) (h d a b : Nat) (na nb dr k : Int32) (xa ya xb yb x y z gr o : Int64) (hh : h ∈ L) (fh : f h = .inr (6, [.long x, .long y, .long z, .long gr, .int dr, .long o])) (hd : d ∈ L) (fd : f d = .inr (7, [.ref a, .ref b])) (ha : a ∈ L) (fa : f a = .inr (5, [.int na, .long xa, .long ya])) (hb : b ∈ L) (fb : f b = .inr (5, [.int nb, .long xb, .long yb])) : gx_M l G yX1_momentAbout cX1_momentAbout 4 (some .long) ({ frames := 1, cells := 0, slots := 0, locals := 24 } : Room) [.ref h, .ref d, .int k] (va_pl L f) (fun v u => v = some (.long (ld_moment xa ya xb yb x y gr o dr k)) ∧ u = va_pl L f) := by
  refine gx_start (by decide +kernel) (Nat.le_of_ble_eq_true rfl) ?_
  intro p e s m args below meth c A ls C hr hnm hW hl
  have gX := C.x
  have gB := C.b
  have hl : lv_has ls 4 [(0, .ref h), (1, .ref d), (2, .int k)] := hl
  refine lv_aload_n gX gB dX1_momentAbout_0 rfl (lv_at hl 0 rfl) ?_
  refine gx_get C hW fX1_24 (gx_pl hh fh) rfl dX1_momentAbout_1 ?_
  refine lv_iconst (v := (-1)) gX gB dX1_momentAbout_4 (by decide) ?_
  refine lv_icmp_eq (tgt := 20) gX gB dX1_momentAbout_5 (by decide) (fun c5 => ?_) (fun c5 => ?_)
  · refine lv_iconst (v := 0) gX gB dX1_momentAbout_20 (by decide) ?_
    refine lv_istore_n (lv' := [(3, .int 0), (0, .ref h), (1, .ref d), (2, .int k)]) gX gB dX1_momentAbout_21 rfl hl (by decide) rfl (fun ls hl => ?_)
    refine lv_aload_n gX gB dX1_momentAbout_22 rfl (lv_at hl 1 rfl) ?_
    refine gx_get C hW fX1_21 (gx_pl hh fh) rfl dX1_momentAbout_23 ?_
    refine lv_aload_n gX gB dX1_momentAbout_26 rfl (lv_at hl 2 rfl) ?_
    refine lv_aload_n gX gB dX1_momentAbout_27 rfl (lv_at hl 1 rfl) ?_
    refine gx_get C hW fX1_9 (gx_pl hh fh) rfl dX1_momentAbout_28 ?_
    refine lv_iload_n gX gB dX1_momentAbout_31 rfl (lv_at hl 0 rfl) ?_
    refine lv_if_eq (tgt := 47) gX gB dX1_momentAbout_32 (by decide) (fun _ => ?_) (fun h9 => absurd (show 0 = (0 : Int32) from by decide) h9)
    refine lv_aload_n gX gB dX1_momentAbout_47 rfl (lv_at hl 1 rfl) ?_
    refine gx_get C hW fX1_15 (gx_pl hh fh) rfl dX1_momentAbout_48 ?_
    refine gx_callVN (wr := []) (rest := [.long gr]) C hW sX1_31n (kX2_turnTo l G L f d a b na nb xa ya xb yb x y hd fd ha fa hb fb) (gx_pl hd fd) rfl rfl ⟨(Nat.le_of_ble_eq_true rfl), (Nat.le_of_ble_eq_true rfl)⟩ hl.1 rfl (Nat.le_of_ble_eq_true rfl) dX1_momentAbout_51 ⟨(Nat.le_of_ble_eq_true rfl), (Nat.le_of_ble_eq_true rfl)⟩ (fun v9 u9 H locs hp hW => ?_)
    obtain ⟨rfl, rfl⟩ := hp
    have hW : gx_W G A s (va_pl L f) H locs := hW
    refine W.eq (g2 := F0 m 54 ls [.long (ft_turn xa ya xb yb x y), .long gr]) rfl ?_
    refine W.widen (k := 0) (n := 0) (Nat.le_of_ble_eq_true rfl) (Nat.le_of_ble_eq_true rfl) ?_
    refine lv_lmul gX gB dX1_momentAbout_54 ?_
    exact gx_lret C hr hW (⟨by simp [gx_b, ld_moment, c5], rfl⟩) (Nat.le_of_ble_eq_true rfl) (Nat.le_of_ble_eq_true rfl) dX1_momentAbout_55
  · refine lv_aload_n gX gB dX1_momentAbout_8 rfl (lv_at hl 0 rfl) ?_
    refine gx_get C hW fX1_24 (gx_pl hh fh) rfl dX1_momentAbout_9 ?_
    refine lv_iload_n gX gB dX1_momentAbout_12 rfl (lv_at hl 2 rfl) ?_
    refine lv_icmp_ge (tgt := 20) gX gB dX1_momentAbout_13 (by decide) (fun c13 => ?_) (fun c13 => ?_)
    · refine lv_iconst (v := 0) gX gB dX1_momentAbout_20 (by decide) ?_
      refine lv_istore_n (lv' := [(3, .int 0), (0, .ref h), (1, .ref d), (2, .int k)]) gX gB dX1_momentAbout_21 rfl hl (by decide) rfl (fun ls hl => ?_)
      refine lv_aload_n gX gB dX1_momentAbout_22 rfl (lv_at hl 1 rfl) ?_
      refine gx_get C hW fX1_21 (gx_pl hh fh) rfl dX1_momentAbout_23 ?_
      refine lv_aload_n gX gB dX1_momentAbout_26 rfl (lv_at hl 2 rfl) ?_
      refine lv_aload_n gX gB dX1_momentAbout_27 rfl (lv_at hl 1 rfl) ?_
      refine gx_get C hW fX1_9 (gx_pl hh fh) rfl dX1_momentAbout_28 ?_
      refine lv_iload_n gX gB dX1_momentAbout_31 rfl (lv_at hl 0 rfl) ?_
      refine lv_if_eq (tgt := 47) gX gB dX1_momentAbout_32 (by decide) (fun _ => ?_) (fun h9 => absurd (show 0 = (0 : Int32) from by decide) h9)
      refine lv_aload_n gX gB dX1_momentAbout_47 rfl (lv_at hl 1 rfl) ?_
      refine gx_get C hW fX1_15 (gx_pl hh fh) rfl dX1_momentAbout_48 ?_
      refine gx_callVN (wr := []) (rest := [.long gr]) C hW sX1_31n (kX2_turnTo l G L f d a b na nb xa ya xb yb x y hd fd ha fa hb fb) (gx_pl hd fd) rfl rfl ⟨(Nat.le_of_ble_eq_true rfl), (Nat.le_of_ble_eq_true rfl)⟩ hl.1 rfl (Nat.le_of_ble_eq_true rfl) dX1_momentAbout_51 ⟨(Nat.le_of_ble_eq_true rfl), (Nat.le_of_ble_eq_true rfl)⟩ (fun v9 u9 H locs hp hW => ?_)
      obtain ⟨rfl, rfl⟩ := hp
      have hW : gx_W G A s (va_pl L f) H locs := hW
      refine W.eq (g2 := F0 m 54 ls [.long (ft_turn xa ya xb yb x y), .long gr]) rfl ?_
      refine W.widen (k := 0) (n := 0) (Nat.le_of_ble_eq_true rfl) (Nat.le_of_ble_eq_true rfl) ?_
      refine lv_lmul gX gB dX1_momentAbout_54 ?_
      exact gx_lret C hr hW (⟨by simp [gx_b, ld_moment, c5, Int32.not_lt.mpr c13], rfl⟩) (Nat.le_of_ble_eq_true rfl) (Nat.le_of_ble_eq_true rfl) dX1_momentAbout_55
    · refine lv_iconst (v := 1) gX gB dX1_momentAbout_16 (by decide) ?_
      refine lv_goto (tgt := 21) gX gB dX1_momentAbout_17 (by decide) ?_
      refine lv_istore_n (lv' := [(3, .int 1), (0, .ref h), (1, .ref d), (2, .int k)]) gX gB dX1_momentAbout_21 rfl hl (by decide) rfl (fun ls hl => ?_)
      refine lv_aload_n gX gB dX1_momentAbout_22 rfl (lv_at hl 1 rfl) ?_
      refine gx_get C hW fX1_21 (gx_pl hh fh) rfl dX1_momentAbout_23 ?_
      refine lv_aload_n gX gB dX1_momentAbout_26 rfl (lv_at hl 2 rfl) ?_
      refine lv_aload_n gX gB dX1_momentAbout_27 rfl (lv_at hl 1 rfl) ?_
      refine gx_get C hW fX1_9 (gx_pl hh fh) rfl dX1_momentAbout_28 ?_
      refine lv_iload_n gX gB dX1_momentAbout_31 rfl (lv_at hl 0 rfl) ?_
      refine lv_if_eq (tgt := 47) gX gB dX1_momentAbout_32 (by decide) (fun h9 => absurd (show 1 = (0 : Int32) from h9) (by decide)) (fun _ => ?_)
      refine lv_aload_n gX gB dX1_momentAbout_35 rfl (lv_at hl 1 rfl) ?_
      refine gx_get C hW fX1_15 (gx_pl hh fh) rfl dX1_momentAbout_36 ?_
      refine lv_aload_n gX gB dX1_momentAbout_39 rfl (lv_at hl 1 rfl) ?_
      refine gx_get C hW fX1_28 (gx_pl hh fh) rfl dX1_momentAbout_40 ?_
      refine lv_ladd gX gB dX1_momentAbout_43 ?_
      refine lv_goto (tgt := 51) gX gB dX1_momentAbout_44 (by decide) ?_
      refine gx_callVN (wr := []) (rest := [.long gr]) C hW sX1_31n (kX2_turnTo l G L f d a b na nb xa ya xb yb x (y + o) hd fd ha fa hb fb) (gx_pl hd fd) rfl rfl ⟨(Nat.le_of_ble_eq_true rfl), (Nat.le_of_ble_eq_true rfl)⟩ hl.1 rfl (Nat.le_of_ble_eq_true rfl) dX1_momentAbout_51 ⟨(Nat.le_of_ble_eq_true rfl), (Nat.le_of_ble_eq_true rfl)⟩ (fun v9 u9 H locs hp hW => ?_)
      obtain ⟨rfl, rfl⟩ := hp
      have hW : gx_W G A s (va_pl L f) H locs := hW
      refine W.eq (g2 := F0 m 54 ls [.long (ft_turn xa ya xb yb x (y + o)), .long gr]) rfl ?_
      refine W.widen (k := 0) (n := 0) (Nat.le_of_ble_eq_true rfl) (Nat.le_of_ble_eq_true rfl) ?_
      refine lv_lmul gX gB dX1_momentAbout_54 ?_
      exact gx_lret C hr hW (⟨by simp [gx_b, ld_moment, c5, Int32.not_le.mp c13], rfl⟩) (Nat.le_of_ble_eq_true rfl) (Nat.le_of_ble_eq_true rfl) dX1_momentAbout_55
end
section
/-! ARRAYLIST, raw: what each method does to a list (modCount, row, size) and its row. -/
set_option maxHeartbeats 4000000 in
set_option maxRecDepth 100000 in
theorem kJxa1e45_init_da8c8 (l : Launch) (G : gx_T) (ws : va_W) (h : Nat) : gx_M l G yJxa1e45_init_da8c8 cJxa1e45_init_da8c8 1 none ({ frames := 1, cells := 0, slots := 0, locals := 20 } : Room) [.ref h] (ws) (fun v u => v = none ∧ u = ws) := by
  refine gx_start (by decide +kernel) (Nat.le_of_ble_eq_true rfl) ?_
  intro p e s m args below meth c A ls C hr hnm hW hl
  have gX := C.x
  have gB := C.b
  have hl : lv_has ls 1 [(0, .ref h)] := hl
  refine lv_aload_n gX gB dJxa1e45_init_da8c8_0 rfl (lv_at hl 0 rfl) ?_
  refine gx_obj C (tq_1 51 (by decide +kernel) rfl) hl.1 dJxa1e45_init_da8c8_1 (Nat.le_of_ble_eq_true rfl) (Nat.le_of_ble_eq_true rfl) ?_
  exact gx_vret C hr hW (⟨rfl, rfl⟩) (Nat.le_of_ble_eq_true rfl) (Nat.le_of_ble_eq_true rfl) dJxa1e45_init_da8c8_4
set_option maxHeartbeats 4000000 in
set_option maxRecDepth 100000 in
theorem kJxc12de_init_da8c8 (l : Launch) (G : gx_T) (L : List Nat) (f : Nat → va_E) (h : Nat) (hh : h ∈ L) (fh : f h = .inr (4, [.int 0, .null, .int 0])) : gx_M l G yJxc12de_init_da8c8 cJxc12de_init_da8c8 1 none ({ frames := 2, cells := 0, slots := 0, locals := 40 } : Room) [.ref h] (va_pl L f) (fun v u => v = none ∧ u = va_pl L (va_up f h (.inr (4, [.int 0, .null, .int 0])))) := by
  refine gx_start (by decide +kernel) (Nat.le_of_ble_eq_true rfl) ?_
  intro p e s m args below meth c A ls C hr hnm hW hl
  have gX := C.x
  have gB := C.b
  have hl : lv_has ls 1 [(0, .ref h)] := hl
  refine lv_aload_n gX gB dJxc12de_init_da8c8_0 rfl (lv_at hl 0 rfl) ?_
  refine gx_callI (wr := []) (rest := []) C hW sJxc12de_1 (kJxa1e45_init_da8c8 l G (va_pl L f) h) rfl ⟨(Nat.le_of_ble_eq_true rfl), (Nat.le_of_ble_eq_true rfl)⟩ hl.1 rfl (Nat.le_of_ble_eq_true rfl) dJxc12de_init_da8c8_1 ⟨(Nat.le_of_ble_eq_true rfl), (Nat.le_of_ble_eq_true rfl)⟩ (fun v9 u9 H locs hp hW => ?_)
  obtain ⟨rfl, hu⟩ := hp
  rw [hu] at hW
  have hW : gx_W G A s (va_pl L f) H locs := hW
  refine W.eq (g2 := F0 m 4 ls []) rfl ?_
  refine W.widen (k := 0) (n := 0) (Nat.le_of_ble_eq_true rfl) (Nat.le_of_ble_eq_true rfl) ?_
  refine lv_aload_n gX gB dJxc12de_init_da8c8_4 rfl (lv_at hl 0 rfl) ?_
  refine lv_iconst (v := 0) gX gB dJxc12de_init_da8c8_5 (by decide) ?_
  refine gx_put C hW clJx4a65c fJxc12de_7 hh fh (Or.inl rfl) rfl rfl (Nat.le_of_ble_eq_true rfl) dJxc12de_init_da8c8_6 (fun H locs hW => ?_)
  obtain ⟨f11, hf11⟩ : ∃ zz, zz = va_up f h (.inr (4, [.int 0, .null, .int 0])) := ⟨_, rfl⟩
  have hW : gx_W G A s (va_pl L f11) H locs := by rw [hf11]; exact hW
  have f11_h : f11 h = .inr (4, [.int 0, .null, .int 0]) := by rw [hf11]; exact va_up_self _ _ _
  exact gx_vret C hr hW (⟨rfl, by rw [hf11]⟩) (Nat.le_of_ble_eq_true rfl) (Nat.le_of_ble_eq_true rfl) dJxc12de_init_da8c8_9
set_option maxHeartbeats 4000000 in
set_option maxRecDepth 100000 in
theorem kJx4a65c_init_da8c8 (l : Launch) (G : gx_T) (L : List Nat) (f : Nat → va_E) (h : Nat) (hh : h ∈ L) (fh : f h = .inr (4, [.int 0, .null, .int 0])) : gx_M l G yJx4a65c_init_da8c8 cJx4a65c_init_da8c8 1 none ({ frames := 3, cells := 0, slots := 0, locals := 60 } : Room) [.ref h] (va_pl L f) (fun v u => v = none ∧ u = va_pl L (va_up f h (.inr (4, [.int 0, .ref (G.2.2 0), .int 0])))) := by
  refine gx_start (by decide +kernel) (Nat.le_of_ble_eq_true rfl) ?_
  intro p e s m args below meth c A ls C hr hnm hW hl
  have gX := C.x
  have gB := C.b
  have hl : lv_has ls 1 [(0, .ref h)] := hl
  refine lv_aload_n gX gB dJx4a65c_init_da8c8_0 rfl (lv_at hl 0 rfl) ?_
  refine gx_callI (wr := []) (rest := []) C hW sJx4a65c_1 (kJxc12de_init_da8c8 l G L f h hh fh) rfl ⟨(Nat.le_of_ble_eq_true rfl), (Nat.le_of_ble_eq_true rfl)⟩ hl.1 rfl (Nat.le_of_ble_eq_true rfl) dJx4a65c_init_da8c8_1 ⟨(Nat.le_of_ble_eq_true rfl), (Nat.le_of_ble_eq_true rfl)⟩ (fun v9 u9 H locs hp hW => ?_)
  obtain ⟨rfl, hu⟩ := hp
  rw [hu] at hW
  have hW : gx_W G A s (va_pl L (va_up f h (.inr (4, [.int 0, .null, .int 0])))) H locs := hW
  refine W.eq (g2 := F0 m 4 ls []) rfl ?_
  refine W.widen (k := 0) (n := 0) (Nat.le_of_ble_eq_true rfl) (Nat.le_of_ble_eq_true rfl) ?_
  refine lv_aload_n gX gB dJx4a65c_init_da8c8_4 rfl (lv_at hl 0 rfl) ?_
  refine gx_getsE C hW (tq_1 52 (by decide +kernel) rfl) dJx4a65c_init_da8c8_5 ?_
  refine gx_put C hW clJx4a65c fJx4a65c_9 hh (va_up_self f h (.inr (4, [.int 0, .null, .int 0]))) (Or.inl rfl) rfl rfl (Nat.le_of_ble_eq_true rfl) dJx4a65c_init_da8c8_8 (fun H locs hW => ?_)
  obtain ⟨f12, hf12⟩ : ∃ zz, zz = va_up (va_up f h (.inr (4, [.int 0, .null, .int 0]))) h (.inr (4, [.int 0, .ref (G.2.2 0), .int 0])) := ⟨_, rfl⟩
  have hW : gx_W G A s (va_pl L f12) H locs := by rw [hf12]; exact hW
  have f12_h : f12 h = .inr (4, [.int 0, .ref (G.2.2 0), .int 0]) := by rw [hf12]; exact va_up_self _ _ _
  exact gx_vret C hr hW (⟨rfl, by rw [hf12, bx_uu]⟩) (Nat.le_of_ble_eq_true rfl) (Nat.le_of_ble_eq_true rfl) dJx4a65c_init_da8c8_11
set_option maxHeartbeats 4000000 in
set_option maxRecDepth 100000 in
theorem kJx4a65c_size_8abf5 (l : Launch) (G : gx_T) (L : List Nat) (f : Nat → va_E) (h b : Nat) (mc k : Int32) (hh : h ∈ L) (fh : f h = .inr (4, [.int mc, .ref b, .int k])) : gx_M l G yJx4a65c_size_8abf5 cJx4a65c_size_8abf5 1 (some .int) ({ frames := 0, cells := 0, slots := 0, locals := 0 } : Room) [.ref h] (va_pl L f) (fun v u => v = some (.int k) ∧ u = va_pl L f) := by
  refine gx_start (by decide +kernel) (Nat.le_of_ble_eq_true rfl) ?_
  intro p e s m args below meth c A ls C hr hnm hW hl
  have gX := C.x
  have gB := C.b
  have hl : lv_has ls 1 [(0, .ref h)] := hl
  refine lv_aload_n gX gB dJx4a65c_size_8abf5_0 rfl (lv_at hl 0 rfl) ?_
  refine gx_get C hW fJx4a65c_48 (gx_pl hh fh) rfl dJx4a65c_size_8abf5_1 ?_
  exact gx_iret C hr hW (⟨rfl, rfl⟩) (Nat.le_of_ble_eq_true rfl) (Nat.le_of_ble_eq_true rfl) dJx4a65c_size_8abf5_4
set_option maxHeartbeats 4000000 in
set_option maxRecDepth 100000 in
theorem kJx4a65c_isEmpty_aae02 (l : Launch) (G : gx_T) (L : List Nat) (f : Nat → va_E) (h b : Nat) (mc k : Int32) (hh : h ∈ L) (fh : f h = .inr (4, [.int mc, .ref b, .int k])) : gx_M l G yJx4a65c_isEmpty_aae02 cJx4a65c_isEmpty_aae02 1 (some .boolean) ({ frames := 0, cells := 0, slots := 0, locals := 0 } : Room) [.ref h] (va_pl L f) (fun v u => v = some (.int (gx_b (k = 0))) ∧ u = va_pl L f) := by
  refine gx_start (by decide +kernel) (Nat.le_of_ble_eq_true rfl) ?_
  intro p e s m args below meth c A ls C hr hnm hW hl
  have gX := C.x
  have gB := C.b
  have hl : lv_has ls 1 [(0, .ref h)] := hl
  refine lv_aload_n gX gB dJx4a65c_isEmpty_aae02_0 rfl (lv_at hl 0 rfl) ?_
  refine gx_get C hW fJx4a65c_48 (gx_pl hh fh) rfl dJx4a65c_isEmpty_aae02_1 ?_
  refine lv_if_ne (tgt := 11) gX gB dJx4a65c_isEmpty_aae02_4 (by decide) (fun c4 => ?_) (fun c4 => ?_)
  · refine lv_iconst (v := 0) gX gB dJx4a65c_isEmpty_aae02_11 (by decide) ?_
    exact gx_zret C hr (by decide) hW (⟨by simp [gx_b, c4], rfl⟩) (Nat.le_of_ble_eq_true rfl) (Nat.le_of_ble_eq_true rfl) dJx4a65c_isEmpty_aae02_12
  · refine lv_iconst (v := 1) gX gB dJx4a65c_isEmpty_aae02_7 (by decide) ?_
    refine lv_goto (tgt := 12) gX gB dJx4a65c_isEmpty_aae02_8 (by decide) ?_
    exact gx_zret C hr (by decide) hW (⟨by simp [gx_b, c4], rfl⟩) (Nat.le_of_ble_eq_true rfl) (Nat.le_of_ble_eq_true rfl) dJx4a65c_isEmpty_aae02_12
set_option maxHeartbeats 4000000 in
set_option maxRecDepth 100000 in
theorem kJ3_checkIndex_8e157N (l : Launch) (G : gx_T) (ws : va_W) (j n t : Nat) (hj : j < n) (hn : n < 2 ^ 31) : gx_M l G yJ3_checkIndex_8e157 cJ3_checkIndex_8e157 3 (some .int) ({ frames := 0, cells := 0, slots := 0, locals := 0 } : Room) [.int (nI j), .int (nI n), .null] (ws) (fun v u => v = some (.int (nI j)) ∧ u = ws) := by
  refine gx_start (by decide +kernel) (Nat.le_of_ble_eq_true rfl) ?_
  intro p e s m args below meth c A ls C hr hnm hW hl
  have gX := C.x
  have gB := C.b
  have hl : lv_has ls 3 [(0, .int (nI j)), (1, .int (nI n)), (2, .null)] := hl
  refine lv_iload_n gX gB dJ3_checkIndex_8e157_0 rfl (lv_at hl 0 rfl) ?_
  refine lv_if_lt (tgt := 9) gX gB dJ3_checkIndex_8e157_1 (by decide) (fun h9 => absurd (show (nI j) < (0 : Int32) from h9) (nI_pos (by omega))) (fun _ => ?_)
  refine lv_iload_n gX gB dJ3_checkIndex_8e157_4 rfl (lv_at hl 0 rfl) ?_
  refine lv_iload_n gX gB dJ3_checkIndex_8e157_5 rfl (lv_at hl 1 rfl) ?_
  refine lv_icmp_lt (tgt := 16) gX gB dJ3_checkIndex_8e157_6 (by decide) (fun _ => ?_) (fun h9 => absurd (show (nI j) < (nI n) from nI_lt hj (by omega)) h9)
  refine lv_iload_n gX gB dJ3_checkIndex_8e157_16 rfl (lv_at hl 0 rfl) ?_
  exact gx_iret C hr hW (⟨rfl, rfl⟩) (Nat.le_of_ble_eq_true rfl) (Nat.le_of_ble_eq_true rfl) dJ3_checkIndex_8e157_17
set_option maxHeartbeats 4000000 in
set_option maxRecDepth 100000 in
theorem kJ3_checkIndex_8e157R (l : Launch) (G : gx_T) (ws : va_W) (j n t : Nat) (hj : j < n) (hn : n < 2 ^ 31) : gx_M l G yJ3_checkIndex_8e157 cJ3_checkIndex_8e157 3 (some .int) ({ frames := 0, cells := 0, slots := 0, locals := 0 } : Room) [.int (nI j), .int (nI n), .ref t] (ws) (fun v u => v = some (.int (nI j)) ∧ u = ws) := by
  refine gx_start (by decide +kernel) (Nat.le_of_ble_eq_true rfl) ?_
  intro p e s m args below meth c A ls C hr hnm hW hl
  have gX := C.x
  have gB := C.b
  have hl : lv_has ls 3 [(0, .int (nI j)), (1, .int (nI n)), (2, .ref t)] := hl
  refine lv_iload_n gX gB dJ3_checkIndex_8e157_0 rfl (lv_at hl 0 rfl) ?_
  refine lv_if_lt (tgt := 9) gX gB dJ3_checkIndex_8e157_1 (by decide) (fun h9 => absurd (show (nI j) < (0 : Int32) from h9) (nI_pos (by omega))) (fun _ => ?_)
  refine lv_iload_n gX gB dJ3_checkIndex_8e157_4 rfl (lv_at hl 0 rfl) ?_
  refine lv_iload_n gX gB dJ3_checkIndex_8e157_5 rfl (lv_at hl 1 rfl) ?_
  refine lv_icmp_lt (tgt := 16) gX gB dJ3_checkIndex_8e157_6 (by decide) (fun _ => ?_) (fun h9 => absurd (show (nI j) < (nI n) from nI_lt hj (by omega)) h9)
  refine lv_iload_n gX gB dJ3_checkIndex_8e157_16 rfl (lv_at hl 0 rfl) ?_
  exact gx_iret C hr hW (⟨rfl, rfl⟩) (Nat.le_of_ble_eq_true rfl) (Nat.le_of_ble_eq_true rfl) dJ3_checkIndex_8e157_17
set_option maxHeartbeats 4000000 in
set_option maxRecDepth 100000 in
theorem kJ15_checkIndex_7cf53 (l : Launch) (G : gx_T) (ws : va_W) (j n : Nat) (hj : j < n) (hn : n < 2 ^ 31) : gx_M l G yJ15_checkIndex_7cf53 cJ15_checkIndex_7cf53 2 (some .int) ({ frames := 1, cells := 0, slots := 0, locals := 22 } : Room) [.int (nI j), .int (nI n)] (ws) (fun v u => v = some (.int (nI j)) ∧ u = ws) := by
  refine gx_start (by decide +kernel) (Nat.le_of_ble_eq_true rfl) ?_
  intro p e s m args below meth c A ls C hr hnm hW hl
  have gX := C.x
  have gB := C.b
  have hl : lv_has ls 2 [(0, .int (nI j)), (1, .int (nI n))] := hl
  refine lv_iload_n gX gB dJ15_checkIndex_7cf53_0 rfl (lv_at hl 0 rfl) ?_
  refine lv_iload_n gX gB dJ15_checkIndex_7cf53_1 rfl (lv_at hl 1 rfl) ?_
  refine lv_null gX gB dJ15_checkIndex_7cf53_2 ?_
  refine gx_callS (wr := []) (rest := []) C hW sJ15_105 (kJ3_checkIndex_8e157N l G ws j n 0 hj hn) rfl ⟨(Nat.le_of_ble_eq_true rfl), (Nat.le_of_ble_eq_true rfl)⟩ hl.1 rfl (Nat.le_of_ble_eq_true rfl) dJ15_checkIndex_7cf53_3 ⟨(Nat.le_of_ble_eq_true rfl), (Nat.le_of_ble_eq_true rfl)⟩ (fun v9 u9 H locs hp hW => ?_)
  obtain ⟨rfl, hu⟩ := hp
  rw [hu] at hW
  have hW : gx_W G A s (ws) H locs := hW
  refine W.eq (g2 := F0 m 6 ls [.int (nI j)]) rfl ?_
  refine W.widen (k := 0) (n := 0) (Nat.le_of_ble_eq_true rfl) (Nat.le_of_ble_eq_true rfl) ?_
  exact gx_iret C hr hW (⟨rfl, rfl⟩) (Nat.le_of_ble_eq_true rfl) (Nat.le_of_ble_eq_true rfl) dJ15_checkIndex_7cf53_6
set_option maxHeartbeats 4000000 in
set_option maxRecDepth 100000 in
theorem kJx4a65c_elementData_915e3 (l : Launch) (G : gx_T) (L : List Nat) (f : Nat → va_E) (h b n j w : Nat) (mc k : Int32) (g : Nat → Option Nat) (hh : h ∈ L) (fh : f h = .inr (4, [.int mc, .ref b, .int k])) (hb : b ∈ L) (fb : f b = .inl (G.2.1 3, n, .inr (.inr (.inr (.inr g))))) (hj : j < n) (hn : n < 2 ^ 31) (hg : g j = some w) : gx_M l G yJx4a65c_elementData_915e3 cJx4a65c_elementData_915e3 2 (some (.object "java/lang/Object")) ({ frames := 0, cells := 0, slots := 0, locals := 0 } : Room) [.ref h, .int (nI j)] (va_pl L f) (fun v u => v = some (.ref w) ∧ u = va_pl L f) := by
  refine gx_start (by decide +kernel) (Nat.le_of_ble_eq_true rfl) ?_
  intro p e s m args below meth c A ls C hr hnm hW hl
  have gX := C.x
  have gB := C.b
  have hl : lv_has ls 2 [(0, .ref h), (1, .int (nI j))] := hl
  refine lv_aload_n gX gB dJx4a65c_elementData_915e3_0 rfl (lv_at hl 0 rfl) ?_
  refine gx_get C hW fJx4a65c_9 (gx_pl hh fh) rfl dJx4a65c_elementData_915e3_1 ?_
  refine lv_iload_n gX gB dJx4a65c_elementData_915e3_4 rfl (lv_at hl 1 rfl) ?_
  refine gx_aaldS C hW (gx_pl hb fb) rfl hj hn hg dJx4a65c_elementData_915e3_5 ?_
  exact gx_aret C hr (Or.inl ⟨_, rfl⟩) hW (⟨rfl, rfl⟩) (Nat.le_of_ble_eq_true rfl) (Nat.le_of_ble_eq_true rfl) dJx4a65c_elementData_915e3_6
set_option maxHeartbeats 4000000 in
set_option maxRecDepth 100000 in
theorem kJx4a65c_get_915e3 (l : Launch) (G : gx_T) (L : List Nat) (f : Nat → va_E) (h b n c0 j w : Nat) (mc : Int32) (g : Nat → Option Nat) (hh : h ∈ L) (fh : f h = .inr (4, [.int mc, .ref b, .int (nI c0)])) (hb : b ∈ L) (fb : f b = .inl (G.2.1 3, n, .inr (.inr (.inr (.inr g))))) (hj : j < c0) (hc : c0 ≤ n) (hn : n < 2 ^ 31) (hg : g j = some w) : gx_M l G yJx4a65c_get_915e3 cJx4a65c_get_915e3 2 (some (.object "java/lang/Object")) ({ frames := 2, cells := 0, slots := 0, locals := 43 } : Room) [.ref h, .int (nI j)] (va_pl L f) (fun v u => v = some (.ref w) ∧ u = va_pl L f) := by
  refine gx_start (by decide +kernel) (Nat.le_of_ble_eq_true rfl) ?_
  intro p e s m args below meth c A ls C hr hnm hW hl
  have gX := C.x
  have gB := C.b
  have hl : lv_has ls 2 [(0, .ref h), (1, .int (nI j))] := hl
  refine lv_iload_n gX gB dJx4a65c_get_915e3_0 rfl (lv_at hl 1 rfl) ?_
  refine lv_aload_n gX gB dJx4a65c_get_915e3_1 rfl (lv_at hl 0 rfl) ?_
  refine gx_get C hW fJx4a65c_48 (gx_pl hh fh) rfl dJx4a65c_get_915e3_2 ?_
  refine gx_callS (wr := []) (rest := []) C hW sJx4a65c_118 (kJ15_checkIndex_7cf53 l G (va_pl L f) j c0 hj (by omega)) rfl ⟨(Nat.le_of_ble_eq_true rfl), (Nat.le_of_ble_eq_true rfl)⟩ hl.1 rfl (Nat.le_of_ble_eq_true rfl) dJx4a65c_get_915e3_5 ⟨(Nat.le_of_ble_eq_true rfl), (Nat.le_of_ble_eq_true rfl)⟩ (fun v9 u9 H locs hp hW => ?_)
  obtain ⟨rfl, hu⟩ := hp
  rw [hu] at hW
  have hW : gx_W G A s (va_pl L f) H locs := hW
  refine W.eq (g2 := F0 m 8 ls [.int (nI j)]) rfl ?_
  refine W.widen (k := 0) (n := 0) (Nat.le_of_ble_eq_true rfl) (Nat.le_of_ble_eq_true rfl) ?_
  refine lv_pop gX gB dJx4a65c_get_915e3_8 rfl ?_
  refine lv_aload_n gX gB dJx4a65c_get_915e3_9 rfl (lv_at hl 0 rfl) ?_
  refine lv_iload_n gX gB dJx4a65c_get_915e3_10 rfl (lv_at hl 1 rfl) ?_
  refine gx_callV (wr := []) (rest := []) C hW sJx4a65c_123 (kJx4a65c_elementData_915e3 l G L f h b n j w mc (nI c0) g hh fh hb fb (by omega) hn hg) (gx_pl hh fh) rfl rfl ⟨(Nat.le_of_ble_eq_true rfl), (Nat.le_of_ble_eq_true rfl)⟩ hl.1 rfl (Nat.le_of_ble_eq_true rfl) dJx4a65c_get_915e3_11 ⟨(Nat.le_of_ble_eq_true rfl), (Nat.le_of_ble_eq_true rfl)⟩ (fun v9 u9 H locs hp hW => ?_)
  obtain ⟨rfl, hu⟩ := hp
  rw [hu] at hW
  have hW : gx_W G A s (va_pl L f) H locs := hW
  refine W.eq (g2 := F0 m 14 ls [.ref w]) rfl ?_
  refine W.widen (k := 0) (n := 0) (Nat.le_of_ble_eq_true rfl) (Nat.le_of_ble_eq_true rfl) ?_
  exact gx_aret C hr (Or.inl ⟨_, rfl⟩) hW (⟨rfl, rfl⟩) (Nat.le_of_ble_eq_true rfl) (Nat.le_of_ble_eq_true rfl) dJx4a65c_get_915e3_14
theorem gx_maxN {a b : Nat} (ha : a < 2 ^ 31) (hb : b < 2 ^ 31) : (if nI a < nI b then nI b else nI a) = nI (max a b) := by
  by_cases h : a < b
  · rw [if_pos (nI_lt h hb), Nat.max_eq_right (Nat.le_of_lt h)]
  · rw [if_neg (nI_nlt (Nat.not_lt.mp h) ha), Nat.max_eq_left (Nat.not_lt.mp h)]
theorem gx_minN {a b : Nat} (ha : a < 2 ^ 31) (hb : b < 2 ^ 31) : (if nI b < nI a then nI b else nI a) = nI (min a b) := by
  by_cases h : b < a
  · rw [if_pos (nI_lt h ha), Nat.min_eq_right (Nat.le_of_lt h)]
  · rw [if_neg (nI_nlt (Nat.not_lt.mp h) hb), Nat.min_eq_left (Nat.not_lt.mp h)]
set_option maxHeartbeats 4000000 in
set_option maxRecDepth 100000 in
theorem kJ8_newLength_cabcc (l : Launch) (G : gx_T) (ws : va_W) (n a b : Nat) (h0 : 0 < n + max a b) (h1 : n ≤ 100000000) (h2 : a ≤ 100000000) (h3 : b ≤ 100000000) : gx_M l G yJ8_newLength_cabcc cJ8_newLength_cabcc 4 (some .int) ({ frames := 1, cells := 0, slots := 0, locals := 40 } : Room) [.int (nI n), .int (nI a), .int (nI b)] (ws) (fun v u => v = some (.int (nI (n + max a b))) ∧ u = ws) := by
  refine gx_start (by decide +kernel) (Nat.le_of_ble_eq_true rfl) ?_
  intro p e s m args below meth c A ls C hr hnm hW hl
  have gX := C.x
  have gB := C.b
  have hl : lv_has ls 4 [(0, .int (nI n)), (1, .int (nI a)), (2, .int (nI b))] := hl
  refine lv_iload_n gX gB dJ8_newLength_cabcc_0 rfl (lv_at hl 0 rfl) ?_
  refine lv_iload_n gX gB dJ8_newLength_cabcc_1 rfl (lv_at hl 1 rfl) ?_
  refine lv_iload_n gX gB dJ8_newLength_cabcc_2 rfl (lv_at hl 2 rfl) ?_
  refine gx_mmax C (tq_1 183 (by decide +kernel) rfl) hl.1 (Nat.le_of_ble_eq_true rfl) (Nat.le_of_ble_eq_true rfl) (Nat.le_of_ble_eq_true rfl) (Nat.le_of_ble_eq_true rfl) dJ8_newLength_cabcc_3 ?_
  refine gx_topi (show (if (nI a) < (nI b) then (nI b) else (nI a)) = nI (max a b) from gx_maxN (by omega) (by omega)) ?_
  refine lv_iadd gX gB dJ8_newLength_cabcc_6 ?_
  refine gx_topi (show ((nI n) + (nI (max a b))) = nI (n + max a b) from nI_add n (max a b)) ?_
  refine lv_istore_n (lv' := [(3, .int (nI (n + max a b))), (0, .int (nI n)), (1, .int (nI a)), (2, .int (nI b))]) gX gB dJ8_newLength_cabcc_7 rfl hl (by decide) rfl (fun ls hl => ?_)
  refine lv_iconst (v := 0) gX gB dJ8_newLength_cabcc_8 (by decide) ?_
  refine lv_iload_n gX gB dJ8_newLength_cabcc_9 rfl (lv_at hl 0 rfl) ?_
  refine lv_icmp_ge (tgt := 21) gX gB dJ8_newLength_cabcc_10 (by decide) (fun h9 => absurd (show (nI (n + max a b)) ≤ 0 from h9) (fun z => absurd z (nI_nle (n := n + max a b) (by omega) (by omega)))) (fun _ => ?_)
  refine lv_iload_n gX gB dJ8_newLength_cabcc_13 rfl (lv_at hl 0 rfl) ?_
  refine gx_ldci (v := 2147483639) C (tq_1 186 (by decide +kernel) rfl) dJ8_newLength_cabcc_14 ?_
  refine lv_icmp_gt (tgt := 21) gX gB dJ8_newLength_cabcc_16 (by decide) (fun h9 => absurd (show (2147483639 : Int32) < (nI (n + max a b)) from h9) (fun z => absurd ((nI_ltI (a := 2147483639) (b := n + max a b) (by decide) (by omega)).mp z) (by omega))) (fun _ => ?_)
  refine lv_iload_n gX gB dJ8_newLength_cabcc_19 rfl (lv_at hl 0 rfl) ?_
  exact gx_iret C hr hW (⟨rfl, rfl⟩) (Nat.le_of_ble_eq_true rfl) (Nat.le_of_ble_eq_true rfl) dJ8_newLength_cabcc_20
end
section
/-! ARRAYLIST, raw: its row grows, elements come, all go. -/
theorem gx_el.up {L : List Nat} {f : Nat → va_E} {x q : Nat} {e1 : va_E} (h : gx_el L f x) (hq : x ≠ q) : gx_el L (va_up f q e1) x := by
  obtain ⟨h1, ci, N, vs, K, T, h2, h3, h4⟩ := h
  exact ⟨h1, ci, N, vs, K, T, by rw [va_up_ne _ _ hq]; exact h2, h3, h4⟩
theorem gx_el.push {L : List Nat} {f : Nat → va_E} {x q : Nat} {e1 : va_E} (h : gx_el L f x) (hq : q ∉ L) : gx_el (L ++ [q]) (va_up f q e1) x := by
  obtain ⟨h1, h2⟩ := h.up (q := q) (e1 := e1) (fun z => hq (by rw [← z]; exact h.1))
  exact ⟨List.mem_append_left _ h1, h2⟩
theorem gx_el.notA {L : List Nat} {f : Nat → va_E} {x : Nat} {e0 : ClassId × vp_A} (h : gx_el L f x) {b : Nat} (hb : f b = .inl e0) : x ≠ b := by
  obtain ⟨-, ci, N, vs, K, T, h2, -, -⟩ := h
  intro z
  rw [z, hb] at h2
  cases h2
set_option maxHeartbeats 4000000 in
set_option maxRecDepth 100000 in
theorem kJ7_copyOf_6403c (l : Launch) (G : gx_T) (L : List Nat) (f : Nat → va_E) (a n k : Nat) (g : Nat → Option Nat) (ha : a ∈ L) (fa : f a = .inl (G.2.1 3, n, .inr (.inr (.inr (.inr g))))) (hnk : n ≤ k) (hk : k ≤ 24) (hel : ∀ j : Nat, j < n → ∀ y : Nat, g j = some y → gx_el L f y) : gx_M l G yJ7_copyOf_6403c cJ7_copyOf_6403c 4 (some (.array (.object "java/lang/Object"))) ({ frames := 1, cells := 1, slots := 24, locals := 60 } : Room) [.ref a, .int (nI k), .ref (G.2.2 1)] (va_pl L f) (fun v u => ∃ q : Nat, q ∉ L ∧ v = some (.ref q) ∧ u = va_pl (L ++ [q]) (va_up f q (.inl (G.2.1 3, k, .inr (.inr (.inr (.inr (va_cpy g (fun _ => none) 0 0 n)))))))) := by
  refine gx_start (by decide +kernel) (Nat.le_of_ble_eq_true rfl) ?_
  intro p e s m args below meth c A ls C hr hnm hW hl
  have gX := C.x
  have gB := C.b
  have hl : lv_has ls 4 [(0, .ref a), (1, .int (nI k)), (2, .ref (G.2.2 1))] := hl
  refine lv_aload_n gX gB dJ7_copyOf_6403c_0 rfl (lv_at hl 2 rfl) ?_
  refine gx_ldcM C (tq_2 143 (by decide +kernel) rfl) dJ7_copyOf_6403c_1 ?_
  refine lv_acmp_ne (rx := some (G.2.2 1)) (ry := some (G.2.2 1)) (tgt := 13) gX gB dJ7_copyOf_6403c_3 (by decide) (fun h9 => absurd (rfl) h9) (fun _ => ?_)
  refine lv_iload_n gX gB dJ7_copyOf_6403c_6 rfl (lv_at hl 1 rfl) ?_
  refine gx_newq C hW (tq_2 145 (by decide +kernel) rfl) rfl (by omega) (Nat.le_of_ble_eq_true rfl) (by show 0 + k ≤ 24; omega) dJ7_copyOf_6403c_7 (fun q H hq hW => ?_)
  refine W.widen (k := 1) (n := 24) (Nat.le_of_ble_eq_true rfl) (by omega) ?_
  obtain ⟨f1, hf1⟩ : ∃ zz, zz = va_up f q (.inl (G.2.1 3, k, .inr (.inr (.inr (.inr (fun _ => none)))))) := ⟨_, rfl⟩
  rw [← hf1] at hW
  have hqa : a ≠ q := fun zz => hq (by rw [← zz]; exact ha)
  have fa1 : f1 a = .inl (G.2.1 3, n, .inr (.inr (.inr (.inr g)))) := by rw [hf1, va_up_ne _ _ hqa]; exact fa
  have fq1 : f1 q = .inl (G.2.1 3, k, .inr (.inr (.inr (.inr (fun _ => none))))) := by rw [hf1]; exact va_up_self _ _ _
  have ha1 : a ∈ L ++ [q] := List.mem_append_left _ ha
  have hq1 : q ∈ L ++ [q] := List.mem_append_right _ List.mem_cons_self
  refine lv_goto (tgt := 24) gX gB dJ7_copyOf_6403c_10 (by decide) ?_
  refine lv_astore_n (lv' := [(3, .ref q), (0, .ref a), (1, .int (nI k)), (2, .ref (G.2.2 1))]) gX gB dJ7_copyOf_6403c_24 rfl hl (by decide) rfl (fun ls hl => ?_)
  refine lv_aload_n gX gB dJ7_copyOf_6403c_25 rfl (lv_at hl 1 rfl) ?_
  refine lv_iconst (v := 0) gX gB dJ7_copyOf_6403c_26 (by decide) ?_
  refine lv_aload_n gX gB dJ7_copyOf_6403c_27 rfl (lv_at hl 0 rfl) ?_
  refine lv_iconst (v := 0) gX gB dJ7_copyOf_6403c_28 (by decide) ?_
  refine lv_aload_n gX gB dJ7_copyOf_6403c_29 rfl (lv_at hl 1 rfl) ?_
  refine gx_alen C hW 3 rfl (gx_pl ha1 fa1) dJ7_copyOf_6403c_30 ?_
  refine lv_iload_n gX gB dJ7_copyOf_6403c_31 rfl (lv_at hl 2 rfl) ?_
  refine gx_mmin C (tq_1 201 (by decide +kernel) rfl) hl.1 (Nat.le_of_ble_eq_true rfl) (Nat.le_of_ble_eq_true rfl) (Nat.le_of_ble_eq_true rfl) (Nat.le_of_ble_eq_true rfl) dJ7_copyOf_6403c_32 ?_
  refine gx_topi (show (if (nI k) < (nI n) then (nI k) else (nI n)) = nI n from if_neg (nI_nlt hnk (by omega))) ?_
  refine gx_acopy (k := n) C hW ha1 fa1 hq1 fq1 rfl (Nat.le_refl n) hnk (by omega) (fun j hj y hy => by rw [hf1]; exact (hel j hj y hy).push hq) (tq_1 204 (by decide +kernel) rfl) hl.1 (Nat.le_of_ble_eq_true rfl) (Nat.le_of_ble_eq_true rfl) dJ7_copyOf_6403c_35 (fun H locs hW => ?_)
  refine lv_aload_n gX gB dJ7_copyOf_6403c_38 rfl (lv_at hl 0 rfl) ?_
  exact gx_aret C hr (Or.inr ⟨_, rfl⟩) hW (⟨q, hq, rfl, by rw [hf1, bx_uu]⟩) (Nat.le_of_ble_eq_true rfl) (Nat.le_of_ble_eq_true rfl) dJ7_copyOf_6403c_39
set_option maxHeartbeats 4000000 in
set_option maxRecDepth 100000 in
theorem kJ7_copyOf_1904c (l : Launch) (G : gx_T) (L : List Nat) (f : Nat → va_E) (a n k : Nat) (g : Nat → Option Nat) (ha : a ∈ L) (fa : f a = .inl (G.2.1 3, n, .inr (.inr (.inr (.inr g))))) (hnk : n ≤ k) (hk : k ≤ 24) (hel : ∀ j : Nat, j < n → ∀ y : Nat, g j = some y → gx_el L f y) : gx_M l G yJ7_copyOf_1904c cJ7_copyOf_1904c 2 (some (.array (.object "java/lang/Object"))) ({ frames := 2, cells := 1, slots := 24, locals := 83 } : Room) [.ref a, .int (nI k)] (va_pl L f) (fun v u => ∃ q : Nat, q ∉ L ∧ v = some (.ref q) ∧ u = va_pl (L ++ [q]) (va_up f q (.inl (G.2.1 3, k, .inr (.inr (.inr (.inr (va_cpy g (fun _ => none) 0 0 n)))))))) := by
  refine gx_start (by decide +kernel) (Nat.le_of_ble_eq_true rfl) ?_
  intro p e s m args below meth c A ls C hr hnm hW hl
  have gX := C.x
  have gB := C.b
  have hl : lv_has ls 2 [(0, .ref a), (1, .int (nI k))] := hl
  refine lv_aload_n gX gB dJ7_copyOf_1904c_0 rfl (lv_at hl 0 rfl) ?_
  refine lv_iload_n gX gB dJ7_copyOf_1904c_1 rfl (lv_at hl 1 rfl) ?_
  refine lv_aload_n gX gB dJ7_copyOf_1904c_2 rfl (lv_at hl 0 rfl) ?_
  refine gx_getC C hW (gx_pl ha fa) (tq_2 121 (by decide +kernel) rfl) hl.1 (Nat.le_of_ble_eq_true rfl) (Nat.le_of_ble_eq_true rfl) dJ7_copyOf_1904c_3 ?_
  refine gx_callS (wr := []) (rest := []) C hW sJ7_300 (kJ7_copyOf_6403c l G L f a n k g ha fa hnk hk hel) rfl ⟨(Nat.le_of_ble_eq_true rfl), (Nat.le_of_ble_eq_true rfl)⟩ hl.1 rfl (Nat.le_of_ble_eq_true rfl) dJ7_copyOf_1904c_6 ⟨(Nat.le_of_ble_eq_true rfl), (Nat.le_of_ble_eq_true rfl)⟩ (fun v9 u9 H locs hp hW => ?_)
  obtain ⟨q, hq, rfl, hu⟩ := hp
  rw [hu] at hW
  have hW : gx_W G A s (va_pl (L ++ [q]) (va_up f q (.inl (G.2.1 3, k, .inr (.inr (.inr (.inr (va_cpy g (fun _ => none) 0 0 n)))))))) H locs := hW
  refine W.eq (g2 := F0 m 9 ls [.ref q]) rfl ?_
  refine W.widen (k := 1) (n := 24) (Nat.le_of_ble_eq_true rfl) (Nat.le_of_ble_eq_true rfl) ?_
  exact gx_aret C hr (Or.inr ⟨_, rfl⟩) hW (⟨q, hq, rfl, rfl⟩) (Nat.le_of_ble_eq_true rfl) (Nat.le_of_ble_eq_true rfl) dJ7_copyOf_1904c_9
set_option maxHeartbeats 4000000 in
set_option maxRecDepth 100000 in
theorem kJx4a65c_grow_92f840 (l : Launch) (G : gx_T) (L : List Nat) (f : Nat → va_E) (h : Nat) (mc : Int32) (hh : h ∈ L) (fh : f h = .inr (4, [.int mc, .ref (G.2.2 0), .int 0])) : gx_M l G yJx4a65c_grow_92f84 cJx4a65c_grow_92f84 4 (some (.array (.object "java/lang/Object"))) ({ frames := 3, cells := 1, slots := 24, locals := 120 } : Room) [.ref h, .int 1] (va_pl L f) (fun v u => ∃ q : Nat, q ∉ L ∧ v = some (.ref q) ∧ u = va_pl (L ++ [q]) (va_up (va_up f q (.inl (G.2.1 3, 10, .inr (.inr (.inr (.inr (fun _ => none))))))) h (.inr (4, [.int mc, .ref q, .int 0])))) := by
  refine gx_start (by decide +kernel) (Nat.le_of_ble_eq_true rfl) ?_
  intro p e s m args below meth c A ls C hr hnm hW hl
  have gX := C.x
  have gB := C.b
  have hl : lv_has ls 4 [(0, .ref h), (1, .int 1)] := hl
  refine lv_aload_n gX gB dJx4a65c_grow_92f84_0 rfl (lv_at hl 0 rfl) ?_
  refine gx_get C hW fJx4a65c_9 (gx_pl hh fh) rfl dJx4a65c_grow_92f84_1 ?_
  refine gx_lenE C hW dJx4a65c_grow_92f84_4 ?_
  refine lv_istore_n (lv' := [(2, .int 0), (0, .ref h), (1, .int 1)]) gX gB dJx4a65c_grow_92f84_5 rfl hl (by decide) rfl (fun ls hl => ?_)
  refine lv_iload_n gX gB dJx4a65c_grow_92f84_6 rfl (lv_at hl 0 rfl) ?_
  refine lv_if_gt (tgt := 20) gX gB dJx4a65c_grow_92f84_7 (by decide) (fun h9 => absurd (show (0 : Int32) < 0 from h9) (by decide)) (fun _ => ?_)
  refine lv_aload_n gX gB dJx4a65c_grow_92f84_10 rfl (lv_at hl 1 rfl) ?_
  refine gx_get C hW fJx4a65c_9 (gx_pl hh fh) rfl dJx4a65c_grow_92f84_11 ?_
  refine gx_getsE C hW (tq_1 52 (by decide +kernel) rfl) dJx4a65c_grow_92f84_14 ?_
  refine lv_acmp_eq (rx := some (G.2.2 0)) (ry := some (G.2.2 0)) (tgt := 45) gX gB dJx4a65c_grow_92f84_17 (by decide) (fun _ => ?_) (fun h9 => absurd (rfl) h9)
  refine lv_aload_n gX gB dJx4a65c_grow_92f84_45 rfl (lv_at hl 1 rfl) ?_
  refine lv_bipush (v := 10) gX gB dJx4a65c_grow_92f84_46 (by decide) ?_
  refine lv_iload_n gX gB dJx4a65c_grow_92f84_48 rfl (lv_at hl 2 rfl) ?_
  refine gx_mmax C (tq_2 146 (by decide +kernel) rfl) hl.1 (Nat.le_of_ble_eq_true rfl) (Nat.le_of_ble_eq_true rfl) (Nat.le_of_ble_eq_true rfl) (Nat.le_of_ble_eq_true rfl) dJx4a65c_grow_92f84_49 ?_
  refine gx_topi (show (if (10 : Int32) < 1 then (1 : Int32) else 10) = nI 10 from by decide) ?_
  refine gx_newq C hW (tq_2 147 (by decide +kernel) rfl) rfl (by decide) (Nat.le_of_ble_eq_true rfl) (Nat.le_of_ble_eq_true rfl) dJx4a65c_grow_92f84_52 (fun q H hq hW => ?_)
  refine W.widen (k := 1) (n := 24) (Nat.le_of_ble_eq_true rfl) (Nat.le_of_ble_eq_true rfl) ?_
  obtain ⟨f1, hf1⟩ : ∃ zz, zz = va_up f q (.inl (G.2.1 3, 10, .inr (.inr (.inr (.inr (fun _ => none)))))) := ⟨_, rfl⟩
  rw [← hf1] at hW
  have hqh : h ≠ q := fun zz => hq (by rw [← zz]; exact hh)
  have fh1 : f1 h = .inr (4, [.int mc, .ref (G.2.2 0), .int 0]) := by rw [hf1, va_up_ne _ _ hqh]; exact fh
  have hh1 : h ∈ L ++ [q] := List.mem_append_left _ hh
  refine lv_dup_x1 gX gB dJx4a65c_grow_92f84_55 rfl rfl ?_
  refine gx_put C hW clJx4a65c fJx4a65c_9 hh1 fh1 (Or.inl rfl) rfl rfl (Nat.le_of_ble_eq_true rfl) dJx4a65c_grow_92f84_56 (fun H locs hW => ?_)
  obtain ⟨f11, hf11⟩ : ∃ zz, zz = va_up f1 h (.inr (4, [.int mc, .ref q, .int 0])) := ⟨_, rfl⟩
  have hW : gx_W G A s (va_pl (L ++ [q]) f11) H locs := by rw [hf11]; exact hW
  have f11_h : f11 h = .inr (4, [.int mc, .ref q, .int 0]) := by rw [hf11]; exact va_up_self _ _ _
  exact gx_aret C hr (Or.inr ⟨_, rfl⟩) hW (⟨q, hq, rfl, by rw [hf11, hf1]⟩) (Nat.le_of_ble_eq_true rfl) (Nat.le_of_ble_eq_true rfl) dJx4a65c_grow_92f84_59
set_option maxHeartbeats 4000000 in
set_option maxRecDepth 100000 in
theorem kJx4a65c_grow_92f84F (l : Launch) (G : gx_T) (L : List Nat) (f : Nat → va_E) (h b n : Nat) (mc : Int32) (g : Nat → Option Nat) (hh : h ∈ L) (fh : f h = .inr (4, [.int mc, .ref b, .int (nI n)])) (hb : b ∈ L) (fb : f b = .inl (G.2.1 3, n, .inr (.inr (.inr (.inr g))))) (h0 : 0 < n) (hn : n ≤ 16) (hel : ∀ j : Nat, j < n → ∀ y : Nat, g j = some y → gx_el L f y) : gx_M l G yJx4a65c_grow_92f84 cJx4a65c_grow_92f84 4 (some (.array (.object "java/lang/Object"))) ({ frames := 3, cells := 1, slots := 24, locals := 120 } : Room) [.ref h, .int (nI (n + 1))] (va_pl L f) (fun v u => ∃ q : Nat, q ∉ L ∧ v = some (.ref q) ∧ u = va_pl (L ++ [q]) (va_up (va_up f q (.inl (G.2.1 3, (n + max 1 (n / 2)), .inr (.inr (.inr (.inr (va_cpy g (fun _ => none) 0 0 n))))))) h (.inr (4, [.int mc, .ref q, .int (nI n)])))) := by
  refine gx_start (by decide +kernel) (Nat.le_of_ble_eq_true rfl) ?_
  intro p e s m args below meth c A ls C hr hnm hW hl
  have gX := C.x
  have gB := C.b
  have hl : lv_has ls 4 [(0, .ref h), (1, .int (nI (n + 1)))] := hl
  refine lv_aload_n gX gB dJx4a65c_grow_92f84_0 rfl (lv_at hl 0 rfl) ?_
  refine gx_get C hW fJx4a65c_9 (gx_pl hh fh) rfl dJx4a65c_grow_92f84_1 ?_
  refine gx_alen C hW 3 rfl (gx_pl hb fb) dJx4a65c_grow_92f84_4 ?_
  refine lv_istore_n (lv' := [(2, .int (nI n)), (0, .ref h), (1, .int (nI (n + 1)))]) gX gB dJx4a65c_grow_92f84_5 rfl hl (by decide) rfl (fun ls hl => ?_)
  refine lv_iload_n gX gB dJx4a65c_grow_92f84_6 rfl (lv_at hl 0 rfl) ?_
  refine lv_if_gt (tgt := 20) gX gB dJx4a65c_grow_92f84_7 (by decide) (fun _ => ?_) (fun h9 => absurd (show (0 : Int32) < (nI n) from (nI_ltI (a := 0) (b := n) (by decide) (by omega)).mpr h0) h9)
  refine lv_iload_n gX gB dJx4a65c_grow_92f84_20 rfl (lv_at hl 0 rfl) ?_
  refine lv_iload_n gX gB dJx4a65c_grow_92f84_21 rfl (lv_at hl 2 rfl) ?_
  refine lv_iload_n gX gB dJx4a65c_grow_92f84_22 rfl (lv_at hl 0 rfl) ?_
  refine lv_isub gX gB dJx4a65c_grow_92f84_23 ?_
  refine gx_topi (show ((nI (n + 1)) - (nI n)) = nI 1 from (pk_sub (a := n + 1) (b := n) (by omega)).trans (congrArg nI (by omega))) ?_
  refine lv_iload_n gX gB dJx4a65c_grow_92f84_24 rfl (lv_at hl 0 rfl) ?_
  refine lv_iconst (v := 1) gX gB dJx4a65c_grow_92f84_25 (by decide) ?_
  refine lv_ishr gX gB dJx4a65c_grow_92f84_26 ?_
  refine gx_topi (show ((nI n) >>> (1 &&& 31)) = nI (n / 2) from pk_shrN (by omega) ((1 : Int32) &&& 31) 1 (by decide)) ?_
  refine gx_callS (wr := []) (rest := []) C hW sJx4a65c_73 (kJ8_newLength_cabcc l G (va_pl L f) n 1 (n / 2) (by omega) (by omega) (by omega) (by omega)) rfl ⟨(Nat.le_of_ble_eq_true rfl), (Nat.le_of_ble_eq_true rfl)⟩ hl.1 rfl (Nat.le_of_ble_eq_true rfl) dJx4a65c_grow_92f84_27 ⟨(Nat.le_of_ble_eq_true rfl), (Nat.le_of_ble_eq_true rfl)⟩ (fun v9 u9 H locs hp hW => ?_)
  obtain ⟨rfl, hu⟩ := hp
  rw [hu] at hW
  have hW : gx_W G A s (va_pl L f) H locs := hW
  refine W.eq (g2 := F0 m 30 ls [.int (nI (n + max 1 (n / 2)))]) rfl ?_
  refine W.widen (k := 0) (n := 0) (Nat.le_of_ble_eq_true rfl) (Nat.le_of_ble_eq_true rfl) ?_
  refine lv_istore_n (lv' := [(3, .int (nI (n + max 1 (n / 2)))), (2, .int (nI n)), (0, .ref h), (1, .int (nI (n + 1)))]) gX gB dJx4a65c_grow_92f84_30 rfl hl (by decide) rfl (fun ls hl => ?_)
  refine lv_aload_n gX gB dJx4a65c_grow_92f84_31 rfl (lv_at hl 2 rfl) ?_
  refine lv_aload_n gX gB dJx4a65c_grow_92f84_32 rfl (lv_at hl 2 rfl) ?_
  refine gx_get C hW fJx4a65c_9 (gx_pl hh fh) rfl dJx4a65c_grow_92f84_33 ?_
  refine lv_iload_n gX gB dJx4a65c_grow_92f84_36 rfl (lv_at hl 0 rfl) ?_
  refine gx_callS (wr := []) (rest := [.ref h]) C hW sJx4a65c_66 (kJ7_copyOf_1904c l G L f b n (n + max 1 (n / 2)) g hb fb (by omega) (by omega) hel) rfl ⟨(Nat.le_of_ble_eq_true rfl), (Nat.le_of_ble_eq_true rfl)⟩ hl.1 rfl (Nat.le_of_ble_eq_true rfl) dJx4a65c_grow_92f84_37 ⟨(Nat.le_of_ble_eq_true rfl), (Nat.le_of_ble_eq_true rfl)⟩ (fun v9 u9 H locs hp hW => ?_)
  obtain ⟨q, hq, rfl, hu⟩ := hp
  rw [hu] at hW
  obtain ⟨f1, hf1⟩ : ∃ zz, zz = va_up f q (.inl (G.2.1 3, (n + max 1 (n / 2)), .inr (.inr (.inr (.inr (va_cpy g (fun _ => none) 0 0 n)))))) := ⟨_, rfl⟩
  rw [← hf1] at hW
  have hW : gx_W G A s (va_pl (L ++ [q]) f1) H locs := hW
  have hqh : h ≠ q := fun zz => hq (by rw [← zz]; exact hh)
  have fh1 : f1 h = .inr (4, [.int mc, .ref b, .int (nI n)]) := by rw [hf1, va_up_ne _ _ hqh]; exact fh
  have hh1 : h ∈ L ++ [q] := List.mem_append_left _ hh
  refine W.eq (g2 := F0 m 40 ls [.ref q, .ref h]) rfl ?_
  refine W.widen (k := 1) (n := 24) (Nat.le_of_ble_eq_true rfl) (Nat.le_of_ble_eq_true rfl) ?_
  refine lv_dup_x1 gX gB dJx4a65c_grow_92f84_40 rfl rfl ?_
  refine gx_put C hW clJx4a65c fJx4a65c_9 hh1 fh1 (Or.inl rfl) rfl rfl (Nat.le_of_ble_eq_true rfl) dJx4a65c_grow_92f84_41 (fun H locs hW => ?_)
  obtain ⟨f12, hf12⟩ : ∃ zz, zz = va_up f1 h (.inr (4, [.int mc, .ref q, .int (nI n)])) := ⟨_, rfl⟩
  have hW : gx_W G A s (va_pl (L ++ [q]) f12) H locs := by rw [hf12]; exact hW
  have f12_h : f12 h = .inr (4, [.int mc, .ref q, .int (nI n)]) := by rw [hf12]; exact va_up_self _ _ _
  exact gx_aret C hr (Or.inr ⟨_, rfl⟩) hW (⟨q, hq, rfl, by rw [hf12, hf1]⟩) (Nat.le_of_ble_eq_true rfl) (Nat.le_of_ble_eq_true rfl) dJx4a65c_grow_92f84_44
set_option maxHeartbeats 4000000 in
set_option maxRecDepth 100000 in
theorem kJx4a65c_grow_d58770 (l : Launch) (G : gx_T) (L : List Nat) (f : Nat → va_E) (h : Nat) (mc : Int32) (hh : h ∈ L) (fh : f h = .inr (4, [.int mc, .ref (G.2.2 0), .int 0])) : gx_M l G yJx4a65c_grow_d5877 cJx4a65c_grow_d5877 1 (some (.array (.object "java/lang/Object"))) ({ frames := 4, cells := 1, slots := 24, locals := 143 } : Room) [.ref h] (va_pl L f) (fun v u => ∃ q : Nat, q ∉ L ∧ v = some (.ref q) ∧ u = va_pl (L ++ [q]) (va_up (va_up f q (.inl (G.2.1 3, 10, .inr (.inr (.inr (.inr (fun _ => none))))))) h (.inr (4, [.int mc, .ref q, .int 0])))) := by
  refine gx_start (by decide +kernel) (Nat.le_of_ble_eq_true rfl) ?_
  intro p e s m args below meth c A ls C hr hnm hW hl
  have gX := C.x
  have gB := C.b
  have hl : lv_has ls 1 [(0, .ref h)] := hl
  refine lv_aload_n gX gB dJx4a65c_grow_d5877_0 rfl (lv_at hl 0 rfl) ?_
  refine lv_aload_n gX gB dJx4a65c_grow_d5877_1 rfl (lv_at hl 0 rfl) ?_
  refine gx_get C hW fJx4a65c_48 (gx_pl hh fh) rfl dJx4a65c_grow_d5877_2 ?_
  refine lv_iconst (v := 1) gX gB dJx4a65c_grow_d5877_5 (by decide) ?_
  refine lv_iadd gX gB dJx4a65c_grow_d5877_6 ?_
  refine gx_topi (show (0 + 1) = 1 from by decide) ?_
  refine gx_callV (wr := []) (rest := []) C hW sJx4a65c_69 (kJx4a65c_grow_92f840 l G L f h mc hh fh) (gx_pl hh fh) rfl rfl ⟨(Nat.le_of_ble_eq_true rfl), (Nat.le_of_ble_eq_true rfl)⟩ hl.1 rfl (Nat.le_of_ble_eq_true rfl) dJx4a65c_grow_d5877_7 ⟨(Nat.le_of_ble_eq_true rfl), (Nat.le_of_ble_eq_true rfl)⟩ (fun v9 u9 H locs hp hW => ?_)
  obtain ⟨q, hq, rfl, hu⟩ := hp
  rw [hu] at hW
  have hW : gx_W G A s (va_pl (L ++ [q]) (va_up (va_up f q (.inl (G.2.1 3, 10, .inr (.inr (.inr (.inr (fun _ => none))))))) h (.inr (4, [.int mc, .ref q, .int 0])))) H locs := hW
  refine W.eq (g2 := F0 m 10 ls [.ref q]) rfl ?_
  refine W.widen (k := 1) (n := 24) (Nat.le_of_ble_eq_true rfl) (Nat.le_of_ble_eq_true rfl) ?_
  exact gx_aret C hr (Or.inr ⟨_, rfl⟩) hW (⟨q, hq, rfl, rfl⟩) (Nat.le_of_ble_eq_true rfl) (Nat.le_of_ble_eq_true rfl) dJx4a65c_grow_d5877_10
set_option maxHeartbeats 4000000 in
set_option maxRecDepth 100000 in
theorem kJx4a65c_grow_d5877F (l : Launch) (G : gx_T) (L : List Nat) (f : Nat → va_E) (h b n : Nat) (mc : Int32) (g : Nat → Option Nat) (hh : h ∈ L) (fh : f h = .inr (4, [.int mc, .ref b, .int (nI n)])) (hb : b ∈ L) (fb : f b = .inl (G.2.1 3, n, .inr (.inr (.inr (.inr g))))) (h0 : 0 < n) (hn : n ≤ 16) (hel : ∀ j : Nat, j < n → ∀ y : Nat, g j = some y → gx_el L f y) : gx_M l G yJx4a65c_grow_d5877 cJx4a65c_grow_d5877 1 (some (.array (.object "java/lang/Object"))) ({ frames := 4, cells := 1, slots := 24, locals := 143 } : Room) [.ref h] (va_pl L f) (fun v u => ∃ q : Nat, q ∉ L ∧ v = some (.ref q) ∧ u = va_pl (L ++ [q]) (va_up (va_up f q (.inl (G.2.1 3, (n + max 1 (n / 2)), .inr (.inr (.inr (.inr (va_cpy g (fun _ => none) 0 0 n))))))) h (.inr (4, [.int mc, .ref q, .int (nI n)])))) := by
  refine gx_start (by decide +kernel) (Nat.le_of_ble_eq_true rfl) ?_
  intro p e s m args below meth c A ls C hr hnm hW hl
  have gX := C.x
  have gB := C.b
  have hl : lv_has ls 1 [(0, .ref h)] := hl
  refine lv_aload_n gX gB dJx4a65c_grow_d5877_0 rfl (lv_at hl 0 rfl) ?_
  refine lv_aload_n gX gB dJx4a65c_grow_d5877_1 rfl (lv_at hl 0 rfl) ?_
  refine gx_get C hW fJx4a65c_48 (gx_pl hh fh) rfl dJx4a65c_grow_d5877_2 ?_
  refine lv_iconst (v := 1) gX gB dJx4a65c_grow_d5877_5 (by decide) ?_
  refine lv_iadd gX gB dJx4a65c_grow_d5877_6 ?_
  refine gx_topi (show ((nI n) + 1) = nI (n + 1) from nI_1 n) ?_
  refine gx_callV (wr := []) (rest := []) C hW sJx4a65c_69 (kJx4a65c_grow_92f84F l G L f h b n mc g hh fh hb fb h0 hn hel) (gx_pl hh fh) rfl rfl ⟨(Nat.le_of_ble_eq_true rfl), (Nat.le_of_ble_eq_true rfl)⟩ hl.1 rfl (Nat.le_of_ble_eq_true rfl) dJx4a65c_grow_d5877_7 ⟨(Nat.le_of_ble_eq_true rfl), (Nat.le_of_ble_eq_true rfl)⟩ (fun v9 u9 H locs hp hW => ?_)
  obtain ⟨q, hq, rfl, hu⟩ := hp
  rw [hu] at hW
  have hW : gx_W G A s (va_pl (L ++ [q]) (va_up (va_up f q (.inl (G.2.1 3, (n + max 1 (n / 2)), .inr (.inr (.inr (.inr (va_cpy g (fun _ => none) 0 0 n))))))) h (.inr (4, [.int mc, .ref q, .int (nI n)])))) H locs := hW
  refine W.eq (g2 := F0 m 10 ls [.ref q]) rfl ?_
  refine W.widen (k := 1) (n := 24) (Nat.le_of_ble_eq_true rfl) (Nat.le_of_ble_eq_true rfl) ?_
  exact gx_aret C hr (Or.inr ⟨_, rfl⟩) hW (⟨q, hq, rfl, rfl⟩) (Nat.le_of_ble_eq_true rfl) (Nat.le_of_ble_eq_true rfl) dJx4a65c_grow_d5877_10
end
section
/-! ARRAYLIST: add and clear; a list as a list of addresses. -/
theorem gx_up4 {f : Nat → va_E} {q h : Nat} {x y x' y' : va_E} (hh : h ≠ q) : va_up (va_up (va_up (va_up f q x) h y) q x') h y' = va_up (va_up f q x') h y' := by
  funext k
  unfold va_up
  by_cases h1 : k = h <;> by_cases h2 : k = q <;> simp_all
theorem gx_up3 {f : Nat → va_E} {q h : Nat} {x y y' : va_E} (hh : h ≠ q) : va_up (va_up (va_up f h y) q x) h y' = va_up (va_up f q x) h y' := by
  funext k
  unfold va_up
  by_cases h1 : k = h <;> by_cases h2 : k = q <;> simp_all
set_option maxHeartbeats 4000000 in
set_option maxRecDepth 100000 in
theorem kJx4a65c_add_72be8N (l : Launch) (G : gx_T) (L : List Nat) (f : Nat → va_E) (h b n k : Nat) (mc : Int32) (g : Nat → Option Nat) (hh : h ∈ L) (fh : f h = .inr (4, [.int mc, .ref b, .int (nI k)])) (hb : b ∈ L) (fb : f b = .inl (G.2.1 3, n, .inr (.inr (.inr (.inr g))))) (hk : k < n) (hn : n ≤ 24) (v ci0 N0 : Nat) (vs : List Value) (K0 : String) (T0 : u_T) (hv : v ∈ L) (fv : f v = .inr (ci0, vs)) (hc0 : vwCl[ci0]? = some (K0, T0, N0)) (hw0 : Cond.castable K0 "java/lang/Object" ∈ gx_nW) (hvh : v ≠ h) : gx_M l G yJx4a65c_add_72be8 cJx4a65c_add_72be8 4 none ({ frames := 5, cells := 1, slots := 24, locals := 163 } : Room) [.ref h, .ref v, .ref b, .int (nI k)] (va_pl L f) (fun w u => w = none ∧ u = va_pl L (va_up (va_up f b (.inl (G.2.1 3, n, .inr (.inr (.inr (.inr (va_up g k (some v)))))))) h (.inr (4, [.int mc, .ref b, .int (nI (k + 1))])))) := by
  refine gx_start (by decide +kernel) (Nat.le_of_ble_eq_true rfl) ?_
  intro p e s m args below meth c A ls C hr hnm hW hl
  have gX := C.x
  have gB := C.b
  have hl : lv_has ls 4 [(0, .ref h), (1, .ref v), (2, .ref b), (3, .int (nI k))] := hl
  refine lv_iload_n gX gB dJx4a65c_add_72be8_0 rfl (lv_at hl 3 rfl) ?_
  refine lv_aload_n gX gB dJx4a65c_add_72be8_1 rfl (lv_at hl 2 rfl) ?_
  refine gx_alen C hW 3 rfl (gx_pl hb fb) dJx4a65c_add_72be8_2 ?_
  refine lv_icmp_ne (tgt := 11) gX gB dJx4a65c_add_72be8_3 (by decide) (fun _ => ?_) (fun h9 => absurd h9 (show ¬ (nI k) = (nI n) from fun z => absurd ((nI_eq (by omega) (by omega)).mp z) (by omega)))
  refine lv_aload_n gX gB dJx4a65c_add_72be8_11 rfl (lv_at hl 2 rfl) ?_
  refine lv_iload_n gX gB dJx4a65c_add_72be8_12 rfl (lv_at hl 3 rfl) ?_
  refine lv_aload_n gX gB dJx4a65c_add_72be8_13 rfl (lv_at hl 1 rfl) ?_
  refine gx_aast C hW hb fb hv fv hc0 hw0 rfl hk (by omega) dJx4a65c_add_72be8_14 (fun H locs hW => ?_)
  obtain ⟨f1, hf1⟩ : ∃ zz, zz = va_up f b (.inl (G.2.1 3, n, .inr (.inr (.inr (.inr (va_up g k (some v))))))) := ⟨_, rfl⟩
  rw [← hf1] at hW
  have hbh : h ≠ b := gx_ne fh fb (by simp)
  have fh1 : f1 h = .inr (4, [.int mc, .ref b, .int (nI k)]) := by rw [hf1, va_up_ne _ _ hbh]; exact fh
  refine lv_aload_n gX gB dJx4a65c_add_72be8_15 rfl (lv_at hl 0 rfl) ?_
  refine lv_iload_n gX gB dJx4a65c_add_72be8_16 rfl (lv_at hl 3 rfl) ?_
  refine lv_iconst (v := 1) gX gB dJx4a65c_add_72be8_17 (by decide) ?_
  refine lv_iadd gX gB dJx4a65c_add_72be8_18 ?_
  refine gx_topi (show ((nI k) + 1) = nI (k + 1) from nI_1 k) ?_
  refine gx_put C hW clJx4a65c fJx4a65c_48 hh fh1 (Or.inl rfl) rfl rfl (Nat.le_of_ble_eq_true rfl) dJx4a65c_add_72be8_19 (fun H locs hW => ?_)
  obtain ⟨f11, hf11⟩ : ∃ zz, zz = va_up f1 h (.inr (4, [.int mc, .ref b, .int (nI (k + 1))])) := ⟨_, rfl⟩
  have hW : gx_W G A s (va_pl L f11) H locs := by rw [hf11]; exact hW
  have f11_h : f11 h = .inr (4, [.int mc, .ref b, .int (nI (k + 1))]) := by rw [hf11]; exact va_up_self _ _ _
  exact gx_vret C hr hW (⟨rfl, by rw [hf11, hf1]⟩) (Nat.le_of_ble_eq_true rfl) (Nat.le_of_ble_eq_true rfl) dJx4a65c_add_72be8_22
set_option maxHeartbeats 4000000 in
set_option maxRecDepth 100000 in
theorem kJx4a65c_add_72be80 (l : Launch) (G : gx_T) (L : List Nat) (f : Nat → va_E) (h : Nat) (mc : Int32) (hh : h ∈ L) (fh : f h = .inr (4, [.int mc, .ref (G.2.2 0), .int 0])) (v ci0 N0 : Nat) (vs : List Value) (K0 : String) (T0 : u_T) (hv : v ∈ L) (fv : f v = .inr (ci0, vs)) (hc0 : vwCl[ci0]? = some (K0, T0, N0)) (hw0 : Cond.castable K0 "java/lang/Object" ∈ gx_nW) (hvh : v ≠ h) : gx_M l G yJx4a65c_add_72be8 cJx4a65c_add_72be8 4 none ({ frames := 5, cells := 1, slots := 24, locals := 163 } : Room) [.ref h, .ref v, .ref (G.2.2 0), .int 0] (va_pl L f) (fun w u => ∃ q : Nat, q ∉ L ∧ w = none ∧ u = va_pl (L ++ [q]) (va_up (va_up f q (.inl (G.2.1 3, 10, .inr (.inr (.inr (.inr (va_up (fun _ => none) 0 (some v)))))))) h (.inr (4, [.int mc, .ref q, .int (nI 1)])))) := by
  refine gx_start (by decide +kernel) (Nat.le_of_ble_eq_true rfl) ?_
  intro p e s m args below meth c A ls C hr hnm hW hl
  have gX := C.x
  have gB := C.b
  have hl : lv_has ls 4 [(0, .ref h), (1, .ref v), (2, .ref (G.2.2 0)), (3, .int 0)] := hl
  refine lv_iload_n gX gB dJx4a65c_add_72be8_0 rfl (lv_at hl 3 rfl) ?_
  refine lv_aload_n gX gB dJx4a65c_add_72be8_1 rfl (lv_at hl 2 rfl) ?_
  refine gx_lenE C hW dJx4a65c_add_72be8_2 ?_
  refine lv_icmp_ne (tgt := 11) gX gB dJx4a65c_add_72be8_3 (by decide) (fun h9 => absurd (show ¬ 0 = (0 : Int32) from h9) (fun z => absurd rfl z)) (fun _ => ?_)
  refine lv_aload_n gX gB dJx4a65c_add_72be8_6 rfl (lv_at hl 0 rfl) ?_
  refine gx_callV (wr := []) (rest := []) C hW sJx4a65c_129 (kJx4a65c_grow_d58770 l G L f h mc hh fh) (gx_pl hh fh) rfl rfl ⟨(Nat.le_of_ble_eq_true rfl), (Nat.le_of_ble_eq_true rfl)⟩ hl.1 rfl (Nat.le_of_ble_eq_true rfl) dJx4a65c_add_72be8_7 ⟨(Nat.le_of_ble_eq_true rfl), (Nat.le_of_ble_eq_true rfl)⟩ (fun v9 u9 H locs hp hW => ?_)
  obtain ⟨q, hq, rfl, hu⟩ := hp
  rw [hu] at hW
  obtain ⟨f1, hf1⟩ : ∃ zz, zz = va_up (va_up f q (.inl (G.2.1 3, 10, .inr (.inr (.inr (.inr (fun _ => none))))))) h (.inr (4, [.int mc, .ref q, .int 0])) := ⟨_, rfl⟩
  rw [← hf1] at hW
  have hW : gx_W G A s (va_pl (L ++ [q]) f1) H locs := hW
  have hqh : h ≠ q := fun zz => hq (by rw [← zz]; exact hh)
  have hqv : v ≠ q := fun zz => hq (by rw [← zz]; exact hv)
  have fh1 : f1 h = .inr (4, [.int mc, .ref q, .int 0]) := by rw [hf1]; exact va_up_self _ _ _
  have fq1 : f1 q = .inl (G.2.1 3, 10, .inr (.inr (.inr (.inr (fun _ => none))))) := by rw [hf1, va_up_ne _ _ hqh.symm]; exact va_up_self _ _ _
  have fv1 : f1 v = .inr (ci0, vs) := by rw [hf1, va_up_ne _ _ hvh, va_up_ne _ _ hqv]; exact fv
  have hh1 : h ∈ L ++ [q] := List.mem_append_left _ hh
  have hv1 : v ∈ L ++ [q] := List.mem_append_left _ hv
  have hq1 : q ∈ L ++ [q] := List.mem_append_right _ List.mem_cons_self
  refine W.eq (g2 := F0 m 10 ls [.ref q]) rfl ?_
  refine W.widen (k := 1) (n := 24) (Nat.le_of_ble_eq_true rfl) (Nat.le_of_ble_eq_true rfl) ?_
  refine lv_astore_n (lv' := [(2, .ref q), (0, .ref h), (1, .ref v), (3, .int 0)]) gX gB dJx4a65c_add_72be8_10 rfl hl (by decide) rfl (fun ls hl => ?_)
  refine lv_aload_n gX gB dJx4a65c_add_72be8_11 rfl (lv_at hl 0 rfl) ?_
  refine lv_iload_n gX gB dJx4a65c_add_72be8_12 rfl (lv_at hl 3 rfl) ?_
  refine lv_aload_n gX gB dJx4a65c_add_72be8_13 rfl (lv_at hl 2 rfl) ?_
  refine gx_aast (j := 0) C hW hq1 fq1 hv1 fv1 hc0 hw0 rfl (by omega) (by omega) dJx4a65c_add_72be8_14 (fun H locs hW => ?_)
  obtain ⟨f2, hf2⟩ : ∃ zz, zz = va_up f1 q (.inl (G.2.1 3, 10, .inr (.inr (.inr (.inr (va_up (fun _ => none) 0 (some v))))))) := ⟨_, rfl⟩
  rw [← hf2] at hW
  have fh2 : f2 h = .inr (4, [.int mc, .ref q, .int 0]) := by rw [hf2, va_up_ne _ _ hqh]; exact fh1
  refine lv_aload_n gX gB dJx4a65c_add_72be8_15 rfl (lv_at hl 1 rfl) ?_
  refine lv_iload_n gX gB dJx4a65c_add_72be8_16 rfl (lv_at hl 3 rfl) ?_
  refine lv_iconst (v := 1) gX gB dJx4a65c_add_72be8_17 (by decide) ?_
  refine lv_iadd gX gB dJx4a65c_add_72be8_18 ?_
  refine gx_topi (show (0 + 1) = nI 1 from by decide) ?_
  refine gx_put C hW clJx4a65c fJx4a65c_48 hh1 fh2 (Or.inl rfl) rfl rfl (Nat.le_of_ble_eq_true rfl) dJx4a65c_add_72be8_19 (fun H locs hW => ?_)
  obtain ⟨f12, hf12⟩ : ∃ zz, zz = va_up f2 h (.inr (4, [.int mc, .ref q, .int (nI 1)])) := ⟨_, rfl⟩
  have hW : gx_W G A s (va_pl (L ++ [q]) f12) H locs := by rw [hf12]; exact hW
  have f12_h : f12 h = .inr (4, [.int mc, .ref q, .int (nI 1)]) := by rw [hf12]; exact va_up_self _ _ _
  exact gx_vret C hr hW (⟨q, hq, rfl, by rw [hf12, hf2, hf1, gx_up4 hqh]⟩) (Nat.le_of_ble_eq_true rfl) (Nat.le_of_ble_eq_true rfl) dJx4a65c_add_72be8_22
set_option maxHeartbeats 4000000 in
set_option maxRecDepth 100000 in
theorem kJx4a65c_add_72be8F (l : Launch) (G : gx_T) (L : List Nat) (f : Nat → va_E) (h b n : Nat) (mc : Int32) (g : Nat → Option Nat) (hh : h ∈ L) (fh : f h = .inr (4, [.int mc, .ref b, .int (nI n)])) (hb : b ∈ L) (fb : f b = .inl (G.2.1 3, n, .inr (.inr (.inr (.inr g))))) (h0 : 0 < n) (hn : n ≤ 16) (hel : ∀ j : Nat, j < n → ∀ y : Nat, g j = some y → gx_el L f y) (v ci0 N0 : Nat) (vs : List Value) (K0 : String) (T0 : u_T) (hv : v ∈ L) (fv : f v = .inr (ci0, vs)) (hc0 : vwCl[ci0]? = some (K0, T0, N0)) (hw0 : Cond.castable K0 "java/lang/Object" ∈ gx_nW) (hvh : v ≠ h) : gx_M l G yJx4a65c_add_72be8 cJx4a65c_add_72be8 4 none ({ frames := 5, cells := 1, slots := 24, locals := 163 } : Room) [.ref h, .ref v, .ref b, .int (nI n)] (va_pl L f) (fun w u => ∃ q : Nat, q ∉ L ∧ w = none ∧ u = va_pl (L ++ [q]) (va_up (va_up f q (.inl (G.2.1 3, (n + max 1 (n / 2)), .inr (.inr (.inr (.inr (va_up (va_cpy g (fun _ => none) 0 0 n) n (some v)))))))) h (.inr (4, [.int mc, .ref q, .int (nI (n + 1))])))) := by
  refine gx_start (by decide +kernel) (Nat.le_of_ble_eq_true rfl) ?_
  intro p e s m args below meth c A ls C hr hnm hW hl
  have gX := C.x
  have gB := C.b
  have hl : lv_has ls 4 [(0, .ref h), (1, .ref v), (2, .ref b), (3, .int (nI n))] := hl
  refine lv_iload_n gX gB dJx4a65c_add_72be8_0 rfl (lv_at hl 3 rfl) ?_
  refine lv_aload_n gX gB dJx4a65c_add_72be8_1 rfl (lv_at hl 2 rfl) ?_
  refine gx_alen C hW 3 rfl (gx_pl hb fb) dJx4a65c_add_72be8_2 ?_
  refine lv_icmp_ne (tgt := 11) gX gB dJx4a65c_add_72be8_3 (by decide) (fun h9 => absurd (show ¬ (nI n) = (nI n) from h9) (fun z => absurd rfl z)) (fun _ => ?_)
  refine lv_aload_n gX gB dJx4a65c_add_72be8_6 rfl (lv_at hl 0 rfl) ?_
  refine gx_callV (wr := []) (rest := []) C hW sJx4a65c_129 (kJx4a65c_grow_d5877F l G L f h b n mc g hh fh hb fb h0 hn hel) (gx_pl hh fh) rfl rfl ⟨(Nat.le_of_ble_eq_true rfl), (Nat.le_of_ble_eq_true rfl)⟩ hl.1 rfl (Nat.le_of_ble_eq_true rfl) dJx4a65c_add_72be8_7 ⟨(Nat.le_of_ble_eq_true rfl), (Nat.le_of_ble_eq_true rfl)⟩ (fun v9 u9 H locs hp hW => ?_)
  obtain ⟨q, hq, rfl, hu⟩ := hp
  rw [hu] at hW
  obtain ⟨f1, hf1⟩ : ∃ zz, zz = va_up (va_up f q (.inl (G.2.1 3, (n + max 1 (n / 2)), .inr (.inr (.inr (.inr (va_cpy g (fun _ => none) 0 0 n))))))) h (.inr (4, [.int mc, .ref q, .int (nI n)])) := ⟨_, rfl⟩
  rw [← hf1] at hW
  have hW : gx_W G A s (va_pl (L ++ [q]) f1) H locs := hW
  have hqh : h ≠ q := fun zz => hq (by rw [← zz]; exact hh)
  have hqv : v ≠ q := fun zz => hq (by rw [← zz]; exact hv)
  have fh1 : f1 h = .inr (4, [.int mc, .ref q, .int (nI n)]) := by rw [hf1]; exact va_up_self _ _ _
  have fq1 : f1 q = .inl (G.2.1 3, (n + max 1 (n / 2)), .inr (.inr (.inr (.inr (va_cpy g (fun _ => none) 0 0 n))))) := by rw [hf1, va_up_ne _ _ hqh.symm]; exact va_up_self _ _ _
  have fv1 : f1 v = .inr (ci0, vs) := by rw [hf1, va_up_ne _ _ hvh, va_up_ne _ _ hqv]; exact fv
  have hh1 : h ∈ L ++ [q] := List.mem_append_left _ hh
  have hv1 : v ∈ L ++ [q] := List.mem_append_left _ hv
  have hq1 : q ∈ L ++ [q] := List.mem_append_right _ List.mem_cons_self
  refine W.eq (g2 := F0 m 10 ls [.ref q]) rfl ?_
  refine W.widen (k := 1) (n := 24) (Nat.le_of_ble_eq_true rfl) (Nat.le_of_ble_eq_true rfl) ?_
  refine lv_astore_n (lv' := [(2, .ref q), (0, .ref h), (1, .ref v), (3, .int (nI n))]) gX gB dJx4a65c_add_72be8_10 rfl hl (by decide) rfl (fun ls hl => ?_)
  refine lv_aload_n gX gB dJx4a65c_add_72be8_11 rfl (lv_at hl 0 rfl) ?_
  refine lv_iload_n gX gB dJx4a65c_add_72be8_12 rfl (lv_at hl 3 rfl) ?_
  refine lv_aload_n gX gB dJx4a65c_add_72be8_13 rfl (lv_at hl 2 rfl) ?_
  refine gx_aast (j := n) C hW hq1 fq1 hv1 fv1 hc0 hw0 rfl (by omega) (by omega) dJx4a65c_add_72be8_14 (fun H locs hW => ?_)
  obtain ⟨f2, hf2⟩ : ∃ zz, zz = va_up f1 q (.inl (G.2.1 3, (n + max 1 (n / 2)), .inr (.inr (.inr (.inr (va_up (va_cpy g (fun _ => none) 0 0 n) n (some v))))))) := ⟨_, rfl⟩
  rw [← hf2] at hW
  have fh2 : f2 h = .inr (4, [.int mc, .ref q, .int (nI n)]) := by rw [hf2, va_up_ne _ _ hqh]; exact fh1
  refine lv_aload_n gX gB dJx4a65c_add_72be8_15 rfl (lv_at hl 1 rfl) ?_
  refine lv_iload_n gX gB dJx4a65c_add_72be8_16 rfl (lv_at hl 3 rfl) ?_
  refine lv_iconst (v := 1) gX gB dJx4a65c_add_72be8_17 (by decide) ?_
  refine lv_iadd gX gB dJx4a65c_add_72be8_18 ?_
  refine gx_topi (show ((nI n) + 1) = nI (n + 1) from nI_1 n) ?_
  refine gx_put C hW clJx4a65c fJx4a65c_48 hh1 fh2 (Or.inl rfl) rfl rfl (Nat.le_of_ble_eq_true rfl) dJx4a65c_add_72be8_19 (fun H locs hW => ?_)
  obtain ⟨f13, hf13⟩ : ∃ zz, zz = va_up f2 h (.inr (4, [.int mc, .ref q, .int (nI (n + 1))])) := ⟨_, rfl⟩
  have hW : gx_W G A s (va_pl (L ++ [q]) f13) H locs := by rw [hf13]; exact hW
  have f13_h : f13 h = .inr (4, [.int mc, .ref q, .int (nI (n + 1))]) := by rw [hf13]; exact va_up_self _ _ _
  exact gx_vret C hr hW (⟨q, hq, rfl, by rw [hf13, hf2, hf1, gx_up4 hqh]⟩) (Nat.le_of_ble_eq_true rfl) (Nat.le_of_ble_eq_true rfl) dJx4a65c_add_72be8_22
/-- the list at q holds the objects xs; its row: none (the empty one of old) or the cell b -/
def ls_at (G : gx_T) (L : List Nat) (f : Nat → va_E) (q : Nat) (b : Option Nat) (xs : List Nat) : Prop := q ∈ L ∧ ∃ mc : Int32, match b with
  | none => xs = [] ∧ f q = .inr (4, [.int mc, .ref (G.2.2 0), .int 0])
  | some b => b ∈ L ∧ f q = .inr (4, [.int mc, .ref b, .int (nI xs.length)]) ∧ ∃ (n : Nat) (g : Nat → Option Nat), f b = .inl (G.2.1 3, n, .inr (.inr (.inr (.inr g)))) ∧ xs.length ≤ n ∧ 0 < n ∧ n ≤ 24 ∧ ∀ i (h : i < xs.length), g i = some xs[i]
theorem ls_at.kept {G : gx_T} {L L' : List Nat} {f f' : Nat → va_E} {q : Nat} {b : Option Nat} {xs : List Nat} (h : ls_at G L f q b xs) (hL : ∀ a ∈ L, a ∈ L') (hq : f' q = f q) (hb : ∀ b9, b = some b9 → f' b9 = f b9) : ls_at G L' f' q b xs := by
  obtain ⟨h1, mc, h2⟩ := h
  refine ⟨hL _ h1, mc, ?_⟩
  cases b with
  | none => exact ⟨h2.1, by rw [hq]; exact h2.2⟩
  | some b =>
    obtain ⟨h3, h4, n, g, h5, h6⟩ := h2
    exact ⟨hL _ h3, by rw [hq]; exact h4, n, g, by rw [hb b rfl]; exact h5, h6⟩
theorem ls_at.head {G : gx_T} {L : List Nat} {f : Nat → va_E} {q : Nat} {b : Option Nat} {xs : List Nat} (h : ls_at G L f q b xs) : ∃ (mc : Int32) (r : Nat), f q = .inr (4, [.int mc, .ref r, .int (nI xs.length)]) := by
  obtain ⟨-, mc, h2⟩ := h
  cases b with
  | none => exact ⟨mc, _, by rw [h2.2, h2.1]; rfl⟩
  | some b => exact ⟨mc, b, h2.2.1⟩
/-- what add leaves -/
def ls_added (G : gx_T) (L : List Nat) (f : Nat → va_E) (h : Nat) (b : Option Nat) (xs : List Nat) (v : Nat) (u : va_W) : Prop := ∃ (L' : List Nat) (f' : Nat → va_E) (b' : Nat), u = va_pl L' f' ∧ ls_at G L' f' h (some b') (xs ++ [v]) ∧ ((b = some b' ∧ L' = L) ∨ (b' ∉ L ∧ L' = L ++ [b'])) ∧ ∀ a ∈ L, a ≠ h → some a ≠ b → f' a = f a
theorem ls_snoc {g : Nat → Option Nat} {xs : List Nat} {v : Nat} (h : ∀ i (h : i < xs.length), g i = some xs[i]) : ∀ i (h : i < (xs ++ [v]).length), va_up g xs.length (some v) i = some (xs ++ [v])[i] := by
  intro i hi
  rw [List.length_append, List.length_singleton] at hi
  unfold va_up
  by_cases e : i = xs.length
  · subst e
    simp
  · rw [if_neg e, h i (by omega), List.getElem_append_left (by omega)]
set_option maxHeartbeats 4000000 in
set_option maxRecDepth 100000 in
theorem kJx4a65c_add_9ea2d0 (l : Launch) (G : gx_T) (L : List Nat) (f : Nat → va_E) (h : Nat) (mc : Int32) (hh : h ∈ L) (fh : f h = .inr (4, [.int mc, .ref (G.2.2 0), .int 0])) (v ci0 N0 : Nat) (vs : List Value) (K0 : String) (T0 : u_T) (hv : v ∈ L) (fv : f v = .inr (ci0, vs)) (hc0 : vwCl[ci0]? = some (K0, T0, N0)) (hw0 : Cond.castable K0 "java/lang/Object" ∈ gx_nW) (hvh : v ≠ h) : gx_M l G yJx4a65c_add_9ea2d cJx4a65c_add_9ea2d 2 (some .boolean) ({ frames := 6, cells := 1, slots := 24, locals := 186 } : Room) [.ref h, .ref v] (va_pl L f) (fun w u => w = some (.int 1) ∧ ls_added G L f h none [] v u) := by
  refine gx_start (by decide +kernel) (Nat.le_of_ble_eq_true rfl) ?_
  intro p e s m args below meth c A ls C hr hnm hW hl
  have gX := C.x
  have gB := C.b
  have hl : lv_has ls 2 [(0, .ref h), (1, .ref v)] := hl
  refine lv_aload_n gX gB dJx4a65c_add_9ea2d_0 rfl (lv_at hl 0 rfl) ?_
  refine lv_dup gX gB dJx4a65c_add_9ea2d_1 rfl ?_
  refine gx_get C hW fJx4a65c_63 (gx_pl hh fh) rfl dJx4a65c_add_9ea2d_2 ?_
  refine lv_iconst (v := 1) gX gB dJx4a65c_add_9ea2d_5 (by decide) ?_
  refine lv_iadd gX gB dJx4a65c_add_9ea2d_6 ?_
  refine gx_put C hW clJx4a65c fJx4a65c_63 hh fh (Or.inl rfl) rfl rfl (Nat.le_of_ble_eq_true rfl) dJx4a65c_add_9ea2d_7 (fun H locs hW => ?_)
  obtain ⟨f14, hf14⟩ : ∃ zz, zz = va_up f h (.inr (4, [.int (mc + 1), .ref (G.2.2 0), .int 0])) := ⟨_, rfl⟩
  have hW : gx_W G A s (va_pl L f14) H locs := by rw [hf14]; exact hW
  have f14_h : f14 h = .inr (4, [.int (mc + 1), .ref (G.2.2 0), .int 0]) := by rw [hf14]; exact va_up_self _ _ _
  refine lv_aload_n gX gB dJx4a65c_add_9ea2d_10 rfl (lv_at hl 0 rfl) ?_
  refine lv_aload_n gX gB dJx4a65c_add_9ea2d_11 rfl (lv_at hl 1 rfl) ?_
  refine lv_aload_n gX gB dJx4a65c_add_9ea2d_12 rfl (lv_at hl 0 rfl) ?_
  refine gx_get C hW fJx4a65c_9 (gx_pl hh f14_h) rfl dJx4a65c_add_9ea2d_13 ?_
  refine lv_aload_n gX gB dJx4a65c_add_9ea2d_16 rfl (lv_at hl 0 rfl) ?_
  refine gx_get C hW fJx4a65c_48 (gx_pl hh f14_h) rfl dJx4a65c_add_9ea2d_17 ?_
  have fv2 : f14 v = .inr (ci0, vs) := by rw [hf14, va_up_ne _ _ hvh]; exact fv
  refine gx_callV (wr := []) (rest := []) C hW sJx4a65c_131 (kJx4a65c_add_72be80 l G L f14 h (mc + 1) hh f14_h v ci0 N0 vs K0 T0 hv fv2 hc0 hw0 hvh) (gx_pl hh f14_h) rfl rfl ⟨(Nat.le_of_ble_eq_true rfl), (Nat.le_of_ble_eq_true rfl)⟩ hl.1 rfl (Nat.le_of_ble_eq_true rfl) dJx4a65c_add_9ea2d_20 ⟨(Nat.le_of_ble_eq_true rfl), (Nat.le_of_ble_eq_true rfl)⟩ (fun v9 u9 H locs hp hW => ?_)
  obtain ⟨q, hq, rfl, hu⟩ := hp
  rw [hu] at hW
  rw [← hu] at hW
  have hW : gx_W G A s u9 H locs := hW
  refine W.eq (g2 := F0 m 23 ls []) rfl ?_
  refine W.widen (k := 1) (n := 24) (Nat.le_of_ble_eq_true rfl) (Nat.le_of_ble_eq_true rfl) ?_
  refine lv_iconst (v := 1) gX gB dJx4a65c_add_9ea2d_23 (by decide) ?_
  exact gx_zret C hr (by decide) hW (⟨rfl, L ++ [q], _, q, hu, ⟨List.mem_append_left _ hh, mc + 1, List.mem_append_right _ List.mem_cons_self, va_up_self _ _ _, 10, _, (va_up_ne _ _ (fun zz => hq (by rw [zz]; exact hh))).trans (va_up_self _ _ _), Nat.le_of_ble_eq_true rfl, by decide, by decide, ls_snoc (xs := []) (fun i hi => absurd hi (Nat.not_lt_zero _))⟩, Or.inr ⟨hq, rfl⟩, fun a ha h1 h2 => by rw [va_up_ne _ _ h1, va_up_ne _ _ (fun zz => hq (by rw [← zz]; exact ha)), hf14, va_up_ne _ _ h1]⟩) (Nat.le_of_ble_eq_true rfl) (Nat.le_of_ble_eq_true rfl) dJx4a65c_add_9ea2d_24
set_option maxHeartbeats 4000000 in
set_option maxRecDepth 100000 in
theorem kJx4a65c_add_9ea2dN (l : Launch) (G : gx_T) (L : List Nat) (f : Nat → va_E) (h b n : Nat) (mc : Int32) (g : Nat → Option Nat) (xs : List Nat) (hh : h ∈ L) (fh : f h = .inr (4, [.int mc, .ref b, .int (nI xs.length)])) (hb : b ∈ L) (fb : f b = .inl (G.2.1 3, n, .inr (.inr (.inr (.inr g))))) (hk : xs.length < n) (hn : n ≤ 24) (hgx : ∀ i (h : i < xs.length), g i = some xs[i]) (v ci0 N0 : Nat) (vs : List Value) (K0 : String) (T0 : u_T) (hv : v ∈ L) (fv : f v = .inr (ci0, vs)) (hc0 : vwCl[ci0]? = some (K0, T0, N0)) (hw0 : Cond.castable K0 "java/lang/Object" ∈ gx_nW) (hvh : v ≠ h) : gx_M l G yJx4a65c_add_9ea2d cJx4a65c_add_9ea2d 2 (some .boolean) ({ frames := 6, cells := 1, slots := 24, locals := 186 } : Room) [.ref h, .ref v] (va_pl L f) (fun w u => w = some (.int 1) ∧ ls_added G L f h (some b) xs v u) := by
  refine gx_start (by decide +kernel) (Nat.le_of_ble_eq_true rfl) ?_
  intro p e s m args below meth c A ls C hr hnm hW hl
  have gX := C.x
  have gB := C.b
  have hl : lv_has ls 2 [(0, .ref h), (1, .ref v)] := hl
  refine lv_aload_n gX gB dJx4a65c_add_9ea2d_0 rfl (lv_at hl 0 rfl) ?_
  refine lv_dup gX gB dJx4a65c_add_9ea2d_1 rfl ?_
  refine gx_get C hW fJx4a65c_63 (gx_pl hh fh) rfl dJx4a65c_add_9ea2d_2 ?_
  refine lv_iconst (v := 1) gX gB dJx4a65c_add_9ea2d_5 (by decide) ?_
  refine lv_iadd gX gB dJx4a65c_add_9ea2d_6 ?_
  refine gx_put C hW clJx4a65c fJx4a65c_63 hh fh (Or.inl rfl) rfl rfl (Nat.le_of_ble_eq_true rfl) dJx4a65c_add_9ea2d_7 (fun H locs hW => ?_)
  obtain ⟨f15, hf15⟩ : ∃ zz, zz = va_up f h (.inr (4, [.int (mc + 1), .ref b, .int (nI xs.length)])) := ⟨_, rfl⟩
  have hW : gx_W G A s (va_pl L f15) H locs := by rw [hf15]; exact hW
  have f15_h : f15 h = .inr (4, [.int (mc + 1), .ref b, .int (nI xs.length)]) := by rw [hf15]; exact va_up_self _ _ _
  have f15_b : f15 b = .inl (G.2.1 3, n, .inr (.inr (.inr (.inr g)))) := by rw [hf15, va_up_ne _ _ (gx_ne fb fh (by simp))]; exact fb
  refine lv_aload_n gX gB dJx4a65c_add_9ea2d_10 rfl (lv_at hl 0 rfl) ?_
  refine lv_aload_n gX gB dJx4a65c_add_9ea2d_11 rfl (lv_at hl 1 rfl) ?_
  refine lv_aload_n gX gB dJx4a65c_add_9ea2d_12 rfl (lv_at hl 0 rfl) ?_
  refine gx_get C hW fJx4a65c_9 (gx_pl hh f15_h) rfl dJx4a65c_add_9ea2d_13 ?_
  refine lv_aload_n gX gB dJx4a65c_add_9ea2d_16 rfl (lv_at hl 0 rfl) ?_
  refine gx_get C hW fJx4a65c_48 (gx_pl hh f15_h) rfl dJx4a65c_add_9ea2d_17 ?_
  have fv2 : f15 v = .inr (ci0, vs) := by rw [hf15, va_up_ne _ _ hvh]; exact fv
  refine gx_callV (wr := []) (rest := []) C hW sJx4a65c_131 (kJx4a65c_add_72be8N l G L f15 h b n xs.length (mc + 1) g hh f15_h hb f15_b hk hn v ci0 N0 vs K0 T0 hv fv2 hc0 hw0 hvh) (gx_pl hh f15_h) rfl rfl ⟨(Nat.le_of_ble_eq_true rfl), (Nat.le_of_ble_eq_true rfl)⟩ hl.1 rfl (Nat.le_of_ble_eq_true rfl) dJx4a65c_add_9ea2d_20 ⟨(Nat.le_of_ble_eq_true rfl), (Nat.le_of_ble_eq_true rfl)⟩ (fun v9 u9 H locs hp hW => ?_)
  obtain ⟨rfl, hu⟩ := hp
  rw [hu] at hW
  rw [← hu] at hW
  have hW : gx_W G A s u9 H locs := hW
  refine W.eq (g2 := F0 m 23 ls []) rfl ?_
  refine W.widen (k := 1) (n := 24) (Nat.le_of_ble_eq_true rfl) (Nat.le_of_ble_eq_true rfl) ?_
  refine lv_iconst (v := 1) gX gB dJx4a65c_add_9ea2d_23 (by decide) ?_
  exact gx_zret C hr (by decide) hW (⟨rfl, L, _, b, hu, ⟨hh, mc + 1, hb, (va_up_self _ _ _).trans (by rw [List.length_append]; rfl), n, _, (va_up_ne _ _ (gx_ne fb fh (by simp))).trans (va_up_self _ _ _), by rw [List.length_append, List.length_singleton]; omega, by omega, hn, ls_snoc hgx⟩, Or.inl ⟨rfl, rfl⟩, fun a ha h1 h2 => by rw [va_up_ne _ _ h1, va_up_ne _ _ (fun zz => h2 (by rw [zz])), hf15, va_up_ne _ _ h1]⟩) (Nat.le_of_ble_eq_true rfl) (Nat.le_of_ble_eq_true rfl) dJx4a65c_add_9ea2d_24
set_option maxHeartbeats 4000000 in
set_option maxRecDepth 100000 in
theorem kJx4a65c_add_9ea2dF (l : Launch) (G : gx_T) (L : List Nat) (f : Nat → va_E) (h b n : Nat) (mc : Int32) (g : Nat → Option Nat) (xs : List Nat) (hh : h ∈ L) (fh : f h = .inr (4, [.int mc, .ref b, .int (nI n)])) (hb : b ∈ L) (fb : f b = .inl (G.2.1 3, n, .inr (.inr (.inr (.inr g))))) (h0 : 0 < n) (hn : n ≤ 16) (hxn : xs.length = n) (hgx : ∀ i (h : i < n), g i = some (xs[i]'(by omega))) (hxh : ∀ x ∈ xs, x ≠ h) (hel : ∀ j : Nat, j < n → ∀ y : Nat, g j = some y → gx_el L f y) (v ci0 N0 : Nat) (vs : List Value) (K0 : String) (T0 : u_T) (hv : v ∈ L) (fv : f v = .inr (ci0, vs)) (hc0 : vwCl[ci0]? = some (K0, T0, N0)) (hw0 : Cond.castable K0 "java/lang/Object" ∈ gx_nW) (hvh : v ≠ h) : gx_M l G yJx4a65c_add_9ea2d cJx4a65c_add_9ea2d 2 (some .boolean) ({ frames := 6, cells := 1, slots := 24, locals := 186 } : Room) [.ref h, .ref v] (va_pl L f) (fun w u => w = some (.int 1) ∧ ls_added G L f h (some b) xs v u) := by
  refine gx_start (by decide +kernel) (Nat.le_of_ble_eq_true rfl) ?_
  intro p e s m args below meth c A ls C hr hnm hW hl
  have gX := C.x
  have gB := C.b
  have hl : lv_has ls 2 [(0, .ref h), (1, .ref v)] := hl
  refine lv_aload_n gX gB dJx4a65c_add_9ea2d_0 rfl (lv_at hl 0 rfl) ?_
  refine lv_dup gX gB dJx4a65c_add_9ea2d_1 rfl ?_
  refine gx_get C hW fJx4a65c_63 (gx_pl hh fh) rfl dJx4a65c_add_9ea2d_2 ?_
  refine lv_iconst (v := 1) gX gB dJx4a65c_add_9ea2d_5 (by decide) ?_
  refine lv_iadd gX gB dJx4a65c_add_9ea2d_6 ?_
  refine gx_put C hW clJx4a65c fJx4a65c_63 hh fh (Or.inl rfl) rfl rfl (Nat.le_of_ble_eq_true rfl) dJx4a65c_add_9ea2d_7 (fun H locs hW => ?_)
  obtain ⟨f16, hf16⟩ : ∃ zz, zz = va_up f h (.inr (4, [.int (mc + 1), .ref b, .int (nI n)])) := ⟨_, rfl⟩
  have hW : gx_W G A s (va_pl L f16) H locs := by rw [hf16]; exact hW
  have f16_h : f16 h = .inr (4, [.int (mc + 1), .ref b, .int (nI n)]) := by rw [hf16]; exact va_up_self _ _ _
  have f16_b : f16 b = .inl (G.2.1 3, n, .inr (.inr (.inr (.inr g)))) := by rw [hf16, va_up_ne _ _ (gx_ne fb fh (by simp))]; exact fb
  refine lv_aload_n gX gB dJx4a65c_add_9ea2d_10 rfl (lv_at hl 0 rfl) ?_
  refine lv_aload_n gX gB dJx4a65c_add_9ea2d_11 rfl (lv_at hl 1 rfl) ?_
  refine lv_aload_n gX gB dJx4a65c_add_9ea2d_12 rfl (lv_at hl 0 rfl) ?_
  refine gx_get C hW fJx4a65c_9 (gx_pl hh f16_h) rfl dJx4a65c_add_9ea2d_13 ?_
  refine lv_aload_n gX gB dJx4a65c_add_9ea2d_16 rfl (lv_at hl 0 rfl) ?_
  refine gx_get C hW fJx4a65c_48 (gx_pl hh f16_h) rfl dJx4a65c_add_9ea2d_17 ?_
  have fv2 : f16 v = .inr (ci0, vs) := by rw [hf16, va_up_ne _ _ hvh]; exact fv
  have hel2 : ∀ j : Nat, j < n → ∀ y : Nat, g j = some y → gx_el L f16 y := fun j hj y hy => by
    have k9 := hel j hj y hy
    have k8 : y ≠ h := by
      rw [hgx j hj] at hy
      cases hy
      exact hxh _ (List.getElem_mem _)
    rw [hf16]
    exact k9.up k8
  refine gx_callV (wr := []) (rest := []) C hW sJx4a65c_131 (kJx4a65c_add_72be8F l G L f16 h b n (mc + 1) g hh f16_h hb f16_b h0 hn hel2 v ci0 N0 vs K0 T0 hv fv2 hc0 hw0 hvh) (gx_pl hh f16_h) rfl rfl ⟨(Nat.le_of_ble_eq_true rfl), (Nat.le_of_ble_eq_true rfl)⟩ hl.1 rfl (Nat.le_of_ble_eq_true rfl) dJx4a65c_add_9ea2d_20 ⟨(Nat.le_of_ble_eq_true rfl), (Nat.le_of_ble_eq_true rfl)⟩ (fun v9 u9 H locs hp hW => ?_)
  obtain ⟨q, hq, rfl, hu⟩ := hp
  rw [hu] at hW
  rw [← hu] at hW
  have hW : gx_W G A s u9 H locs := hW
  refine W.eq (g2 := F0 m 23 ls []) rfl ?_
  refine W.widen (k := 1) (n := 24) (Nat.le_of_ble_eq_true rfl) (Nat.le_of_ble_eq_true rfl) ?_
  refine lv_iconst (v := 1) gX gB dJx4a65c_add_9ea2d_23 (by decide) ?_
  exact gx_zret C hr (by decide) hW (⟨rfl, L ++ [q], _, q, hu, ⟨List.mem_append_left _ hh, mc + 1, List.mem_append_right _ List.mem_cons_self, (va_up_self _ _ _).trans (by rw [List.length_append, hxn]; rfl), _, _, (va_up_ne _ _ (fun zz => hq (by rw [zz]; exact hh))).trans (va_up_self _ _ _), by rw [List.length_append, List.length_singleton]; omega, by omega, by omega, by subst hxn; exact ls_snoc (fun i hi => by rw [pk_cpy_in (Nat.zero_le _) (by omega)]; rw [Nat.sub_zero, Nat.zero_add]; exact hgx i hi)⟩, Or.inr ⟨hq, rfl⟩, fun a ha h1 h2 => by rw [va_up_ne _ _ h1, va_up_ne _ _ (fun zz => hq (by rw [← zz]; exact ha)), hf16, va_up_ne _ _ h1]⟩) (Nat.le_of_ble_eq_true rfl) (Nat.le_of_ble_eq_true rfl) dJx4a65c_add_9ea2d_24
end
section
/-! LISTS: the contracts over ls_at; clear. -/
theorem gx_upE {f : Nat → va_E} {b : Nat} {x : va_E} (h : f b = x) : va_up f b x = f := by
  funext k
  unfold va_up
  by_cases e : k = b
  · rw [if_pos e, e, h]
  · rw [if_neg e]
set_option maxHeartbeats 4000000 in
set_option maxRecDepth 100000 in
theorem kJx4a65c_clear_da8c80 (l : Launch) (G : gx_T) (L : List Nat) (f : Nat → va_E) (h : Nat) (mc : Int32) (hh : h ∈ L) (fh : f h = .inr (4, [.int mc, .ref (G.2.2 0), .int 0])) : gx_M l G yJx4a65c_clear_da8c8 cJx4a65c_clear_da8c8 4 none ({ frames := 0, cells := 0, slots := 0, locals := 0 } : Room) [.ref h] (va_pl L f) (fun w u => w = none ∧ ∃ f1 : Nat → va_E, u = va_pl L f1 ∧ ls_at G L f1 h none [] ∧ ∀ a, a ≠ h → some a ≠ (none : Option Nat) → f1 a = f a) := by
  refine gx_start (by decide +kernel) (Nat.le_of_ble_eq_true rfl) ?_
  intro p e s m args below meth c A ls C hr hnm hW hl
  have gX := C.x
  have gB := C.b
  have hl : lv_has ls 4 [(0, .ref h)] := hl
  refine lv_aload_n gX gB dJx4a65c_clear_da8c8_0 rfl (lv_at hl 0 rfl) ?_
  refine lv_dup gX gB dJx4a65c_clear_da8c8_1 rfl ?_
  refine gx_get C hW fJx4a65c_63 (gx_pl hh fh) rfl dJx4a65c_clear_da8c8_2 ?_
  refine lv_iconst (v := 1) gX gB dJx4a65c_clear_da8c8_5 (by decide) ?_
  refine lv_iadd gX gB dJx4a65c_clear_da8c8_6 ?_
  refine gx_put C hW clJx4a65c fJx4a65c_63 hh fh (Or.inl rfl) rfl rfl (Nat.le_of_ble_eq_true rfl) dJx4a65c_clear_da8c8_7 (fun H locs hW => ?_)
  obtain ⟨f11, hf11⟩ : ∃ zz, zz = va_up f h (.inr (4, [.int (mc + 1), .ref (G.2.2 0), .int 0])) := ⟨_, rfl⟩
  have hW : gx_W G A s (va_pl L f11) H locs := by rw [hf11]; exact hW
  have f11_h : f11 h = .inr (4, [.int (mc + 1), .ref (G.2.2 0), .int 0]) := by rw [hf11]; exact va_up_self _ _ _
  refine lv_aload_n gX gB dJx4a65c_clear_da8c8_10 rfl (lv_at hl 0 rfl) ?_
  refine gx_get C hW fJx4a65c_9 (gx_pl hh f11_h) rfl dJx4a65c_clear_da8c8_11 ?_
  refine lv_astore_n (lv' := [(1, .ref (G.2.2 0)), (0, .ref h)]) gX gB dJx4a65c_clear_da8c8_14 rfl hl (by decide) rfl (fun ls hl => ?_)
  refine lv_aload_n gX gB dJx4a65c_clear_da8c8_15 rfl (lv_at hl 1 rfl) ?_
  refine gx_get C hW fJx4a65c_48 (gx_pl hh f11_h) rfl dJx4a65c_clear_da8c8_16 ?_
  refine lv_istore_n (lv' := [(2, .int 0), (1, .ref (G.2.2 0)), (0, .ref h)]) gX gB dJx4a65c_clear_da8c8_19 rfl hl (by decide) rfl (fun ls hl => ?_)
  refine lv_aload_n gX gB dJx4a65c_clear_da8c8_20 rfl (lv_at hl 2 rfl) ?_
  refine lv_iconst (v := 0) gX gB dJx4a65c_clear_da8c8_21 (by decide) ?_
  refine lv_dup_x1 gX gB dJx4a65c_clear_da8c8_22 rfl rfl ?_
  refine gx_put C hW clJx4a65c fJx4a65c_48 hh f11_h (Or.inl rfl) rfl rfl (Nat.le_of_ble_eq_true rfl) dJx4a65c_clear_da8c8_23 (fun H locs hW => ?_)
  obtain ⟨f12, hf12⟩ : ∃ zz, zz = va_up f11 h (.inr (4, [.int (mc + 1), .ref (G.2.2 0), .int 0])) := ⟨_, rfl⟩
  have hW : gx_W G A s (va_pl L f12) H locs := by rw [hf12]; exact hW
  have f12_h : f12 h = .inr (4, [.int (mc + 1), .ref (G.2.2 0), .int 0]) := by rw [hf12]; exact va_up_self _ _ _
  refine lv_istore_n (lv' := [(3, .int 0), (2, .int 0), (1, .ref (G.2.2 0)), (0, .ref h)]) gX gB dJx4a65c_clear_da8c8_26 rfl hl (by decide) rfl (fun ls hl => ?_)
  refine lv_iload_n gX gB dJx4a65c_clear_da8c8_27 rfl (lv_at hl 0 rfl) ?_
  refine lv_iload_n gX gB dJx4a65c_clear_da8c8_28 rfl (lv_at hl 1 rfl) ?_
  refine lv_icmp_ge (tgt := 42) gX gB dJx4a65c_clear_da8c8_29 (by decide) (fun _ => ?_) (fun h9 => absurd (show (0 : Int32) ≤ 0 from by decide) h9)
  exact gx_vret C hr hW (⟨rfl, f12, rfl, ⟨hh, mc + 1, rfl, f12_h⟩, fun a h1 _ => by rw [hf12, hf11, va_up_ne _ _ h1, va_up_ne _ _ h1]⟩) (Nat.le_of_ble_eq_true rfl) (Nat.le_of_ble_eq_true rfl) dJx4a65c_clear_da8c8_42
set_option maxHeartbeats 4000000 in
set_option maxRecDepth 100000 in
theorem kJx4a65c_clear_da8c8B (l : Launch) (G : gx_T) (L : List Nat) (f : Nat → va_E) (h b n k : Nat) (mc : Int32) (g : Nat → Option Nat) (hh : h ∈ L) (fh : f h = .inr (4, [.int mc, .ref b, .int (nI k)])) (hb : b ∈ L) (fb : f b = .inl (G.2.1 3, n, .inr (.inr (.inr (.inr g))))) (hk : k ≤ n) (h0 : 0 < n) (hn : n ≤ 24) : gx_M l G yJx4a65c_clear_da8c8 cJx4a65c_clear_da8c8 4 none ({ frames := 0, cells := 0, slots := 0, locals := 0 } : Room) [.ref h] (va_pl L f) (fun w u => w = none ∧ ∃ f1 : Nat → va_E, u = va_pl L f1 ∧ ls_at G L f1 h (some b) [] ∧ ∀ a, a ≠ h → some a ≠ some b → f1 a = f a) := by
  refine gx_start (by decide +kernel) (Nat.le_of_ble_eq_true rfl) ?_
  intro p e s m args below meth c A ls C hr hnm hW hl
  have gX := C.x
  have gB := C.b
  have hl : lv_has ls 4 [(0, .ref h)] := hl
  refine lv_aload_n gX gB dJx4a65c_clear_da8c8_0 rfl (lv_at hl 0 rfl) ?_
  refine lv_dup gX gB dJx4a65c_clear_da8c8_1 rfl ?_
  refine gx_get C hW fJx4a65c_63 (gx_pl hh fh) rfl dJx4a65c_clear_da8c8_2 ?_
  refine lv_iconst (v := 1) gX gB dJx4a65c_clear_da8c8_5 (by decide) ?_
  refine lv_iadd gX gB dJx4a65c_clear_da8c8_6 ?_
  refine gx_put C hW clJx4a65c fJx4a65c_63 hh fh (Or.inl rfl) rfl rfl (Nat.le_of_ble_eq_true rfl) dJx4a65c_clear_da8c8_7 (fun H locs hW => ?_)
  obtain ⟨f13, hf13⟩ : ∃ zz, zz = va_up f h (.inr (4, [.int (mc + 1), .ref b, .int (nI k)])) := ⟨_, rfl⟩
  have hW : gx_W G A s (va_pl L f13) H locs := by rw [hf13]; exact hW
  have f13_h : f13 h = .inr (4, [.int (mc + 1), .ref b, .int (nI k)]) := by rw [hf13]; exact va_up_self _ _ _
  have f13_b : f13 b = .inl (G.2.1 3, n, .inr (.inr (.inr (.inr g)))) := by rw [hf13, va_up_ne _ _ (gx_ne fb fh (by simp))]; exact fb
  refine lv_aload_n gX gB dJx4a65c_clear_da8c8_10 rfl (lv_at hl 0 rfl) ?_
  refine gx_get C hW fJx4a65c_9 (gx_pl hh f13_h) rfl dJx4a65c_clear_da8c8_11 ?_
  refine lv_astore_n (lv' := [(1, .ref b), (0, .ref h)]) gX gB dJx4a65c_clear_da8c8_14 rfl hl (by decide) rfl (fun ls hl => ?_)
  refine lv_aload_n gX gB dJx4a65c_clear_da8c8_15 rfl (lv_at hl 1 rfl) ?_
  refine gx_get C hW fJx4a65c_48 (gx_pl hh f13_h) rfl dJx4a65c_clear_da8c8_16 ?_
  refine lv_istore_n (lv' := [(2, .int (nI k)), (1, .ref b), (0, .ref h)]) gX gB dJx4a65c_clear_da8c8_19 rfl hl (by decide) rfl (fun ls hl => ?_)
  refine lv_aload_n gX gB dJx4a65c_clear_da8c8_20 rfl (lv_at hl 2 rfl) ?_
  refine lv_iconst (v := 0) gX gB dJx4a65c_clear_da8c8_21 (by decide) ?_
  refine lv_dup_x1 gX gB dJx4a65c_clear_da8c8_22 rfl rfl ?_
  refine gx_put C hW clJx4a65c fJx4a65c_48 hh f13_h (Or.inl rfl) rfl rfl (Nat.le_of_ble_eq_true rfl) dJx4a65c_clear_da8c8_23 (fun H locs hW => ?_)
  obtain ⟨f14, hf14⟩ : ∃ zz, zz = va_up f13 h (.inr (4, [.int (mc + 1), .ref b, .int 0])) := ⟨_, rfl⟩
  have hW : gx_W G A s (va_pl L f14) H locs := by rw [hf14]; exact hW
  have f14_h : f14 h = .inr (4, [.int (mc + 1), .ref b, .int 0]) := by rw [hf14]; exact va_up_self _ _ _
  have f14_b : f14 b = .inl (G.2.1 3, n, .inr (.inr (.inr (.inr g)))) := by rw [hf14, va_up_ne _ _ (gx_ne f13_b f13_h (by simp))]; exact f13_b
  refine lv_istore_n (lv' := [(3, .int 0), (2, .int (nI k)), (1, .ref b), (0, .ref h)]) gX gB dJx4a65c_clear_da8c8_26 rfl hl (by decide) rfl (fun ls hl => ?_)
  have hbh : h ≠ b := gx_ne fh fb (by simp)
  have hW : gx_W G A s (va_pl L (va_up f14 b (.inl (G.2.1 3, n, .inr (.inr (.inr (.inr g))))))) H locs := by rw [gx_upE f14_b]; exact hW
  have hl : lv_has ls 4 [(3, .int (nI 0)), (2, .int (nI k)), (1, .ref b), (0, .ref h)] := hl
  have loop : ∀ (r : Nat) (i : Nat) (g1 : Nat → Option Nat), (k - i < r) → (i ≤ k) → ∀ (H : Heap) (locs : List Loc), gx_W G A s (va_pl L (va_up f14 b (.inl (G.2.1 3, n, .inr (.inr (.inr (.inr g1))))))) H locs → ∀ ls : Array Slot, lv_has ls 4 [(3, .int (nI i)), (2, .int (nI k)), (1, .ref b), (0, .ref h)] → W p l e ({ frames := 0, cells := 0, slots := 0, locals := 0 } : Room) s m args below meth c H locs 0 0 (MQ below (gx_Q G A (fun w u => w = none ∧ ∃ f1 : Nat → va_E, u = va_pl L f1 ∧ ls_at G L f1 h (some b) [] ∧ ∀ a, a ≠ h → some a ≠ some b → f1 a = f a)) args s (({ frames := 0, cells := 0, slots := 0, locals := 0 } : Room)).cells (({ frames := 0, cells := 0, slots := 0, locals := 0 } : Room)).slots A) (F0 m 27 ls []) := by
    intro r
    induction r with
    | zero => intro i g1 hfu hi H locs hW ls hl; exact absurd hfu (Nat.not_lt_zero _)
    | succ r ih =>
      intro i g1 hfu hi H locs hW ls hl
      rcases Nat.lt_or_ge i k with hik | hik
      · refine lv_iload_n gX gB dJx4a65c_clear_da8c8_27 rfl (lv_at hl 0 rfl) ?_
        refine lv_iload_n gX gB dJx4a65c_clear_da8c8_28 rfl (lv_at hl 1 rfl) ?_
        refine lv_icmp_ge (tgt := 42) gX gB dJx4a65c_clear_da8c8_29 (by decide) (fun h9 => absurd (show (nI k) ≤ (nI i) from h9) (nI_ge hik (by omega))) (fun _ => ?_)
        refine lv_aload_n gX gB dJx4a65c_clear_da8c8_32 rfl (lv_at hl 2 rfl) ?_
        refine lv_iload_n gX gB dJx4a65c_clear_da8c8_33 rfl (lv_at hl 0 rfl) ?_
        refine lv_null gX gB dJx4a65c_clear_da8c8_34 ?_
        refine gx_aastN C hW hb (va_up_self _ _ _) rfl (by omega) (by omega) dJx4a65c_clear_da8c8_35 (fun H locs hW => ?_)
        rw [bx_uu] at hW
        refine lv_iinc (v := nI (i + 1)) (lv' := [(3, .int (nI (i + 1))), (2, .int (nI k)), (1, .ref b), (0, .ref h)]) gX gB dJx4a65c_clear_da8c8_36 hl (k := 0) rfl (by exact nI_1 i) (by decide) rfl (fun ls hl => ?_)
        refine lv_goto (tgt := 27) gX gB dJx4a65c_clear_da8c8_39 (by decide) ?_
        exact ih (i + 1) _ (by omega) (by omega) H locs hW ls (lv_sub hl [0, 1, 2, 3] rfl)
      · refine lv_iload_n gX gB dJx4a65c_clear_da8c8_27 rfl (lv_at hl 0 rfl) ?_
        refine lv_iload_n gX gB dJx4a65c_clear_da8c8_28 rfl (lv_at hl 1 rfl) ?_
        refine lv_icmp_ge (tgt := 42) gX gB dJx4a65c_clear_da8c8_29 (by decide) (fun _ => ?_) (fun h9 => absurd (show (nI k) ≤ (nI i) from nI_le hik (by omega)) h9)
        exact gx_vret C hr hW (⟨rfl, _, rfl, ⟨hh, mc + 1, hb, (va_up_ne _ _ hbh).trans f14_h, n, g1, va_up_self _ _ _, Nat.zero_le _, h0, hn, fun i hi => absurd hi (Nat.not_lt_zero _)⟩, fun a h1 h2 => by rw [va_up_ne _ _ (fun zz => h2 (by rw [zz])), hf14, hf13, va_up_ne _ _ h1, va_up_ne _ _ h1]⟩) (Nat.le_of_ble_eq_true rfl) (Nat.le_of_ble_eq_true rfl) dJx4a65c_clear_da8c8_42
  exact loop (k + 1) 0 g (by omega) (Nat.zero_le _) H locs hW ls (lv_sub hl [0, 1, 2, 3] rfl)
theorem ls_at.lt {G : gx_T} {L : List Nat} {f : Nat → va_E} {q : Nat} {b : Option Nat} {xs : List Nat} (h : ls_at G L f q b xs) : xs.length ≤ 24 := by
  obtain ⟨-, mc, h2⟩ := h
  cases b with
  | none => rw [h2.1]; decide
  | some b =>
    obtain ⟨-, -, n, g, -, h5, -, h6, -⟩ := h2
    omega
theorem kL_size (l : Launch) (G : gx_T) (L : List Nat) (f : Nat → va_E) (h : Nat) (b : Option Nat) (xs : List Nat) (hls : ls_at G L f h b xs) : gx_M l G yJx4a65c_size_8abf5 cJx4a65c_size_8abf5 1 (some .int) ({ frames := 0, cells := 0, slots := 0, locals := 0 } : Room) [.ref h] (va_pl L f) (fun v u => v = some (.int (nI xs.length)) ∧ u = va_pl L f) := by
  obtain ⟨mc, r, hf⟩ := hls.head
  exact kJx4a65c_size_8abf5 l G L f h r mc _ hls.1 hf
theorem kL_empty (l : Launch) (G : gx_T) (L : List Nat) (f : Nat → va_E) (h : Nat) (b : Option Nat) (xs : List Nat) (hls : ls_at G L f h b xs) : gx_M l G yJx4a65c_isEmpty_aae02 cJx4a65c_isEmpty_aae02 1 (some .boolean) ({ frames := 0, cells := 0, slots := 0, locals := 0 } : Room) [.ref h] (va_pl L f) (fun v u => v = some (.int (if xs.length = 0 then 1 else 0)) ∧ u = va_pl L f) := by
  obtain ⟨mc, r, hf⟩ := hls.head
  have e : gx_b (nI xs.length = 0) = if xs.length = 0 then 1 else 0 := by
    unfold gx_b
    have := hls.lt
    have h9 : nI xs.length = 0 ↔ xs.length = 0 := nI_eq (b := 0) (by omega) (by decide)
    by_cases h0 : xs.length = 0
    · rw [if_pos h0, if_pos (h9.mpr h0)]
    · rw [if_neg h0, if_neg (fun z => h0 (h9.mp z))]
  have k := kJx4a65c_isEmpty_aae02 l G L f h r mc _ hls.1 hf
  rw [e] at k
  exact k
theorem kL_get (l : Launch) (G : gx_T) (L : List Nat) (f : Nat → va_E) (h : Nat) (b : Option Nat) (xs : List Nat) (hls : ls_at G L f h b xs) (j : Nat) (hj : j < xs.length) : gx_M l G yJx4a65c_get_915e3 cJx4a65c_get_915e3 2 (some (.object "java/lang/Object")) ({ frames := 2, cells := 0, slots := 0, locals := 43 } : Room) [.ref h, .int (nI j)] (va_pl L f) (fun v u => v = some (.ref xs[j]) ∧ u = va_pl L f) := by
  obtain ⟨hq, mc, h2⟩ := hls
  cases b with
  | none =>
    rw [h2.1] at hj
    exact absurd hj (Nat.not_lt_zero _)
  | some b =>
    obtain ⟨hb, hf, n, g, hg, h5, -, h6, h7⟩ := h2
    exact kJx4a65c_get_915e3 l G L f h b n xs.length j xs[j] mc g hq hf hb hg hj h5 (by omega) (h7 j hj)
theorem kL_clear (l : Launch) (G : gx_T) (L : List Nat) (f : Nat → va_E) (h : Nat) (b : Option Nat) (xs : List Nat) (hls : ls_at G L f h b xs) : gx_M l G yJx4a65c_clear_da8c8 cJx4a65c_clear_da8c8 4 none ({ frames := 0, cells := 0, slots := 0, locals := 0 } : Room) [.ref h] (va_pl L f) (fun w u => w = none ∧ ∃ f1 : Nat → va_E, u = va_pl L f1 ∧ ls_at G L f1 h b [] ∧ ∀ a, a ≠ h → some a ≠ b → f1 a = f a) := by
  obtain ⟨hq, mc, h2⟩ := hls
  cases b with
  | none => exact kJx4a65c_clear_da8c80 l G L f h mc hq h2.2
  | some b =>
    obtain ⟨hb, hf, n, g, hg, h5, h4, h6, h7⟩ := h2
    exact kJx4a65c_clear_da8c8B l G L f h b n xs.length mc g hq hf hb hg h5 h4 h6
theorem kL_add (l : Launch) (G : gx_T) (L : List Nat) (f : Nat → va_E) (h : Nat) (b : Option Nat) (xs : List Nat) (hls : ls_at G L f h b xs) (v : Nat) (hv : gx_el L f v) (hvh : v ≠ h) (hel : ∀ x ∈ xs, gx_el L f x ∧ x ≠ h) (hxl : xs.length ≤ 16) : gx_M l G yJx4a65c_add_9ea2d cJx4a65c_add_9ea2d 2 (some .boolean) ({ frames := 6, cells := 1, slots := 24, locals := 186 } : Room) [.ref h, .ref v] (va_pl L f) (fun w u => w = some (.int 1) ∧ ls_added G L f h b xs v u) := by
  obtain ⟨hvL, ci, N, vs, K, T, fv, hc, hw⟩ := hv
  obtain ⟨hq, mc, h2⟩ := hls
  cases b with
  | none =>
    obtain ⟨rfl, hf⟩ := h2
    exact kJx4a65c_add_9ea2d0 l G L f h mc hq hf v ci N vs K T hvL fv hc hw hvh
  | some b =>
    obtain ⟨hb, hf, n, g, hg, h5, h4, h6, h7⟩ := h2
    rcases Nat.lt_or_ge xs.length n with h9 | h9
    · exact kJx4a65c_add_9ea2dN l G L f h b n mc g xs hq hf hb hg h9 h6 h7 v ci N vs K T hvL fv hc hw hvh
    · have e : xs.length = n := by omega
      refine kJx4a65c_add_9ea2dF l G L f h b n mc g xs hq (by rw [← e]; exact hf) hb hg h4 (by omega) e (fun i hi => h7 i (by omega)) (fun x hx => (hel x hx).2) (fun j hj y hy => ?_) v ci N vs K T hvL fv hc hw hvh
      rw [h7 j (by omega)] at hy
      cases hy
      exact (hel _ (List.getElem_mem _)).1
end
section
/-! STANDTESTS: its static helpers. -/
/-- x lies from a to b -/
abbrev in_rng (a b x : Int64) : Prop := ¬ x < a ∧ ¬ b < x
theorem gx_b1 {b : Prop} [Decidable b] : ¬ gx_b b = 0 ↔ b := by
  unfold gx_b
  by_cases h : b <;> simp [h]
set_option maxHeartbeats 4000000 in
set_option maxRecDepth 100000 in
theorem kX5_isWithin (l : Launch) (G : gx_T) (ws : va_W) (x a b : Int64) : gx_M l G yX5_isWithin cX5_isWithin 6 (some .boolean) ({ frames := 0, cells := 0, slots := 0, locals := 0 } : Room) [.long x, .long a, .long b] (ws) (fun v u => v = some (.int (gx_b (¬ x < a ∧ ¬ b < x))) ∧ u = ws) := by
  refine gx_start (by decide +kernel) (Nat.le_of_ble_eq_true rfl) ?_
  intro p e s m args below meth c A ls C hr hnm hW hl
  have gX := C.x
  have gB := C.b
  have hl : lv_has ls 6 [(0, .long x), (2, .long a), (4, .long b)] := hl
  refine lv_lload_n gX gB dX5_isWithin_0 rfl (lv_at hl 0 rfl) ?_
  refine lv_lload_n gX gB dX5_isWithin_1 rfl (lv_at hl 1 rfl) ?_
  refine gx_lc_lt (tgt := 17) C dX5_isWithin_2 dX5_isWithin_3 (by decide) (fun c2 => ?_) (fun c2 => ?_)
  · refine lv_iconst (v := 0) gX gB dX5_isWithin_17 (by decide) ?_
    exact gx_zret C hr (by decide) hW (⟨by simp [gx_b, c2], rfl⟩) (Nat.le_of_ble_eq_true rfl) (Nat.le_of_ble_eq_true rfl) dX5_isWithin_18
  · refine lv_lload_n gX gB dX5_isWithin_6 rfl (lv_at hl 0 rfl) ?_
    refine lv_lload gX gB dX5_isWithin_7 (lv_at hl 2 rfl) ?_
    refine gx_lc_gt (tgt := 17) C dX5_isWithin_9 dX5_isWithin_10 (by decide) (fun c9 => ?_) (fun c9 => ?_)
    · refine lv_iconst (v := 0) gX gB dX5_isWithin_17 (by decide) ?_
      exact gx_zret C hr (by decide) hW (⟨by simp [gx_b, c2, c9], rfl⟩) (Nat.le_of_ble_eq_true rfl) (Nat.le_of_ble_eq_true rfl) dX5_isWithin_18
    · refine lv_iconst (v := 1) gX gB dX5_isWithin_13 (by decide) ?_
      refine lv_goto (tgt := 18) gX gB dX5_isWithin_14 (by decide) ?_
      exact gx_zret C hr (by decide) hW (⟨by simp [gx_b, c2, c9], rfl⟩) (Nat.le_of_ble_eq_true rfl) (Nat.le_of_ble_eq_true rfl) dX5_isWithin_18
set_option maxHeartbeats 4000000 in
set_option maxRecDepth 100000 in
theorem kX5_needPlace (l : Launch) (hfl : l.flags = flags0) (G : gx_T) (ws : va_W) (x : Int64) : gx_MX l G yX5_needPlace cX5_needPlace 2 none ({ frames := 6, cells := 1, slots := 6, locals := 90 } : Room) [.long x] (ws) (fun v u => v = none ∧ u = ws ∧ in_rng (-100000) 100000 x) (fun E u => E = gx_E2 ∧ u = ws ∧ ¬ in_rng (-100000) 100000 x) := by
  refine gx_startX (by decide +kernel) (Nat.le_of_ble_eq_true rfl) ?_
  intro p e s m args below meth c A ls C hr hno hW hl
  have gX := C.x
  have gB := C.b
  have hl : lv_has ls 2 [(0, .long x)] := hl
  refine lv_lload_n gX gB dX5_needPlace_0 rfl (lv_at hl 0 rfl) ?_
  refine gx_ldc2 (v := (-100000)) C (tq_3 210 (by decide +kernel) rfl) dX5_needPlace_1 ?_
  refine gx_ldc2 (v := 100000) C (tq_3 211 (by decide +kernel) rfl) dX5_needPlace_4 ?_
  refine gx_callS (wr := []) (rest := []) C hW sX5_86 (kX5_isWithin l G ws x (-100000) 100000) rfl ⟨(Nat.le_of_ble_eq_true rfl), (Nat.le_of_ble_eq_true rfl)⟩ hl.1 rfl (Nat.le_of_ble_eq_true rfl) dX5_needPlace_7 ⟨(Nat.le_of_ble_eq_true rfl), (Nat.le_of_ble_eq_true rfl)⟩ (fun v9 u9 H locs hp hW => ?_)
  obtain ⟨rfl, hu⟩ := hp
  rw [hu] at hW
  have hW : gx_W G A s (ws) H locs := hW
  refine W.eq (g2 := F0 m 10 ls [.int (gx_b (¬ x < (-100000) ∧ ¬ 100000 < x))]) rfl ?_
  refine W.widen (k := 0) (n := 0) (Nat.le_of_ble_eq_true rfl) (Nat.le_of_ble_eq_true rfl) ?_
  refine lv_if_ne (tgt := 23) gX gB dX5_needPlace_10 (by decide) (fun c10 => ?_) (fun c10 => ?_)
  · refine vx_ret ?_
    exact gx_vret C hr hW (⟨rfl, rfl, gx_b1.mp c10⟩) (Nat.le_of_ble_eq_true rfl) (Nat.le_of_ble_eq_true rfl) dX5_needPlace_23
  · exact gx_throw (text := "a place is out of its range") hfl C hno hW gx_thr2 (by decide +kernel) (tq_3 215 (by decide +kernel) rfl) (tq_1 15 (by decide +kernel) rfl) (tr_3 216 (by decide +kernel)) hl.1 dX5_needPlace_13 dX5_needPlace_16 dX5_needPlace_17 dX5_needPlace_19 dX5_needPlace_22 (Nat.le_of_ble_eq_true rfl) (Nat.le_of_ble_eq_true rfl) (Nat.le_of_ble_eq_true rfl) (Nat.le_of_ble_eq_true rfl) (⟨rfl, rfl, gx_b0.mp c10⟩) (Nat.le_of_ble_eq_true rfl) (Nat.le_of_ble_eq_true rfl)
set_option maxHeartbeats 4000000 in
set_option maxRecDepth 100000 in
theorem kX5_needGrams (l : Launch) (hfl : l.flags = flags0) (G : gx_T) (ws : va_W) (x : Int64) : gx_MX l G yX5_needGrams cX5_needGrams 2 none ({ frames := 6, cells := 1, slots := 6, locals := 90 } : Room) [.long x] (ws) (fun v u => v = none ∧ u = ws ∧ in_rng 0 1000000 x) (fun E u => E = gx_E2 ∧ u = ws ∧ ¬ in_rng 0 1000000 x) := by
  refine gx_startX (by decide +kernel) (Nat.le_of_ble_eq_true rfl) ?_
  intro p e s m args below meth c A ls C hr hno hW hl
  have gX := C.x
  have gB := C.b
  have hl : lv_has ls 2 [(0, .long x)] := hl
  refine lv_lload_n gX gB dX5_needGrams_0 rfl (lv_at hl 0 rfl) ?_
  refine lv_lconst (v := 0) gX gB dX5_needGrams_1 (by decide) ?_
  refine gx_ldc2 (v := 1000000) C (tq_3 221 (by decide +kernel) rfl) dX5_needGrams_2 ?_
  refine gx_callS (wr := []) (rest := []) C hW sX5_86 (kX5_isWithin l G ws x 0 1000000) rfl ⟨(Nat.le_of_ble_eq_true rfl), (Nat.le_of_ble_eq_true rfl)⟩ hl.1 rfl (Nat.le_of_ble_eq_true rfl) dX5_needGrams_5 ⟨(Nat.le_of_ble_eq_true rfl), (Nat.le_of_ble_eq_true rfl)⟩ (fun v9 u9 H locs hp hW => ?_)
  obtain ⟨rfl, hu⟩ := hp
  rw [hu] at hW
  have hW : gx_W G A s (ws) H locs := hW
  refine W.eq (g2 := F0 m 8 ls [.int (gx_b (¬ x < 0 ∧ ¬ 1000000 < x))]) rfl ?_
  refine W.widen (k := 0) (n := 0) (Nat.le_of_ble_eq_true rfl) (Nat.le_of_ble_eq_true rfl) ?_
  refine lv_if_ne (tgt := 21) gX gB dX5_needGrams_8 (by decide) (fun c8 => ?_) (fun c8 => ?_)
  · refine vx_ret ?_
    exact gx_vret C hr hW (⟨rfl, rfl, gx_b1.mp c8⟩) (Nat.le_of_ble_eq_true rfl) (Nat.le_of_ble_eq_true rfl) dX5_needGrams_21
  · exact gx_throw (text := "grams are out of their range") hfl C hno hW gx_thr2 (by decide +kernel) (tq_3 215 (by decide +kernel) rfl) (tq_1 15 (by decide +kernel) rfl) (tr_3 222 (by decide +kernel)) hl.1 dX5_needGrams_11 dX5_needGrams_14 dX5_needGrams_15 dX5_needGrams_17 dX5_needGrams_20 (Nat.le_of_ble_eq_true rfl) (Nat.le_of_ble_eq_true rfl) (Nat.le_of_ble_eq_true rfl) (Nat.le_of_ble_eq_true rfl) (⟨rfl, rfl, gx_b0.mp c8⟩) (Nat.le_of_ble_eq_true rfl) (Nat.le_of_ble_eq_true rfl)
set_option maxHeartbeats 4000000 in
set_option maxRecDepth 100000 in
theorem kX5_needHeight (l : Launch) (hfl : l.flags = flags0) (G : gx_T) (ws : va_W) (x : Int64) : gx_MX l G yX5_needHeight cX5_needHeight 2 none ({ frames := 6, cells := 1, slots := 6, locals := 90 } : Room) [.long x] (ws) (fun v u => v = none ∧ u = ws ∧ in_rng (-1000) 1000 x) (fun E u => E = gx_E2 ∧ u = ws ∧ ¬ in_rng (-1000) 1000 x) := by
  refine gx_startX (by decide +kernel) (Nat.le_of_ble_eq_true rfl) ?_
  intro p e s m args below meth c A ls C hr hno hW hl
  have gX := C.x
  have gB := C.b
  have hl : lv_has ls 2 [(0, .long x)] := hl
  refine lv_lload_n gX gB dX5_needHeight_0 rfl (lv_at hl 0 rfl) ?_
  refine gx_ldc2 (v := (-1000)) C (tq_4 215 (by decide +kernel) rfl) dX5_needHeight_1 ?_
  refine gx_ldc2 (v := 1000) C (tq_4 216 (by decide +kernel) rfl) dX5_needHeight_4 ?_
  refine gx_callS (wr := []) (rest := []) C hW sX5_86 (kX5_isWithin l G ws x (-1000) 1000) rfl ⟨(Nat.le_of_ble_eq_true rfl), (Nat.le_of_ble_eq_true rfl)⟩ hl.1 rfl (Nat.le_of_ble_eq_true rfl) dX5_needHeight_7 ⟨(Nat.le_of_ble_eq_true rfl), (Nat.le_of_ble_eq_true rfl)⟩ (fun v9 u9 H locs hp hW => ?_)
  obtain ⟨rfl, hu⟩ := hp
  rw [hu] at hW
  have hW : gx_W G A s (ws) H locs := hW
  refine W.eq (g2 := F0 m 10 ls [.int (gx_b (¬ x < (-1000) ∧ ¬ 1000 < x))]) rfl ?_
  refine W.widen (k := 0) (n := 0) (Nat.le_of_ble_eq_true rfl) (Nat.le_of_ble_eq_true rfl) ?_
  refine lv_if_ne (tgt := 23) gX gB dX5_needHeight_10 (by decide) (fun c10 => ?_) (fun c10 => ?_)
  · refine vx_ret ?_
    exact gx_vret C hr hW (⟨rfl, rfl, gx_b1.mp c10⟩) (Nat.le_of_ble_eq_true rfl) (Nat.le_of_ble_eq_true rfl) dX5_needHeight_23
  · exact gx_throw (text := "a height is out of its range") hfl C hno hW gx_thr2 (by decide +kernel) (tq_3 215 (by decide +kernel) rfl) (tq_1 15 (by decide +kernel) rfl) (tr_4 217 (by decide +kernel)) hl.1 dX5_needHeight_13 dX5_needHeight_16 dX5_needHeight_17 dX5_needHeight_19 dX5_needHeight_22 (Nat.le_of_ble_eq_true rfl) (Nat.le_of_ble_eq_true rfl) (Nat.le_of_ble_eq_true rfl) (Nat.le_of_ble_eq_true rfl) (⟨rfl, rfl, gx_b0.mp c10⟩) (Nat.le_of_ble_eq_true rfl) (Nat.le_of_ble_eq_true rfl)
def gp_of (v : Int64) : Int32 := if 5 < v ∧ v < 25 then 1 else if 89 < v ∧ v < 230 then 2 else 0
set_option maxHeartbeats 4000000 in
set_option maxRecDepth 100000 in
theorem kX5_gap (l : Launch) (G : gx_T) (ws : va_W) (o : Nat) (v : Int64) : gx_M l G yX5_gap cX5_gap 3 (some .int) ({ frames := 0, cells := 0, slots := 0, locals := 0 } : Room) [.ref o, .long v] (ws) (fun w u => w = some (.int (gp_of v)) ∧ u = ws) := by
  refine gx_start (by decide +kernel) (Nat.le_of_ble_eq_true rfl) ?_
  intro p e s m args below meth c A ls C hr hnm hW hl
  have gX := C.x
  have gB := C.b
  have hl : lv_has ls 3 [(0, .ref o), (1, .long v)] := hl
  refine lv_lload_n gX gB dX5_gap_0 rfl (lv_at hl 1 rfl) ?_
  refine gx_ldc2 (v := 5) C (tq_3 178 (by decide +kernel) rfl) dX5_gap_1 ?_
  refine gx_lc_le (tgt := 18) C dX5_gap_4 dX5_gap_5 (by decide) (fun c4 => ?_) (fun c4 => ?_)
  · refine lv_lload_n gX gB dX5_gap_18 rfl (lv_at hl 1 rfl) ?_
    refine gx_ldc2 (v := 89) C (tq_3 180 (by decide +kernel) rfl) dX5_gap_19 ?_
    refine gx_lc_le (tgt := 38) C dX5_gap_22 dX5_gap_23 (by decide) (fun c22 => ?_) (fun c22 => ?_)
    · refine lv_iconst (v := 0) gX gB dX5_gap_38 (by decide) ?_
      exact gx_iret C hr hW (⟨by simp [gx_b, gp_of, Int64.not_lt.mpr c4, Int64.not_lt.mpr c22], rfl⟩) (Nat.le_of_ble_eq_true rfl) (Nat.le_of_ble_eq_true rfl) dX5_gap_39
    · refine lv_lload_n gX gB dX5_gap_26 rfl (lv_at hl 1 rfl) ?_
      refine gx_ldc2 (v := 230) C (tq_3 181 (by decide +kernel) rfl) dX5_gap_27 ?_
      refine gx_lc_ge (tgt := 38) C dX5_gap_30 dX5_gap_31 (by decide) (fun c30 => ?_) (fun c30 => ?_)
      · refine lv_iconst (v := 0) gX gB dX5_gap_38 (by decide) ?_
        exact gx_iret C hr hW (⟨by simp [gx_b, gp_of, Int64.not_lt.mpr c4, Int64.not_le.mp c22, Int64.not_lt.mpr c30], rfl⟩) (Nat.le_of_ble_eq_true rfl) (Nat.le_of_ble_eq_true rfl) dX5_gap_39
      · refine lv_iconst (v := 2) gX gB dX5_gap_34 (by decide) ?_
        refine lv_goto (tgt := 39) gX gB dX5_gap_35 (by decide) ?_
        exact gx_iret C hr hW (⟨by simp [gx_b, gp_of, Int64.not_lt.mpr c4, Int64.not_le.mp c22, Int64.not_le.mp c30], rfl⟩) (Nat.le_of_ble_eq_true rfl) (Nat.le_of_ble_eq_true rfl) dX5_gap_39
  · refine lv_lload_n gX gB dX5_gap_8 rfl (lv_at hl 1 rfl) ?_
    refine gx_ldc2 (v := 25) C (tq_3 179 (by decide +kernel) rfl) dX5_gap_9 ?_
    refine gx_lc_ge (tgt := 18) C dX5_gap_12 dX5_gap_13 (by decide) (fun c12 => ?_) (fun c12 => ?_)
    · refine lv_lload_n gX gB dX5_gap_18 rfl (lv_at hl 1 rfl) ?_
      refine gx_ldc2 (v := 89) C (tq_3 180 (by decide +kernel) rfl) dX5_gap_19 ?_
      refine gx_lc_le (tgt := 38) C dX5_gap_22 dX5_gap_23 (by decide) (fun c22 => ?_) (fun c22 => ?_)
      · refine lv_iconst (v := 0) gX gB dX5_gap_38 (by decide) ?_
        exact gx_iret C hr hW (⟨by simp [gx_b, gp_of, Int64.not_le.mp c4, Int64.not_lt.mpr c12, Int64.not_lt.mpr c22], rfl⟩) (Nat.le_of_ble_eq_true rfl) (Nat.le_of_ble_eq_true rfl) dX5_gap_39
      · refine lv_lload_n gX gB dX5_gap_26 rfl (lv_at hl 1 rfl) ?_
        refine gx_ldc2 (v := 230) C (tq_3 181 (by decide +kernel) rfl) dX5_gap_27 ?_
        refine gx_lc_ge (tgt := 38) C dX5_gap_30 dX5_gap_31 (by decide) (fun c30 => ?_) (fun c30 => ?_)
        · refine lv_iconst (v := 0) gX gB dX5_gap_38 (by decide) ?_
          exact gx_iret C hr hW (⟨by simp [gx_b, gp_of, Int64.not_le.mp c4, Int64.not_lt.mpr c12, Int64.not_le.mp c22, Int64.not_lt.mpr c30], rfl⟩) (Nat.le_of_ble_eq_true rfl) (Nat.le_of_ble_eq_true rfl) dX5_gap_39
        · refine lv_iconst (v := 2) gX gB dX5_gap_34 (by decide) ?_
          refine lv_goto (tgt := 39) gX gB dX5_gap_35 (by decide) ?_
          exact gx_iret C hr hW (⟨by simp [gx_b, gp_of, Int64.not_le.mp c4, Int64.not_lt.mpr c12, Int64.not_le.mp c22, Int64.not_le.mp c30], rfl⟩) (Nat.le_of_ble_eq_true rfl) (Nat.le_of_ble_eq_true rfl) dX5_gap_39
    · refine lv_iconst (v := 1) gX gB dX5_gap_16 (by decide) ?_
      exact gx_iret C hr hW (⟨by simp [gx_b, gp_of, Int64.not_le.mp c4, Int64.not_le.mp c12], rfl⟩) (Nat.le_of_ble_eq_true rfl) (Nat.le_of_ble_eq_true rfl) dX5_gap_17
end
section
/-! STANDTESTS: state and its reads. -/
abbrev ld_T : Type := Int64 × Int64 × Int64 × Int64 × Int32 × Int64
abbrev ft_T : Type := Int64 × Int64
abbrev sd_T : Type := Int32 × ft_T × ft_T
/-- a load's cell: x, y, z, grams, its drawer, how far out -/
def ld_is (L : List Nat) (f : Nat → va_E) (a : Nat) (d : ld_T) : Prop := a ∈ L ∧ f a = .inr (6, [.long d.1, .long d.2.1, .long d.2.2.1, .long d.2.2.2.1, .int d.2.2.2.2.1, .long d.2.2.2.2.2])
def ft_is (L : List Nat) (f : Nat → va_E) (a : Nat) (n : Int32) (p : ft_T) : Prop := a ∈ L ∧ f a = .inr (5, [.int n, .long p.1, .long p.2])
def sd_is (L : List Nat) (f : Nat → va_E) (a : Nat) (d : sd_T) : Prop := ∃ (u v : Nat) (n2 : Int32), a ∈ L ∧ f a = .inr (7, [.ref u, .ref v]) ∧ ft_is L f u d.1 d.2.1 ∧ ft_is L f v n2 d.2.2
abbrev ld_m (p q : ft_T) (d : ld_T) (k : Int32) : Int64 := ld_moment p.1 p.2 q.1 q.2 d.1 d.2.1 d.2.2.2.1 d.2.2.2.2.2 d.2.2.2.2.1 k
/-- a sum, term by term -/
def mo_sum (m0 : Int64) (mm : Nat → Int64) : Nat → Int64
  | 0 => m0
  | n + 1 => mo_sum m0 mm n + mm n
/-- the moment of all about the line from p to q, so many drawers open, with who -/
def mo_of (p q : ft_T) (k : Int32) (dw : ld_T) (ps : Nat → ld_T) (n : Nat) : Int64 := mo_sum (ld_m p q dw 0) (fun i => ld_m p q (ps i) k) n
/-- 0, or 1 and the first place below n whose moment is below 0 -/
def vd_at (mom : Nat → Int64) : Nat → Nat
  | 0 => 0
  | n + 1 => if vd_at mom n = 0 then (if mom n < 0 then n + 1 else 0) else vd_at mom n
theorem vd_stay {mom : Nat → Int64} {k : Nat} (h : vd_at mom k = 0) (h0 : mom k < 0) : ∀ n, k < n → vd_at mom n = k + 1 := by
  intro n
  induction n with
  | zero => intro hn; omega
  | succ n ih =>
    intro hn
    show (if vd_at mom n = 0 then (if mom n < 0 then n + 1 else 0) else vd_at mom n) = k + 1
    rcases Nat.lt_or_ge k n with h1 | h1
    · rw [ih h1, if_neg (by omega)]
    · have e : n = k := by omega
      rw [e, if_pos h, if_pos h0]
theorem vd_succ {mom : Nat → Int64} {k : Nat} (h : vd_at mom k = 0) (h0 : ¬ mom k < 0) : vd_at mom (k + 1) = 0 := by
  show (if vd_at mom k = 0 then (if mom k < 0 then k + 1 else 0) else vd_at mom k) = 0
  rw [if_pos h, if_neg h0]
theorem vd_le (mom : Nat → Int64) : ∀ n, vd_at mom n ≤ n := by
  intro n
  induction n with
  | zero => exact Nat.le_refl _
  | succ n ih =>
    show (if vd_at mom n = 0 then (if mom n < 0 then n + 1 else 0) else vd_at mom n) ≤ n + 1
    split
    · split <;> omega
    · omega
set_option maxHeartbeats 4000000 in
set_option maxRecDepth 100000 in
theorem kX5_openDrawers (l : Launch) (G : gx_T) (L : List Nat) (f : Nat → va_E) (x P F S X N T E : Nat) (dc : Int32) (hx : x ∈ L) (fx : f x = .inr (10, [.ref P, .ref F, .ref S, .ref X, .ref N, .ref T, .ref E, .int dc])) (t w : Nat) (k : Int32) (ht : t ∈ L) (ft : f t = .inr (8, [.ref w, .int k])) : gx_M l G yX5_openDrawers cX5_openDrawers 2 (some .int) ({ frames := 0, cells := 0, slots := 0, locals := 0 } : Room) [.ref x, .ref t] (va_pl L f) (fun v u => v = some (.int (if k < dc then k else dc)) ∧ u = va_pl L f) := by
  refine gx_start (by decide +kernel) (Nat.le_of_ble_eq_true rfl) ?_
  intro p e s m args below meth c A ls C hr hnm hW hl
  have gX := C.x
  have gB := C.b
  have hl : lv_has ls 2 [(0, .ref x), (1, .ref t)] := hl
  refine lv_aload_n gX gB dX5_openDrawers_0 rfl (lv_at hl 1 rfl) ?_
  refine gx_getN C hW fX5_256n (gx_pl ht ft) rfl dX5_openDrawers_1 ?_
  refine lv_aload_n gX gB dX5_openDrawers_4 rfl (lv_at hl 0 rfl) ?_
  refine gx_get C hW fX5_44 (gx_pl hx fx) rfl dX5_openDrawers_5 ?_
  refine lv_icmp_ge (tgt := 18) gX gB dX5_openDrawers_8 (by decide) (fun c8 => ?_) (fun c8 => ?_)
  · refine lv_aload_n gX gB dX5_openDrawers_18 rfl (lv_at hl 0 rfl) ?_
    refine gx_get C hW fX5_44 (gx_pl hx fx) rfl dX5_openDrawers_19 ?_
    exact gx_iret C hr hW (⟨by simp [gx_b, Int32.not_lt.mpr c8], rfl⟩) (Nat.le_of_ble_eq_true rfl) (Nat.le_of_ble_eq_true rfl) dX5_openDrawers_22
  · refine lv_aload_n gX gB dX5_openDrawers_11 rfl (lv_at hl 1 rfl) ?_
    refine gx_getN C hW fX5_256n (gx_pl ht ft) rfl dX5_openDrawers_12 ?_
    refine lv_goto (tgt := 22) gX gB dX5_openDrawers_15 (by decide) ?_
    exact gx_iret C hr hW (⟨by simp [gx_b, Int32.not_le.mp c8], rfl⟩) (Nat.le_of_ble_eq_true rfl) (Nat.le_of_ble_eq_true rfl) dX5_openDrawers_22
set_option maxHeartbeats 4000000 in
set_option maxRecDepth 100000 in
theorem kX5_needPolygon (l : Launch) (hfl : l.flags = flags0) (G : gx_T) (L : List Nat) (f : Nat → va_E) (x P F S X N T E : Nat) (dc : Int32) (hx : x ∈ L) (fx : f x = .inr (10, [.ref P, .ref F, .ref S, .ref X, .ref N, .ref T, .ref E, .int dc])) (bS : Option Nat) (sa : List Nat) (hlS : ls_at G L f S bS sa) : gx_MX l G yX5_needPolygon cX5_needPolygon 1 none ({ frames := 6, cells := 1, slots := 6, locals := 90 } : Room) [.ref x] (va_pl L f) (fun v u => v = none ∧ u = va_pl L f ∧ ¬ sa.length = 0) (fun Ex u => Ex = gx_E1 ∧ u = va_pl L f ∧ sa.length = 0) := by
  refine gx_startX (by decide +kernel) (Nat.le_of_ble_eq_true rfl) ?_
  intro p e s m args below meth c A ls C hr hno hW hl
  have gX := C.x
  have gB := C.b
  have hl : lv_has ls 1 [(0, .ref x)] := hl
  refine lv_aload_n gX gB dX5_needPolygon_0 rfl (lv_at hl 0 rfl) ?_
  refine gx_get C hW fX5_19 (gx_pl hx fx) rfl dX5_needPolygon_1 ?_
  refine gx_callV (wr := []) (rest := []) C hW sX5_251 (kL_empty l G L f S bS sa hlS) (gx_pl hlS.1 (ls_at.head hlS).choose_spec.choose_spec) rfl rfl ⟨(Nat.le_of_ble_eq_true rfl), (Nat.le_of_ble_eq_true rfl)⟩ hl.1 rfl (Nat.le_of_ble_eq_true rfl) dX5_needPolygon_4 ⟨(Nat.le_of_ble_eq_true rfl), (Nat.le_of_ble_eq_true rfl)⟩ (fun v9 u9 H locs hp hW => ?_)
  obtain ⟨rfl, hu⟩ := hp
  rw [hu] at hW
  have hW : gx_W G A s (va_pl L f) H locs := hW
  refine W.eq (g2 := F0 m 7 ls [.int (if sa.length = 0 then 1 else 0)]) rfl ?_
  refine W.widen (k := 0) (n := 0) (Nat.le_of_ble_eq_true rfl) (Nat.le_of_ble_eq_true rfl) ?_
  refine lv_if_eq (tgt := 20) gX gB dX5_needPolygon_7 (by decide) (fun c7 => ?_) (fun c7 => ?_)
  · refine vx_ret ?_
    exact gx_vret C hr hW (⟨rfl, rfl, fun z => absurd c7 (by rw [if_pos z]; decide)⟩) (Nat.le_of_ble_eq_true rfl) (Nat.le_of_ble_eq_true rfl) dX5_needPolygon_20
  · exact gx_throw (text := "no polygon") hfl C hno hW gx_thr1 (by decide +kernel) (tq_3 191 (by decide +kernel) rfl) (tq_1 14 (by decide +kernel) rfl) (tr_4 140 (by decide +kernel)) hl.1 dX5_needPolygon_10 dX5_needPolygon_13 dX5_needPolygon_14 dX5_needPolygon_16 dX5_needPolygon_19 (Nat.le_of_ble_eq_true rfl) (Nat.le_of_ble_eq_true rfl) (Nat.le_of_ble_eq_true rfl) (Nat.le_of_ble_eq_true rfl) (⟨rfl, rfl, Classical.byContradiction fun z => c7 (by rw [if_neg z])⟩) (Nat.le_of_ble_eq_true rfl) (Nat.le_of_ble_eq_true rfl)
set_option maxHeartbeats 4000000 in
set_option maxRecDepth 100000 in
theorem kX5_momentOver (l : Launch) (G : gx_T) (L : List Nat) (f : Nat → va_E) (x P F S X N T E : Nat) (dc : Int32) (hx : x ∈ L) (fx : f x = .inr (10, [.ref P, .ref F, .ref S, .ref X, .ref N, .ref T, .ref E, .int dc])) (bP : Option Nat) (pa : List Nat) (ps : Nat → ld_T) (hlp : ls_at G L f P bP pa) (hld : ∀ i (h : i < pa.length), ld_is L f pa[i] (ps i)) (d : Nat) (dsd : sd_T) (hsd1 : sd_is L f d dsd) (w : Nat) (dw : ld_T) (hw : ld_is L f w dw) (k : Int32) : gx_M l G yX5_momentOver cX5_momentOver 7 (some .long) ({ frames := 3, cells := 0, slots := 0, locals := 64 } : Room) [.ref x, .ref d, .int k, .ref w] (va_pl L f) (fun v u => v = some (.long (mo_of dsd.2.1 dsd.2.2 k dw ps pa.length)) ∧ u = va_pl L f) := by
  obtain ⟨a, b, nb, hd, fd, ⟨ha, fa⟩, hb, fb⟩ := hsd1
  refine gx_start (by decide +kernel) (Nat.le_of_ble_eq_true rfl) ?_
  intro p e s m args below meth c A ls C hr hnm hW hl
  have gX := C.x
  have gB := C.b
  have hl : lv_has ls 7 [(0, .ref x), (1, .ref d), (2, .int k), (3, .ref w)] := hl
  refine lv_aload_n gX gB dX5_momentOver_0 rfl (lv_at hl 3 rfl) ?_
  refine lv_aload_n gX gB dX5_momentOver_1 rfl (lv_at hl 1 rfl) ?_
  refine lv_iconst (v := 0) gX gB dX5_momentOver_2 (by decide) ?_
  refine gx_callVN (wr := []) (rest := []) C hW sX5_259n (kX1_momentAbout l G L f w d a b dsd.1 nb dw.2.2.2.2.1 0 dsd.2.1.1 dsd.2.1.2 dsd.2.2.1 dsd.2.2.2 dw.1 dw.2.1 dw.2.2.1 dw.2.2.2.1 dw.2.2.2.2.2 hw.1 hw.2 hd fd ha fa hb fb) (gx_pl hw.1 hw.2) rfl rfl ⟨(Nat.le_of_ble_eq_true rfl), (Nat.le_of_ble_eq_true rfl)⟩ hl.1 rfl (Nat.le_of_ble_eq_true rfl) dX5_momentOver_3 ⟨(Nat.le_of_ble_eq_true rfl), (Nat.le_of_ble_eq_true rfl)⟩ (fun v9 u9 H locs hp hW => ?_)
  obtain ⟨rfl, hu⟩ := hp
  rw [hu] at hW
  have hW : gx_W G A s (va_pl L f) H locs := hW
  refine W.eq (g2 := F0 m 6 ls [.long (ld_m dsd.2.1 dsd.2.2 dw 0)]) rfl ?_
  refine W.widen (k := 0) (n := 0) (Nat.le_of_ble_eq_true rfl) (Nat.le_of_ble_eq_true rfl) ?_
  refine lv_lstore (lv' := [(4, .long (ld_m dsd.2.1 dsd.2.2 dw 0)), (0, .ref x), (1, .ref d), (2, .int k), (3, .ref w)]) gX gB dX5_momentOver_6 hl (by decide) rfl (fun ls hl => ?_)
  refine lv_iconst (v := 0) gX gB dX5_momentOver_8 (by decide) ?_
  refine lv_istore (lv' := [(6, .int 0), (4, .long (ld_m dsd.2.1 dsd.2.2 dw 0)), (0, .ref x), (1, .ref d), (2, .int k), (3, .ref w)]) gX gB dX5_momentOver_9 hl (by decide) rfl (fun ls hl => ?_)
  have hl : lv_has ls 7 [(6, .int (nI 0)), (4, .long (mo_sum (ld_m dsd.2.1 dsd.2.2 dw 0) (fun i => ld_m dsd.2.1 dsd.2.2 (ps i) k) 0)), (0, .ref x), (1, .ref d), (2, .int k), (3, .ref w)] := hl
  have loop : ∀ (r : Nat) (i : Nat), (pa.length - i < r) → (i ≤ pa.length) → ∀ (H : Heap) (locs : List Loc), gx_W G A s (va_pl L f) H locs → ∀ ls : Array Slot, lv_has ls 7 [(6, .int (nI i)), (4, .long (mo_sum (ld_m dsd.2.1 dsd.2.2 dw 0) (fun i => ld_m dsd.2.1 dsd.2.2 (ps i) k) i)), (0, .ref x), (1, .ref d), (2, .int k), (3, .ref w)] → W p l e ({ frames := 3, cells := 0, slots := 0, locals := 64 } : Room) s m args below meth c H locs 0 0 (MQ below (gx_Q G A (fun v u => v = some (.long (mo_of dsd.2.1 dsd.2.2 k dw ps pa.length)) ∧ u = va_pl L f)) args s (({ frames := 3, cells := 0, slots := 0, locals := 64 } : Room)).cells (({ frames := 3, cells := 0, slots := 0, locals := 64 } : Room)).slots A) (F0 m 11 ls []) := by
    intro r
    induction r with
    | zero => intro i hfu hi H locs hW ls hl; exact absurd hfu (Nat.not_lt_zero _)
    | succ r ih =>
      intro i hfu hi H locs hW ls hl
      rcases Nat.lt_or_ge i pa.length with hik | hik
      · refine lv_iload gX gB dX5_momentOver_11 (lv_at hl 0 rfl) ?_
        refine lv_aload_n gX gB dX5_momentOver_13 rfl (lv_at hl 2 rfl) ?_
        refine gx_get C hW fX5_10 (gx_pl hx fx) rfl dX5_momentOver_14 ?_
        refine gx_callV (wr := []) (rest := [.int (nI i)]) C hW sX5_48 (kL_size l G L f P bP pa hlp) (gx_pl hlp.1 (ls_at.head hlp).choose_spec.choose_spec) rfl rfl ⟨(Nat.le_of_ble_eq_true rfl), (Nat.le_of_ble_eq_true rfl)⟩ hl.1 rfl (Nat.le_of_ble_eq_true rfl) dX5_momentOver_17 ⟨(Nat.le_of_ble_eq_true rfl), (Nat.le_of_ble_eq_true rfl)⟩ (fun v9 u9 H locs hp hW => ?_)
        obtain ⟨rfl, hu⟩ := hp
        rw [hu] at hW
        have hW : gx_W G A s (va_pl L f) H locs := hW
        refine W.eq (g2 := F0 m 20 ls [.int (nI pa.length), .int (nI i)]) rfl ?_
        refine W.widen (k := 0) (n := 0) (Nat.le_of_ble_eq_true rfl) (Nat.le_of_ble_eq_true rfl) ?_
        refine lv_icmp_ge (tgt := 51) gX gB dX5_momentOver_20 (by decide) (fun h9 => absurd (show (nI pa.length) ≤ (nI i) from h9) (nI_ge hik (by have := hlp.lt; omega))) (fun _ => ?_)
        refine lv_lload gX gB dX5_momentOver_23 (lv_at hl 1 rfl) ?_
        refine lv_aload_n gX gB dX5_momentOver_25 rfl (lv_at hl 2 rfl) ?_
        refine gx_get C hW fX5_10 (gx_pl hx fx) rfl dX5_momentOver_26 ?_
        refine lv_iload gX gB dX5_momentOver_29 (lv_at hl 0 rfl) ?_
        refine gx_callV (wr := []) (rest := [.long (mo_sum (ld_m dsd.2.1 dsd.2.2 dw 0) (fun i => ld_m dsd.2.1 dsd.2.2 (ps i) k) i)]) C hW sX5_95 (kL_get l G L f P bP pa hlp i hik) (gx_pl hlp.1 (ls_at.head hlp).choose_spec.choose_spec) rfl rfl ⟨(Nat.le_of_ble_eq_true rfl), (Nat.le_of_ble_eq_true rfl)⟩ hl.1 rfl (Nat.le_of_ble_eq_true rfl) dX5_momentOver_31 ⟨(Nat.le_of_ble_eq_true rfl), (Nat.le_of_ble_eq_true rfl)⟩ (fun v9 u9 H locs hp hW => ?_)
        obtain ⟨rfl, hu⟩ := hp
        rw [hu] at hW
        have hW : gx_W G A s (va_pl L f) H locs := hW
        refine W.eq (g2 := F0 m 34 ls [.ref (pa[i]), .long (mo_sum (ld_m dsd.2.1 dsd.2.2 dw 0) (fun i => ld_m dsd.2.1 dsd.2.2 (ps i) k) i)]) rfl ?_
        refine W.widen (k := 0) (n := 0) (Nat.le_of_ble_eq_true rfl) (Nat.le_of_ble_eq_true rfl) ?_
        refine gx_cast C hW (gx_pl ((hld i hik).1) ((hld i hik).2)) rfl (tq_1 99 (by decide +kernel) rfl) dX5_momentOver_34 ?_
        refine lv_aload_n gX gB dX5_momentOver_37 rfl (lv_at hl 3 rfl) ?_
        refine lv_iload_n gX gB dX5_momentOver_38 rfl (lv_at hl 4 rfl) ?_
        refine gx_callVN (wr := []) (rest := [.long (mo_sum (ld_m dsd.2.1 dsd.2.2 dw 0) (fun i => ld_m dsd.2.1 dsd.2.2 (ps i) k) i)]) C hW sX5_259n (kX1_momentAbout l G L f pa[i] d a b dsd.1 nb (ps i).2.2.2.2.1 k dsd.2.1.1 dsd.2.1.2 dsd.2.2.1 dsd.2.2.2 (ps i).1 (ps i).2.1 (ps i).2.2.1 (ps i).2.2.2.1 (ps i).2.2.2.2.2 ((hld i hik).1) ((hld i hik).2) hd fd ha fa hb fb) (gx_pl ((hld i hik).1) ((hld i hik).2)) rfl rfl ⟨(Nat.le_of_ble_eq_true rfl), (Nat.le_of_ble_eq_true rfl)⟩ hl.1 rfl (Nat.le_of_ble_eq_true rfl) dX5_momentOver_39 ⟨(Nat.le_of_ble_eq_true rfl), (Nat.le_of_ble_eq_true rfl)⟩ (fun v9 u9 H locs hp hW => ?_)
        obtain ⟨rfl, hu⟩ := hp
        rw [hu] at hW
        have hW : gx_W G A s (va_pl L f) H locs := hW
        refine W.eq (g2 := F0 m 42 ls [.long (ld_m dsd.2.1 dsd.2.2 (ps i) k), .long (mo_sum (ld_m dsd.2.1 dsd.2.2 dw 0) (fun i => ld_m dsd.2.1 dsd.2.2 (ps i) k) i)]) rfl ?_
        refine W.widen (k := 0) (n := 0) (Nat.le_of_ble_eq_true rfl) (Nat.le_of_ble_eq_true rfl) ?_
        refine lv_ladd gX gB dX5_momentOver_42 ?_
        refine gx_topl (show ((mo_sum (ld_m dsd.2.1 dsd.2.2 dw 0) (fun i => ld_m dsd.2.1 dsd.2.2 (ps i) k) i) + (ld_m dsd.2.1 dsd.2.2 (ps i) k)) = mo_sum (ld_m dsd.2.1 dsd.2.2 dw 0) (fun i => ld_m dsd.2.1 dsd.2.2 (ps i) k) (i + 1) from rfl) ?_
        refine lv_lstore (lv' := [(4, .long (mo_sum (ld_m dsd.2.1 dsd.2.2 dw 0) (fun i => ld_m dsd.2.1 dsd.2.2 (ps i) k) (i + 1))), (6, .int (nI i)), (0, .ref x), (1, .ref d), (2, .int k), (3, .ref w)]) gX gB dX5_momentOver_43 hl (by decide) rfl (fun ls hl => ?_)
        refine lv_iinc (v := nI (i + 1)) (lv' := [(6, .int (nI (i + 1))), (4, .long (mo_sum (ld_m dsd.2.1 dsd.2.2 dw 0) (fun i => ld_m dsd.2.1 dsd.2.2 (ps i) k) (i + 1))), (0, .ref x), (1, .ref d), (2, .int k), (3, .ref w)]) gX gB dX5_momentOver_45 hl (k := 1) rfl (by exact nI_1 i) (by decide) rfl (fun ls hl => ?_)
        refine lv_goto (tgt := 11) gX gB dX5_momentOver_48 (by decide) ?_
        exact ih (i + 1) (by omega) (by omega) _ _ hW ls (lv_sub hl [0, 1, 2, 3, 4, 5] rfl)
      · refine lv_iload gX gB dX5_momentOver_11 (lv_at hl 0 rfl) ?_
        refine lv_aload_n gX gB dX5_momentOver_13 rfl (lv_at hl 2 rfl) ?_
        refine gx_get C hW fX5_10 (gx_pl hx fx) rfl dX5_momentOver_14 ?_
        refine gx_callV (wr := []) (rest := [.int (nI i)]) C hW sX5_48 (kL_size l G L f P bP pa hlp) (gx_pl hlp.1 (ls_at.head hlp).choose_spec.choose_spec) rfl rfl ⟨(Nat.le_of_ble_eq_true rfl), (Nat.le_of_ble_eq_true rfl)⟩ hl.1 rfl (Nat.le_of_ble_eq_true rfl) dX5_momentOver_17 ⟨(Nat.le_of_ble_eq_true rfl), (Nat.le_of_ble_eq_true rfl)⟩ (fun v9 u9 H locs hp hW => ?_)
        obtain ⟨rfl, hu⟩ := hp
        rw [hu] at hW
        have hW : gx_W G A s (va_pl L f) H locs := hW
        refine W.eq (g2 := F0 m 20 ls [.int (nI pa.length), .int (nI i)]) rfl ?_
        refine W.widen (k := 0) (n := 0) (Nat.le_of_ble_eq_true rfl) (Nat.le_of_ble_eq_true rfl) ?_
        refine lv_icmp_ge (tgt := 51) gX gB dX5_momentOver_20 (by decide) (fun _ => ?_) (fun h9 => absurd (show (nI pa.length) ≤ (nI i) from nI_le hik (by have := hlp.lt; omega)) h9)
        refine lv_lload gX gB dX5_momentOver_51 (lv_at hl 1 rfl) ?_
        exact gx_lret C hr hW (⟨by rw [show i = pa.length by omega]; rfl, rfl⟩) (Nat.le_of_ble_eq_true rfl) (Nat.le_of_ble_eq_true rfl) dX5_momentOver_53
  exact loop (pa.length + 1) 0 (by omega) (Nat.zero_le _) _ _ hW ls (lv_sub hl [0, 1, 2, 3, 4, 5] rfl)
set_option maxHeartbeats 4000000 in
set_option maxRecDepth 100000 in
theorem kX5_verdict (l : Launch) (G : gx_T) (L : List Nat) (f : Nat → va_E) (x P F S X N T E : Nat) (dc : Int32) (hx : x ∈ L) (fx : f x = .inr (10, [.ref P, .ref F, .ref S, .ref X, .ref N, .ref T, .ref E, .int dc])) (bP : Option Nat) (pa : List Nat) (ps : Nat → ld_T) (hlp : ls_at G L f P bP pa) (hld : ∀ i (h : i < pa.length), ld_is L f pa[i] (ps i)) (bS : Option Nat) (sa : List Nat) (sd : Nat → sd_T) (hlS : ls_at G L f S bS sa) (hsd : ∀ j (h : j < sa.length), sd_is L f sa[j] (sd j)) (w : Nat) (dw : ld_T) (hw : ld_is L f w dw) (k : Int32) : gx_M l G yX5_verdict cX5_verdict 4 (some .int) ({ frames := 4, cells := 0, slots := 0, locals := 90 } : Room) [.ref x, .int k, .ref w] (va_pl L f) (fun v u => v = some (.int (nI (vd_at (fun j => mo_of (sd j).2.1 (sd j).2.2 k dw ps pa.length) sa.length))) ∧ u = va_pl L f) := by
  refine gx_start (by decide +kernel) (Nat.le_of_ble_eq_true rfl) ?_
  intro p e s m args below meth c A ls C hr hnm hW hl
  have gX := C.x
  have gB := C.b
  have hl : lv_has ls 4 [(0, .ref x), (1, .int k), (2, .ref w)] := hl
  refine lv_iconst (v := 0) gX gB dX5_verdict_0 (by decide) ?_
  refine lv_istore_n (lv' := [(3, .int 0), (0, .ref x), (1, .int k), (2, .ref w)]) gX gB dX5_verdict_1 rfl hl (by decide) rfl (fun ls hl => ?_)
  have hl : lv_has ls 4 [(3, .int (nI 0)), (0, .ref x), (1, .int k), (2, .ref w)] := hl
  have loop : ∀ (r : Nat) (j : Nat), (sa.length - j < r) → (j ≤ sa.length) → (vd_at (fun j => mo_of (sd j).2.1 (sd j).2.2 k dw ps pa.length) j = 0) → ∀ (H : Heap) (locs : List Loc), gx_W G A s (va_pl L f) H locs → ∀ ls : Array Slot, lv_has ls 4 [(3, .int (nI j)), (0, .ref x), (1, .int k), (2, .ref w)] → W p l e ({ frames := 4, cells := 0, slots := 0, locals := 90 } : Room) s m args below meth c H locs 0 0 (MQ below (gx_Q G A (fun v u => v = some (.int (nI (vd_at (fun j => mo_of (sd j).2.1 (sd j).2.2 k dw ps pa.length) sa.length))) ∧ u = va_pl L f)) args s (({ frames := 4, cells := 0, slots := 0, locals := 90 } : Room)).cells (({ frames := 4, cells := 0, slots := 0, locals := 90 } : Room)).slots A) (F0 m 2 ls []) := by
    intro r
    induction r with
    | zero => intro j hfu hj hv0 H locs hW ls hl; exact absurd hfu (Nat.not_lt_zero _)
    | succ r ih =>
      intro j hfu hj hv0 H locs hW ls hl
      rcases Nat.lt_or_ge j sa.length with hjk | hjk
      · refine lv_iload_n gX gB dX5_verdict_2 rfl (lv_at hl 0 rfl) ?_
        refine lv_aload_n gX gB dX5_verdict_3 rfl (lv_at hl 1 rfl) ?_
        refine gx_get C hW fX5_19 (gx_pl hx fx) rfl dX5_verdict_4 ?_
        refine gx_callV (wr := []) (rest := [.int (nI j)]) C hW sX5_48 (kL_size l G L f S bS sa hlS) (gx_pl hlS.1 (ls_at.head hlS).choose_spec.choose_spec) rfl rfl ⟨(Nat.le_of_ble_eq_true rfl), (Nat.le_of_ble_eq_true rfl)⟩ hl.1 rfl (Nat.le_of_ble_eq_true rfl) dX5_verdict_7 ⟨(Nat.le_of_ble_eq_true rfl), (Nat.le_of_ble_eq_true rfl)⟩ (fun v9 u9 H locs hp hW => ?_)
        obtain ⟨rfl, hu⟩ := hp
        rw [hu] at hW
        have hW : gx_W G A s (va_pl L f) H locs := hW
        refine W.eq (g2 := F0 m 10 ls [.int (nI sa.length), .int (nI j)]) rfl ?_
        refine W.widen (k := 0) (n := 0) (Nat.le_of_ble_eq_true rfl) (Nat.le_of_ble_eq_true rfl) ?_
        refine lv_icmp_ge (tgt := 45) gX gB dX5_verdict_10 (by decide) (fun h9 => absurd (show (nI sa.length) ≤ (nI j) from h9) (nI_ge hjk (by have := hlS.lt; omega))) (fun _ => ?_)
        refine lv_aload_n gX gB dX5_verdict_13 rfl (lv_at hl 1 rfl) ?_
        refine lv_aload_n gX gB dX5_verdict_14 rfl (lv_at hl 1 rfl) ?_
        refine gx_get C hW fX5_19 (gx_pl hx fx) rfl dX5_verdict_15 ?_
        refine lv_iload_n gX gB dX5_verdict_18 rfl (lv_at hl 0 rfl) ?_
        refine gx_callV (wr := []) (rest := [.ref x]) C hW sX5_95 (kL_get l G L f S bS sa hlS j hjk) (gx_pl hlS.1 (ls_at.head hlS).choose_spec.choose_spec) rfl rfl ⟨(Nat.le_of_ble_eq_true rfl), (Nat.le_of_ble_eq_true rfl)⟩ hl.1 rfl (Nat.le_of_ble_eq_true rfl) dX5_verdict_19 ⟨(Nat.le_of_ble_eq_true rfl), (Nat.le_of_ble_eq_true rfl)⟩ (fun v9 u9 H locs hp hW => ?_)
        obtain ⟨rfl, hu⟩ := hp
        rw [hu] at hW
        have hW : gx_W G A s (va_pl L f) H locs := hW
        refine W.eq (g2 := F0 m 22 ls [.ref (sa[j]), .ref x]) rfl ?_
        refine W.widen (k := 0) (n := 0) (Nat.le_of_ble_eq_true rfl) (Nat.le_of_ble_eq_true rfl) ?_
        refine gx_cast C hW (gx_pl ((hsd j hjk).choose_spec.choose_spec.choose_spec.1) ((hsd j hjk).choose_spec.choose_spec.choose_spec.2.1)) rfl (tq_4 62 (by decide +kernel) rfl) dX5_verdict_22 ?_
        refine lv_iload_n gX gB dX5_verdict_25 rfl (lv_at hl 2 rfl) ?_
        refine lv_aload_n gX gB dX5_verdict_26 rfl (lv_at hl 3 rfl) ?_
        refine gx_callV (wr := []) (rest := []) C hW sX5_157 (kX5_momentOver l G L f x P F S X N T E dc hx fx bP pa ps hlp hld sa[j] (sd j) (hsd j hjk) w dw hw k) (gx_pl hx fx) rfl rfl ⟨(Nat.le_of_ble_eq_true rfl), (Nat.le_of_ble_eq_true rfl)⟩ hl.1 rfl (Nat.le_of_ble_eq_true rfl) dX5_verdict_27 ⟨(Nat.le_of_ble_eq_true rfl), (Nat.le_of_ble_eq_true rfl)⟩ (fun v9 u9 H locs hp hW => ?_)
        obtain ⟨rfl, hu⟩ := hp
        rw [hu] at hW
        have hW : gx_W G A s (va_pl L f) H locs := hW
        refine W.eq (g2 := F0 m 30 ls [.long (mo_of (sd j).2.1 (sd j).2.2 k dw ps pa.length)]) rfl ?_
        refine W.widen (k := 0) (n := 0) (Nat.le_of_ble_eq_true rfl) (Nat.le_of_ble_eq_true rfl) ?_
        refine lv_lconst (v := 0) gX gB dX5_verdict_30 (by decide) ?_
        refine gx_lc_ge (tgt := 39) C dX5_verdict_31 dX5_verdict_32 (by decide) (fun c31 => ?_) (fun c31 => ?_)
        · refine lv_iinc (v := nI (j + 1)) (lv' := [(3, .int (nI (j + 1))), (0, .ref x), (1, .int k), (2, .ref w)]) gX gB dX5_verdict_39 hl (k := 0) rfl (by exact nI_1 j) (by decide) rfl (fun ls hl => ?_)
          refine lv_goto (tgt := 2) gX gB dX5_verdict_42 (by decide) ?_
          exact ih (j + 1) (by omega) (by omega) (vd_succ hv0 (Int64.not_lt.mpr c31)) _ _ hW ls (lv_sub hl [0, 1, 2, 3] rfl)
        · refine lv_iconst (v := 1) gX gB dX5_verdict_35 (by decide) ?_
          refine lv_iload_n gX gB dX5_verdict_36 rfl (lv_at hl 0 rfl) ?_
          refine lv_iadd gX gB dX5_verdict_37 ?_
          refine gx_topi (show (1 + (nI j)) = nI (j + 1) from (nI_add 1 j).trans (congrArg nI (Nat.add_comm 1 j))) ?_
          exact gx_iret C hr hW (⟨by rw [vd_stay hv0 (Int64.not_le.mp c31) sa.length hjk], rfl⟩) (Nat.le_of_ble_eq_true rfl) (Nat.le_of_ble_eq_true rfl) dX5_verdict_38
      · refine lv_iload_n gX gB dX5_verdict_2 rfl (lv_at hl 0 rfl) ?_
        refine lv_aload_n gX gB dX5_verdict_3 rfl (lv_at hl 1 rfl) ?_
        refine gx_get C hW fX5_19 (gx_pl hx fx) rfl dX5_verdict_4 ?_
        refine gx_callV (wr := []) (rest := [.int (nI j)]) C hW sX5_48 (kL_size l G L f S bS sa hlS) (gx_pl hlS.1 (ls_at.head hlS).choose_spec.choose_spec) rfl rfl ⟨(Nat.le_of_ble_eq_true rfl), (Nat.le_of_ble_eq_true rfl)⟩ hl.1 rfl (Nat.le_of_ble_eq_true rfl) dX5_verdict_7 ⟨(Nat.le_of_ble_eq_true rfl), (Nat.le_of_ble_eq_true rfl)⟩ (fun v9 u9 H locs hp hW => ?_)
        obtain ⟨rfl, hu⟩ := hp
        rw [hu] at hW
        have hW : gx_W G A s (va_pl L f) H locs := hW
        refine W.eq (g2 := F0 m 10 ls [.int (nI sa.length), .int (nI j)]) rfl ?_
        refine W.widen (k := 0) (n := 0) (Nat.le_of_ble_eq_true rfl) (Nat.le_of_ble_eq_true rfl) ?_
        refine lv_icmp_ge (tgt := 45) gX gB dX5_verdict_10 (by decide) (fun _ => ?_) (fun h9 => absurd (show (nI sa.length) ≤ (nI j) from nI_le hjk (by have := hlS.lt; omega)) h9)
        refine lv_iconst (v := 0) gX gB dX5_verdict_45 (by decide) ?_
        exact gx_iret C hr hW (⟨by rw [show sa.length = j by omega, hv0]; rfl, rfl⟩) (Nat.le_of_ble_eq_true rfl) (Nat.le_of_ble_eq_true rfl) dX5_verdict_46
  exact loop (sa.length + 1) 0 (by omega) (Nat.zero_le _) rfl _ _ hW ls (lv_sub hl [0, 1, 2, 3] rfl)
end
section
/-! STANDTESTS: side, tips, moment, most, centre. -/
/-- which exception tells which number -/
def px1 (A : String) (c : Int32) (E : String) : Prop := E = A ∧ c = 1
def px2 (A B : String) (c : Int32) (E : String) : Prop := (E = A ∧ c = 1) ∨ (E = B ∧ c = 2)
def px3 (A B D : String) (c : Int32) (E : String) : Prop := (E = A ∧ c = 1) ∨ (E = B ∧ c = 2) ∨ (E = D ∧ c = 3)
def sd_code (ns : Nat) (k : Int32) : Int32 := if ns = 0 then 1 else if k < 0 then 2 else 0
def tp_code (ns : Nat) (dc k : Int32) : Int32 := if ns = 0 then 1 else if k < 0 ∨ dc < k then 2 else 0
def mm_code (ns : Nat) (k w : Int32) : Int32 := if ns = 0 then 1 else if k < 0 ∨ ¬ k < nI ns ∨ w < 0 ∨ 1 < w then 2 else 0
def ms_code (ns : Nat) : Int32 := if ns = 0 then 1 else 0
theorem nI_cases (k : Int32) {n : Nat} (hn : n < 2 ^ 31) (h0 : ¬ k < 0) (h1 : k < nI n) : ∃ j : Nat, j < n ∧ k = nI j := by
  rcases pk_ix k hn with h | h | h
  · exact absurd h h0
  · exact absurd h1 (Int32.not_lt.mpr h)
  · exact h
def sd_val (ns : Nat) (num : Nat → Int32) (k : Int32) : Int32 := if k < nI ns then num k.toNatClampNeg else -1
set_option maxHeartbeats 4000000 in
set_option maxRecDepth 100000 in
theorem kX5_side (l : Launch) (hfl : l.flags = flags0) (G : gx_T) (L : List Nat) (f : Nat → va_E) (x P F S X N T E : Nat) (dc : Int32) (hx : x ∈ L) (fx : f x = .inr (10, [.ref P, .ref F, .ref S, .ref X, .ref N, .ref T, .ref E, .int dc])) (bS : Option Nat) (sa : List Nat) (sd : Nat → sd_T) (hlS : ls_at G L f S bS sa) (hsd : ∀ j (h : j < sa.length), sd_is L f sa[j] (sd j)) (k : Int32) : gx_MX l G yX5_side cX5_side 2 (some .int) ({ frames := 7, cells := 2, slots := 12, locals := 110 } : Room) [.ref x, .int k] (va_pl L f) (fun v u => v = some (.int (sd_val sa.length (fun j => (sd j).1) k)) ∧ u = va_pl L f ∧ sd_code sa.length k = 0) (fun Ex u => u = va_pl L f ∧ px2 gx_E1 gx_E3 (sd_code sa.length k) Ex) := by
  refine gx_startX (by decide +kernel) (Nat.le_of_ble_eq_true rfl) ?_
  intro p e s m args below meth c A ls C hr hno hW hl
  have gX := C.x
  have gB := C.b
  have hl : lv_has ls 2 [(0, .ref x), (1, .int k)] := hl
  refine lv_aload_n gX gB dX5_side_0 rfl (lv_at hl 0 rfl) ?_
  refine gx_callVX (wr := []) (rest := []) C hW sX5_135 (kX5_needPolygon l hfl G L f x P F S X N T E dc hx fx bS sa hlS) (gx_pl hx fx) rfl rfl ⟨(Nat.le_of_ble_eq_true rfl), (Nat.le_of_ble_eq_true rfl)⟩ hl.1 rfl (Nat.le_of_ble_eq_true rfl) dX5_side_1 ⟨(Nat.le_of_ble_eq_true rfl), (Nat.le_of_ble_eq_true rfl)⟩ (fun E ce q9 u9 H locs hpx hW hce hcv hcl => gx_out C hno hW hce hcv hcl (⟨hpx.2.1, Or.inl ⟨hpx.1, by simp [sd_code, hpx.2.2]⟩⟩) (Nat.le_of_ble_eq_true rfl) (Nat.le_of_ble_eq_true rfl)) (fun v9 u9 H locs hp hW => ?_)
  obtain ⟨rfl, hu, hns⟩ := hp
  rw [hu] at hW
  have hW : gx_W G A s (va_pl L f) H locs := hW
  refine W.eq (g2 := F0 m 4 ls []) rfl ?_
  refine W.widen (k := 1) (n := 6) (Nat.le_of_ble_eq_true rfl) (Nat.le_of_ble_eq_true rfl) ?_
  refine lv_iload_n gX gB dX5_side_4 rfl (lv_at hl 1 rfl) ?_
  refine lv_if_ge (tgt := 18) gX gB dX5_side_5 (by decide) (fun c5 => ?_) (fun c5 => ?_)
  · refine lv_iload_n gX gB dX5_side_18 rfl (lv_at hl 1 rfl) ?_
    refine lv_aload_n gX gB dX5_side_19 rfl (lv_at hl 0 rfl) ?_
    refine gx_get C hW fX5_19 (gx_pl hx fx) rfl dX5_side_20 ?_
    refine gx_callV (wr := []) (rest := [.int k]) C hW sX5_48 (kL_size l G L f S bS sa hlS) (gx_pl hlS.1 (ls_at.head hlS).choose_spec.choose_spec) rfl rfl ⟨(Nat.le_of_ble_eq_true rfl), (Nat.le_of_ble_eq_true rfl)⟩ hl.1 rfl (Nat.le_of_ble_eq_true rfl) dX5_side_23 ⟨(Nat.le_of_ble_eq_true rfl), (Nat.le_of_ble_eq_true rfl)⟩ (fun v9 u9 H locs hp hW => ?_)
    obtain ⟨rfl, hu⟩ := hp
    rw [hu] at hW
    have hW : gx_W G A s (va_pl L f) H locs := hW
    refine W.eq (g2 := F0 m 26 ls [.int (nI sa.length), .int k]) rfl ?_
    refine W.widen (k := 1) (n := 6) (Nat.le_of_ble_eq_true rfl) (Nat.le_of_ble_eq_true rfl) ?_
    refine lv_icmp_ge (tgt := 49) gX gB dX5_side_26 (by decide) (fun c26 => ?_) (fun c26 => ?_)
    · refine lv_iconst (v := (-1)) gX gB dX5_side_49 (by decide) ?_
      refine vx_ret ?_
      exact gx_iret C hr hW (⟨by rw [sd_val, if_neg (Int32.not_lt.mpr c26)], rfl, by simp [sd_code, hns, Int32.not_lt.mpr c5]⟩) (Nat.le_of_ble_eq_true rfl) (Nat.le_of_ble_eq_true rfl) dX5_side_50
    · refine lv_aload_n gX gB dX5_side_29 rfl (lv_at hl 0 rfl) ?_
      refine gx_get C hW fX5_19 (gx_pl hx fx) rfl dX5_side_30 ?_
      refine lv_iload_n gX gB dX5_side_33 rfl (lv_at hl 1 rfl) ?_
      obtain ⟨j, hj, rfl⟩ := nI_cases k (by have := hlS.lt; omega) (Int32.not_lt.mpr c5) (Int32.not_le.mp c26)
      obtain ⟨fu, fv, n2, hs1, fs1, ⟨hu1, fu1⟩, -⟩ := hsd j hj
      refine gx_callV (wr := []) (rest := []) C hW sX5_95 (kL_get l G L f S bS sa hlS j hj) (gx_pl hlS.1 (ls_at.head hlS).choose_spec.choose_spec) rfl rfl ⟨(Nat.le_of_ble_eq_true rfl), (Nat.le_of_ble_eq_true rfl)⟩ hl.1 rfl (Nat.le_of_ble_eq_true rfl) dX5_side_34 ⟨(Nat.le_of_ble_eq_true rfl), (Nat.le_of_ble_eq_true rfl)⟩ (fun v9 u9 H locs hp hW => ?_)
      obtain ⟨rfl, hu⟩ := hp
      rw [hu] at hW
      have hW : gx_W G A s (va_pl L f) H locs := hW
      refine W.eq (g2 := F0 m 37 ls [.ref (sa[j])]) rfl ?_
      refine W.widen (k := 1) (n := 6) (Nat.le_of_ble_eq_true rfl) (Nat.le_of_ble_eq_true rfl) ?_
      refine gx_cast C hW (gx_pl hs1 fs1) rfl (tq_4 62 (by decide +kernel) rfl) dX5_side_37 ?_
      refine gx_getN C hW fX5_142n (gx_pl hs1 fs1) rfl dX5_side_40 ?_
      refine gx_getN C hW fX5_146n (gx_pl hu1 fu1) rfl dX5_side_43 ?_
      refine lv_goto (tgt := 50) gX gB dX5_side_46 (by decide) ?_
      refine vx_ret ?_
      exact gx_iret C hr hW (⟨by rw [sd_val, if_pos ((nI_ltI (by have := hlS.lt; omega) (by have := hlS.lt; omega)).mpr hj), nI_clamp (by have := hlS.lt; omega)], rfl, by simp [sd_code, hns, Int32.not_lt.mpr c5]⟩) (Nat.le_of_ble_eq_true rfl) (Nat.le_of_ble_eq_true rfl) dX5_side_50
  · exact gx_throw (text := "no such side") hfl C hno hW gx_thr3 (by decide +kernel) (tq_4 84 (by decide +kernel) rfl) (tq_1 24 (by decide +kernel) rfl) (tr_4 141 (by decide +kernel)) hl.1 dX5_side_8 dX5_side_11 dX5_side_12 dX5_side_14 dX5_side_17 (Nat.le_of_ble_eq_true rfl) (Nat.le_of_ble_eq_true rfl) (Nat.le_of_ble_eq_true rfl) (Nat.le_of_ble_eq_true rfl) (⟨rfl, Or.inr ⟨rfl, by simp [sd_code, hns, Int32.not_le.mp c5]⟩⟩) (Nat.le_of_ble_eq_true rfl) (Nat.le_of_ble_eq_true rfl)
set_option maxHeartbeats 4000000 in
set_option maxRecDepth 100000 in
theorem kX5_tips (l : Launch) (hfl : l.flags = flags0) (G : gx_T) (L : List Nat) (f : Nat → va_E) (x P F S X N T E : Nat) (dc : Int32) (hx : x ∈ L) (fx : f x = .inr (10, [.ref P, .ref F, .ref S, .ref X, .ref N, .ref T, .ref E, .int dc])) (bP : Option Nat) (pa : List Nat) (ps : Nat → ld_T) (hlp : ls_at G L f P bP pa) (hld : ∀ i (h : i < pa.length), ld_is L f pa[i] (ps i)) (bS : Option Nat) (sa : List Nat) (sd : Nat → sd_T) (hlS : ls_at G L f S bS sa) (hsd : ∀ j (h : j < sa.length), sd_is L f sa[j] (sd j)) (dw : ld_T) (hE : ld_is L f E dw) (k : Int32) : gx_MX l G yX5_tips cX5_tips 2 (some .int) ({ frames := 7, cells := 2, slots := 12, locals := 113 } : Room) [.ref x, .int k] (va_pl L f) (fun v u => v = some (.int (nI (vd_at (fun j => mo_of (sd j).2.1 (sd j).2.2 k dw ps pa.length) sa.length))) ∧ u = va_pl L f ∧ tp_code sa.length dc k = 0) (fun Ex u => u = va_pl L f ∧ px2 gx_E1 gx_E2 (tp_code sa.length dc k) Ex) := by
  refine gx_startX (by decide +kernel) (Nat.le_of_ble_eq_true rfl) ?_
  intro p e s m args below meth c A ls C hr hno hW hl
  have gX := C.x
  have gB := C.b
  have hl : lv_has ls 2 [(0, .ref x), (1, .int k)] := hl
  refine lv_aload_n gX gB dX5_tips_0 rfl (lv_at hl 0 rfl) ?_
  refine gx_callVX (wr := []) (rest := []) C hW sX5_135 (kX5_needPolygon l hfl G L f x P F S X N T E dc hx fx bS sa hlS) (gx_pl hx fx) rfl rfl ⟨(Nat.le_of_ble_eq_true rfl), (Nat.le_of_ble_eq_true rfl)⟩ hl.1 rfl (Nat.le_of_ble_eq_true rfl) dX5_tips_1 ⟨(Nat.le_of_ble_eq_true rfl), (Nat.le_of_ble_eq_true rfl)⟩ (fun E ce q9 u9 H locs hpx hW hce hcv hcl => gx_out C hno hW hce hcv hcl (⟨hpx.2.1, Or.inl ⟨hpx.1, by simp [tp_code, hpx.2.2]⟩⟩) (Nat.le_of_ble_eq_true rfl) (Nat.le_of_ble_eq_true rfl)) (fun v9 u9 H locs hp hW => ?_)
  obtain ⟨rfl, hu, hns⟩ := hp
  rw [hu] at hW
  have hW : gx_W G A s (va_pl L f) H locs := hW
  refine W.eq (g2 := F0 m 4 ls []) rfl ?_
  refine W.widen (k := 1) (n := 6) (Nat.le_of_ble_eq_true rfl) (Nat.le_of_ble_eq_true rfl) ?_
  refine lv_iload_n gX gB dX5_tips_4 rfl (lv_at hl 1 rfl) ?_
  refine lv_if_lt (tgt := 16) gX gB dX5_tips_5 (by decide) (fun c5 => ?_) (fun c5 => ?_)
  · exact gx_throw (text := "not so many drawers") hfl C hno hW gx_thr2 (by decide +kernel) (tq_3 215 (by decide +kernel) rfl) (tq_1 15 (by decide +kernel) rfl) (tr_4 149 (by decide +kernel)) hl.1 dX5_tips_16 dX5_tips_19 dX5_tips_20 dX5_tips_22 dX5_tips_25 (Nat.le_of_ble_eq_true rfl) (Nat.le_of_ble_eq_true rfl) (Nat.le_of_ble_eq_true rfl) (Nat.le_of_ble_eq_true rfl) (⟨rfl, Or.inr ⟨rfl, by simp [tp_code, hns, c5]⟩⟩) (Nat.le_of_ble_eq_true rfl) (Nat.le_of_ble_eq_true rfl)
  · refine lv_iload_n gX gB dX5_tips_8 rfl (lv_at hl 1 rfl) ?_
    refine lv_aload_n gX gB dX5_tips_9 rfl (lv_at hl 0 rfl) ?_
    refine gx_get C hW fX5_44 (gx_pl hx fx) rfl dX5_tips_10 ?_
    refine lv_icmp_le (tgt := 26) gX gB dX5_tips_13 (by decide) (fun c13 => ?_) (fun c13 => ?_)
    · refine lv_aload_n gX gB dX5_tips_26 rfl (lv_at hl 0 rfl) ?_
      refine lv_iload_n gX gB dX5_tips_27 rfl (lv_at hl 1 rfl) ?_
      refine lv_aload_n gX gB dX5_tips_28 rfl (lv_at hl 0 rfl) ?_
      refine gx_get C hW fX5_41 (gx_pl hx fx) rfl dX5_tips_29 ?_
      refine gx_callV (wr := []) (rest := []) C hW sX5_151 (kX5_verdict l G L f x P F S X N T E dc hx fx bP pa ps hlp hld bS sa sd hlS hsd E dw hE k) (gx_pl hx fx) rfl rfl ⟨(Nat.le_of_ble_eq_true rfl), (Nat.le_of_ble_eq_true rfl)⟩ hl.1 rfl (Nat.le_of_ble_eq_true rfl) dX5_tips_32 ⟨(Nat.le_of_ble_eq_true rfl), (Nat.le_of_ble_eq_true rfl)⟩ (fun v9 u9 H locs hp hW => ?_)
      obtain ⟨rfl, hu⟩ := hp
      rw [hu] at hW
      have hW : gx_W G A s (va_pl L f) H locs := hW
      refine W.eq (g2 := F0 m 35 ls [.int (nI (vd_at (fun j => mo_of (sd j).2.1 (sd j).2.2 k dw ps pa.length) sa.length))]) rfl ?_
      refine W.widen (k := 1) (n := 6) (Nat.le_of_ble_eq_true rfl) (Nat.le_of_ble_eq_true rfl) ?_
      refine vx_ret ?_
      exact gx_iret C hr hW (⟨rfl, rfl, by simp [tp_code, hns, c5, Int32.not_lt.mpr c13]⟩) (Nat.le_of_ble_eq_true rfl) (Nat.le_of_ble_eq_true rfl) dX5_tips_35
    · exact gx_throw (text := "not so many drawers") hfl C hno hW gx_thr2 (by decide +kernel) (tq_3 215 (by decide +kernel) rfl) (tq_1 15 (by decide +kernel) rfl) (tr_4 149 (by decide +kernel)) hl.1 dX5_tips_16 dX5_tips_19 dX5_tips_20 dX5_tips_22 dX5_tips_25 (Nat.le_of_ble_eq_true rfl) (Nat.le_of_ble_eq_true rfl) (Nat.le_of_ble_eq_true rfl) (Nat.le_of_ble_eq_true rfl) (⟨rfl, Or.inr ⟨rfl, by simp [tp_code, hns, c5, Int32.not_le.mp c13]⟩⟩) (Nat.le_of_ble_eq_true rfl) (Nat.le_of_ble_eq_true rfl)
def mm_val (sd : Nat → sd_T) (dw dn : ld_T) (ps : Nat → ld_T) (np : Nat) (k w : Int32) : Int64 := mo_of (sd k.toNatClampNeg).2.1 (sd k.toNatClampNeg).2.2 0 (if w = 1 then dw else dn) ps np
set_option maxHeartbeats 4000000 in
set_option maxRecDepth 100000 in
theorem kX5_moment (l : Launch) (hfl : l.flags = flags0) (G : gx_T) (L : List Nat) (f : Nat → va_E) (x P F S X N T E : Nat) (dc : Int32) (hx : x ∈ L) (fx : f x = .inr (10, [.ref P, .ref F, .ref S, .ref X, .ref N, .ref T, .ref E, .int dc])) (bP : Option Nat) (pa : List Nat) (ps : Nat → ld_T) (hlp : ls_at G L f P bP pa) (hld : ∀ i (h : i < pa.length), ld_is L f pa[i] (ps i)) (bS : Option Nat) (sa : List Nat) (sd : Nat → sd_T) (hlS : ls_at G L f S bS sa) (hsd : ∀ j (h : j < sa.length), sd_is L f sa[j] (sd j)) (dw dn : ld_T) (hE : ld_is L f E dw) (hN : ld_is L f N dn) (k w : Int32) : gx_MX l G yX5_moment cX5_moment 3 (some .long) ({ frames := 7, cells := 2, slots := 12, locals := 110 } : Room) [.ref x, .int k, .int w] (va_pl L f) (fun v u => v = some (.long (mm_val sd dw dn ps pa.length k w)) ∧ u = va_pl L f ∧ mm_code sa.length k w = 0) (fun Ex u => u = va_pl L f ∧ px2 gx_E1 gx_E3 (mm_code sa.length k w) Ex) := by
  refine gx_startX (by decide +kernel) (Nat.le_of_ble_eq_true rfl) ?_
  intro p e s m args below meth c A ls C hr hno hW hl
  have gX := C.x
  have gB := C.b
  have hl : lv_has ls 3 [(0, .ref x), (1, .int k), (2, .int w)] := hl
  refine lv_aload_n gX gB dX5_moment_0 rfl (lv_at hl 0 rfl) ?_
  refine gx_callVX (wr := []) (rest := []) C hW sX5_135 (kX5_needPolygon l hfl G L f x P F S X N T E dc hx fx bS sa hlS) (gx_pl hx fx) rfl rfl ⟨(Nat.le_of_ble_eq_true rfl), (Nat.le_of_ble_eq_true rfl)⟩ hl.1 rfl (Nat.le_of_ble_eq_true rfl) dX5_moment_1 ⟨(Nat.le_of_ble_eq_true rfl), (Nat.le_of_ble_eq_true rfl)⟩ (fun E ce q9 u9 H locs hpx hW hce hcv hcl => gx_out C hno hW hce hcv hcl (⟨hpx.2.1, Or.inl ⟨hpx.1, by simp [mm_code, hpx.2.2]⟩⟩) (Nat.le_of_ble_eq_true rfl) (Nat.le_of_ble_eq_true rfl)) (fun v9 u9 H locs hp hW => ?_)
  obtain ⟨rfl, hu, hns⟩ := hp
  rw [hu] at hW
  have hW : gx_W G A s (va_pl L f) H locs := hW
  refine W.eq (g2 := F0 m 4 ls []) rfl ?_
  refine W.widen (k := 1) (n := 6) (Nat.le_of_ble_eq_true rfl) (Nat.le_of_ble_eq_true rfl) ?_
  refine lv_iload_n gX gB dX5_moment_4 rfl (lv_at hl 1 rfl) ?_
  refine lv_if_lt (tgt := 19) gX gB dX5_moment_5 (by decide) (fun c5 => ?_) (fun c5 => ?_)
  · exact gx_throw (text := "no such side") hfl C hno hW gx_thr3 (by decide +kernel) (tq_4 84 (by decide +kernel) rfl) (tq_1 24 (by decide +kernel) rfl) (tr_4 141 (by decide +kernel)) hl.1 dX5_moment_19 dX5_moment_22 dX5_moment_23 dX5_moment_25 dX5_moment_28 (Nat.le_of_ble_eq_true rfl) (Nat.le_of_ble_eq_true rfl) (Nat.le_of_ble_eq_true rfl) (Nat.le_of_ble_eq_true rfl) (⟨rfl, Or.inr ⟨rfl, by simp [mm_code, hns, c5]⟩⟩) (Nat.le_of_ble_eq_true rfl) (Nat.le_of_ble_eq_true rfl)
  · refine lv_iload_n gX gB dX5_moment_8 rfl (lv_at hl 1 rfl) ?_
    refine lv_aload_n gX gB dX5_moment_9 rfl (lv_at hl 0 rfl) ?_
    refine gx_get C hW fX5_19 (gx_pl hx fx) rfl dX5_moment_10 ?_
    refine gx_callV (wr := []) (rest := [.int k]) C hW sX5_48 (kL_size l G L f S bS sa hlS) (gx_pl hlS.1 (ls_at.head hlS).choose_spec.choose_spec) rfl rfl ⟨(Nat.le_of_ble_eq_true rfl), (Nat.le_of_ble_eq_true rfl)⟩ hl.1 rfl (Nat.le_of_ble_eq_true rfl) dX5_moment_13 ⟨(Nat.le_of_ble_eq_true rfl), (Nat.le_of_ble_eq_true rfl)⟩ (fun v9 u9 H locs hp hW => ?_)
    obtain ⟨rfl, hu⟩ := hp
    rw [hu] at hW
    have hW : gx_W G A s (va_pl L f) H locs := hW
    refine W.eq (g2 := F0 m 16 ls [.int (nI sa.length), .int k]) rfl ?_
    refine W.widen (k := 1) (n := 6) (Nat.le_of_ble_eq_true rfl) (Nat.le_of_ble_eq_true rfl) ?_
    refine lv_icmp_lt (tgt := 29) gX gB dX5_moment_16 (by decide) (fun c16 => ?_) (fun c16 => ?_)
    · refine lv_iload_n gX gB dX5_moment_29 rfl (lv_at hl 2 rfl) ?_
      refine lv_if_lt (tgt := 38) gX gB dX5_moment_30 (by decide) (fun c30 => ?_) (fun c30 => ?_)
      · exact gx_throw (text := "with the person or without") hfl C hno hW gx_thr3 (by decide +kernel) (tq_4 84 (by decide +kernel) rfl) (tq_1 24 (by decide +kernel) rfl) (tr_4 173 (by decide +kernel)) hl.1 dX5_moment_38 dX5_moment_41 dX5_moment_42 dX5_moment_44 dX5_moment_47 (Nat.le_of_ble_eq_true rfl) (Nat.le_of_ble_eq_true rfl) (Nat.le_of_ble_eq_true rfl) (Nat.le_of_ble_eq_true rfl) (⟨rfl, Or.inr ⟨rfl, by simp [mm_code, hns, c5, c16, c30]⟩⟩) (Nat.le_of_ble_eq_true rfl) (Nat.le_of_ble_eq_true rfl)
      · refine lv_iload_n gX gB dX5_moment_33 rfl (lv_at hl 2 rfl) ?_
        refine lv_iconst (v := 1) gX gB dX5_moment_34 (by decide) ?_
        refine lv_icmp_le (tgt := 48) gX gB dX5_moment_35 (by decide) (fun c35 => ?_) (fun c35 => ?_)
        · refine lv_aload_n gX gB dX5_moment_48 rfl (lv_at hl 0 rfl) ?_
          refine lv_aload_n gX gB dX5_moment_49 rfl (lv_at hl 0 rfl) ?_
          refine gx_get C hW fX5_19 (gx_pl hx fx) rfl dX5_moment_50 ?_
          refine lv_iload_n gX gB dX5_moment_53 rfl (lv_at hl 1 rfl) ?_
          obtain ⟨j, hj, rfl⟩ := nI_cases k (by have := hlS.lt; omega) (c5) c16
          refine gx_callV (wr := []) (rest := [.ref x]) C hW sX5_95 (kL_get l G L f S bS sa hlS j hj) (gx_pl hlS.1 (ls_at.head hlS).choose_spec.choose_spec) rfl rfl ⟨(Nat.le_of_ble_eq_true rfl), (Nat.le_of_ble_eq_true rfl)⟩ hl.1 rfl (Nat.le_of_ble_eq_true rfl) dX5_moment_54 ⟨(Nat.le_of_ble_eq_true rfl), (Nat.le_of_ble_eq_true rfl)⟩ (fun v9 u9 H locs hp hW => ?_)
          obtain ⟨rfl, hu⟩ := hp
          rw [hu] at hW
          have hW : gx_W G A s (va_pl L f) H locs := hW
          refine W.eq (g2 := F0 m 57 ls [.ref (sa[j]), .ref x]) rfl ?_
          refine W.widen (k := 1) (n := 6) (Nat.le_of_ble_eq_true rfl) (Nat.le_of_ble_eq_true rfl) ?_
          refine gx_cast C hW (gx_pl ((hsd j hj).choose_spec.choose_spec.choose_spec.1) ((hsd j hj).choose_spec.choose_spec.choose_spec.2.1)) rfl (tq_4 62 (by decide +kernel) rfl) dX5_moment_57 ?_
          refine lv_iconst (v := 0) gX gB dX5_moment_60 (by decide) ?_
          refine lv_iload_n gX gB dX5_moment_61 rfl (lv_at hl 2 rfl) ?_
          refine lv_iconst (v := 1) gX gB dX5_moment_62 (by decide) ?_
          refine lv_icmp_ne (tgt := 73) gX gB dX5_moment_63 (by decide) (fun c63 => ?_) (fun c63 => ?_)
          · refine lv_aload_n gX gB dX5_moment_73 rfl (lv_at hl 0 rfl) ?_
            refine gx_get C hW fX5_34 (gx_pl hx fx) rfl dX5_moment_74 ?_
            refine gx_callV (wr := []) (rest := []) C hW sX5_157 (kX5_momentOver l G L f x P F S X N T E dc hx fx bP pa ps hlp hld sa[j] (sd j) (hsd j hj) N dn hN 0) (gx_pl hx fx) rfl rfl ⟨(Nat.le_of_ble_eq_true rfl), (Nat.le_of_ble_eq_true rfl)⟩ hl.1 rfl (Nat.le_of_ble_eq_true rfl) dX5_moment_77 ⟨(Nat.le_of_ble_eq_true rfl), (Nat.le_of_ble_eq_true rfl)⟩ (fun v9 u9 H locs hp hW => ?_)
            obtain ⟨rfl, hu⟩ := hp
            rw [hu] at hW
            have hW : gx_W G A s (va_pl L f) H locs := hW
            refine W.eq (g2 := F0 m 80 ls [.long (mo_of (sd j).2.1 (sd j).2.2 0 dn ps pa.length)]) rfl ?_
            refine W.widen (k := 1) (n := 6) (Nat.le_of_ble_eq_true rfl) (Nat.le_of_ble_eq_true rfl) ?_
            refine vx_ret ?_
            exact gx_lret C hr hW (⟨by simp [mm_val, c63, nI_clamp (show j < 2 ^ 31 by have := hlS.lt; omega)], rfl, by simp [mm_code, hns, c5, c16, c30, Int32.not_lt.mpr c35, c63]⟩) (Nat.le_of_ble_eq_true rfl) (Nat.le_of_ble_eq_true rfl) dX5_moment_80
          · refine lv_aload_n gX gB dX5_moment_66 rfl (lv_at hl 0 rfl) ?_
            refine gx_get C hW fX5_41 (gx_pl hx fx) rfl dX5_moment_67 ?_
            refine lv_goto (tgt := 77) gX gB dX5_moment_70 (by decide) ?_
            refine gx_callV (wr := []) (rest := []) C hW sX5_157 (kX5_momentOver l G L f x P F S X N T E dc hx fx bP pa ps hlp hld sa[j] (sd j) (hsd j hj) E dw hE 0) (gx_pl hx fx) rfl rfl ⟨(Nat.le_of_ble_eq_true rfl), (Nat.le_of_ble_eq_true rfl)⟩ hl.1 rfl (Nat.le_of_ble_eq_true rfl) dX5_moment_77 ⟨(Nat.le_of_ble_eq_true rfl), (Nat.le_of_ble_eq_true rfl)⟩ (fun v9 u9 H locs hp hW => ?_)
            obtain ⟨rfl, hu⟩ := hp
            rw [hu] at hW
            have hW : gx_W G A s (va_pl L f) H locs := hW
            refine W.eq (g2 := F0 m 80 ls [.long (mo_of (sd j).2.1 (sd j).2.2 0 dw ps pa.length)]) rfl ?_
            refine W.widen (k := 1) (n := 6) (Nat.le_of_ble_eq_true rfl) (Nat.le_of_ble_eq_true rfl) ?_
            refine vx_ret ?_
            exact gx_lret C hr hW (⟨by simp [mm_val, c63, nI_clamp (show j < 2 ^ 31 by have := hlS.lt; omega)], rfl, by simp [mm_code, hns, c5, c16, c30, Int32.not_lt.mpr c35, c63]⟩) (Nat.le_of_ble_eq_true rfl) (Nat.le_of_ble_eq_true rfl) dX5_moment_80
        · exact gx_throw (text := "with the person or without") hfl C hno hW gx_thr3 (by decide +kernel) (tq_4 84 (by decide +kernel) rfl) (tq_1 24 (by decide +kernel) rfl) (tr_4 173 (by decide +kernel)) hl.1 dX5_moment_38 dX5_moment_41 dX5_moment_42 dX5_moment_44 dX5_moment_47 (Nat.le_of_ble_eq_true rfl) (Nat.le_of_ble_eq_true rfl) (Nat.le_of_ble_eq_true rfl) (Nat.le_of_ble_eq_true rfl) (⟨rfl, Or.inr ⟨rfl, by simp [mm_code, hns, c5, c16, c30, Int32.not_le.mp c35]⟩⟩) (Nat.le_of_ble_eq_true rfl) (Nat.le_of_ble_eq_true rfl)
    · exact gx_throw (text := "no such side") hfl C hno hW gx_thr3 (by decide +kernel) (tq_4 84 (by decide +kernel) rfl) (tq_1 24 (by decide +kernel) rfl) (tr_4 141 (by decide +kernel)) hl.1 dX5_moment_19 dX5_moment_22 dX5_moment_23 dX5_moment_25 dX5_moment_28 (Nat.le_of_ble_eq_true rfl) (Nat.le_of_ble_eq_true rfl) (Nat.le_of_ble_eq_true rfl) (Nat.le_of_ble_eq_true rfl) (⟨rfl, Or.inr ⟨rfl, by simp [mm_code, hns, c5, c16]⟩⟩) (Nat.le_of_ble_eq_true rfl) (Nat.le_of_ble_eq_true rfl)
/-- how many drawers may be open, one by one: with q looked at, 1 more than the last that stood -/
def ms_at (v : Nat → Nat) : Nat → Nat
  | 0 => 0
  | q + 1 => if ms_at v q = q ∧ v q = 0 then q + 1 else ms_at v q
theorem ms_stop {v : Nat → Nat} {q : Nat} (h : ms_at v q = q) (h0 : ¬ v q = 0) : ∀ n, q ≤ n → ms_at v n = q := by
  intro n
  induction n with
  | zero => intro hn; rw [show q = 0 by omega]; rfl
  | succ n ih =>
    intro hn
    rcases Nat.lt_or_ge n q with h1 | h1
    · rw [show n + 1 = q by omega]; exact h
    · show (if ms_at v n = n ∧ v n = 0 then n + 1 else ms_at v n) = q
      rw [ih h1]
      by_cases e : q = n
      · rw [if_neg (fun z => h0 (by rw [e]; exact z.2))]
      · rw [if_neg (fun z => e z.1)]
theorem ms_go {v : Nat → Nat} {q : Nat} (h : ms_at v q = q) (h0 : v q = 0) : ms_at v (q + 1) = q + 1 := if_pos ⟨h, h0⟩
theorem ms_le (v : Nat → Nat) : ∀ n, ms_at v n ≤ n := by
  intro n
  induction n with
  | zero => exact Nat.le_refl _
  | succ n ih =>
    show (if ms_at v n = n ∧ v n = 0 then n + 1 else ms_at v n) ≤ n + 1
    split <;> omega
set_option maxHeartbeats 4000000 in
set_option maxRecDepth 100000 in
theorem kX5_most (l : Launch) (hfl : l.flags = flags0) (G : gx_T) (L : List Nat) (f : Nat → va_E) (x P F S X N T E : Nat) (dn : Nat) (hdn : dn ≤ 8) (hx : x ∈ L) (fx : f x = .inr (10, [.ref P, .ref F, .ref S, .ref X, .ref N, .ref T, .ref E, .int (nI dn)])) (bP : Option Nat) (pa : List Nat) (ps : Nat → ld_T) (hlp : ls_at G L f P bP pa) (hld : ∀ i (h : i < pa.length), ld_is L f pa[i] (ps i)) (bS : Option Nat) (sa : List Nat) (sd : Nat → sd_T) (hlS : ls_at G L f S bS sa) (hsd : ∀ j (h : j < sa.length), sd_is L f sa[j] (sd j)) (dw : ld_T) (hE : ld_is L f E dw) : gx_MX l G yX5_most cX5_most 3 (some .int) ({ frames := 7, cells := 1, slots := 6, locals := 113 } : Room) [.ref x] (va_pl L f) (fun v u => v = some (.int (nI (ms_at (fun q => vd_at (fun j => mo_of (sd j).2.1 (sd j).2.2 (nI q) dw ps pa.length) sa.length) (dn + 1)) - 1)) ∧ u = va_pl L f ∧ ms_code sa.length = 0) (fun Ex u => u = va_pl L f ∧ px1 gx_E1 (ms_code sa.length) Ex) := by
  refine gx_startX (by decide +kernel) (Nat.le_of_ble_eq_true rfl) ?_
  intro p e s m args below meth c A ls C hr hno hW hl
  have gX := C.x
  have gB := C.b
  have hl : lv_has ls 3 [(0, .ref x)] := hl
  refine lv_aload_n gX gB dX5_most_0 rfl (lv_at hl 0 rfl) ?_
  refine gx_callVX (wr := []) (rest := []) C hW sX5_135 (kX5_needPolygon l hfl G L f x P F S X N T E (nI dn) hx fx bS sa hlS) (gx_pl hx fx) rfl rfl ⟨(Nat.le_of_ble_eq_true rfl), (Nat.le_of_ble_eq_true rfl)⟩ hl.1 rfl (Nat.le_of_ble_eq_true rfl) dX5_most_1 ⟨(Nat.le_of_ble_eq_true rfl), (Nat.le_of_ble_eq_true rfl)⟩ (fun E ce q9 u9 H locs hpx hW hce hcv hcl => gx_out C hno hW hce hcv hcl (⟨hpx.2.1, hpx.1, by simp [ms_code, hpx.2.2]⟩) (Nat.le_of_ble_eq_true rfl) (Nat.le_of_ble_eq_true rfl)) (fun v9 u9 H locs hp hW => ?_)
  obtain ⟨rfl, hu, hns⟩ := hp
  rw [hu] at hW
  have hW : gx_W G A s (va_pl L f) H locs := hW
  refine W.eq (g2 := F0 m 4 ls []) rfl ?_
  refine W.widen (k := 1) (n := 6) (Nat.le_of_ble_eq_true rfl) (Nat.le_of_ble_eq_true rfl) ?_
  refine lv_iconst (v := (-1)) gX gB dX5_most_4 (by decide) ?_
  refine lv_istore_n (lv' := [(1, .int (-1)), (0, .ref x)]) gX gB dX5_most_5 rfl hl (by decide) rfl (fun ls hl => ?_)
  refine lv_iconst (v := 0) gX gB dX5_most_6 (by decide) ?_
  refine lv_istore_n (lv' := [(2, .int 0), (1, .int (-1)), (0, .ref x)]) gX gB dX5_most_7 rfl hl (by decide) rfl (fun ls hl => ?_)
  have hl : lv_has ls 3 [(2, .int (nI 0)), (1, .int (nI 0 - 1)), (0, .ref x)] := hl
  have loop : ∀ (r : Nat) (q : Nat), (dn + 1 - q < r) → (q ≤ dn + 1) → (ms_at (fun q => vd_at (fun j => mo_of (sd j).2.1 (sd j).2.2 (nI q) dw ps pa.length) sa.length) q = q) → ∀ (H : Heap) (locs : List Loc), gx_W G A s (va_pl L f) H locs → ∀ ls : Array Slot, lv_has ls 3 [(2, .int (nI q)), (1, .int (nI q - 1)), (0, .ref x)] → W p l e ({ frames := 7, cells := 1, slots := 6, locals := 113 } : Room) s m args below meth c H locs 1 6 (vx_MQ below (gx_Q G A (fun v u => v = some (.int (nI (ms_at (fun q => vd_at (fun j => mo_of (sd j).2.1 (sd j).2.2 (nI q) dw ps pa.length) sa.length) (dn + 1)) - 1)) ∧ u = va_pl L f ∧ ms_code sa.length = 0)) (gx_X G A (fun Ex u => u = va_pl L f ∧ px1 gx_E1 (ms_code sa.length) Ex)) args s (({ frames := 7, cells := 1, slots := 6, locals := 113 } : Room)).cells (({ frames := 7, cells := 1, slots := 6, locals := 113 } : Room)).slots A) (F0 m 8 ls []) := by
    intro r
    induction r with
    | zero => intro q hfu hq hq0 H locs hW ls hl; exact absurd hfu (Nat.not_lt_zero _)
    | succ r ih =>
      intro q hfu hq hq0 H locs hW ls hl
      rcases Nat.lt_or_ge dn q with hjk | hjk
      · refine lv_iload_n gX gB dX5_most_8 rfl (lv_at hl 0 rfl) ?_
        refine lv_aload_n gX gB dX5_most_9 rfl (lv_at hl 2 rfl) ?_
        refine gx_get C hW fX5_44 (gx_pl hx fx) rfl dX5_most_10 ?_
        refine lv_icmp_gt (tgt := 36) gX gB dX5_most_13 (by decide) (fun _ => ?_) (fun h9 => absurd (show (nI dn) < (nI q) from nI_lt hjk (by omega)) h9)
        refine lv_iload_n gX gB dX5_most_36 rfl (lv_at hl 1 rfl) ?_
        refine vx_ret ?_
        exact gx_iret C hr hW (⟨by rw [show q = dn + 1 by omega] at hq0 ⊢; rw [hq0], rfl, by simp [ms_code, hns]⟩) (Nat.le_of_ble_eq_true rfl) (Nat.le_of_ble_eq_true rfl) dX5_most_37
      · refine lv_iload_n gX gB dX5_most_8 rfl (lv_at hl 0 rfl) ?_
        refine lv_aload_n gX gB dX5_most_9 rfl (lv_at hl 2 rfl) ?_
        refine gx_get C hW fX5_44 (gx_pl hx fx) rfl dX5_most_10 ?_
        refine lv_icmp_gt (tgt := 36) gX gB dX5_most_13 (by decide) (fun h9 => absurd (show (nI dn) < (nI q) from h9) (nI_nlt hjk (by omega))) (fun _ => ?_)
        refine lv_aload_n gX gB dX5_most_16 rfl (lv_at hl 2 rfl) ?_
        refine lv_iload_n gX gB dX5_most_17 rfl (lv_at hl 0 rfl) ?_
        refine lv_aload_n gX gB dX5_most_18 rfl (lv_at hl 2 rfl) ?_
        refine gx_get C hW fX5_41 (gx_pl hx fx) rfl dX5_most_19 ?_
        refine gx_callV (wr := []) (rest := []) C hW sX5_151 (kX5_verdict l G L f x P F S X N T E (nI dn) hx fx bP pa ps hlp hld bS sa sd hlS hsd E dw hE (nI q)) (gx_pl hx fx) rfl rfl ⟨(Nat.le_of_ble_eq_true rfl), (Nat.le_of_ble_eq_true rfl)⟩ hl.1 rfl (Nat.le_of_ble_eq_true rfl) dX5_most_22 ⟨(Nat.le_of_ble_eq_true rfl), (Nat.le_of_ble_eq_true rfl)⟩ (fun v9 u9 H locs hp hW => ?_)
        obtain ⟨rfl, hu⟩ := hp
        rw [hu] at hW
        have hW : gx_W G A s (va_pl L f) H locs := hW
        refine W.eq (g2 := F0 m 25 ls [.int (nI (vd_at (fun j => mo_of (sd j).2.1 (sd j).2.2 (nI q) dw ps pa.length) sa.length))]) rfl ?_
        refine W.widen (k := 1) (n := 6) (Nat.le_of_ble_eq_true rfl) (Nat.le_of_ble_eq_true rfl) ?_
        refine lv_if_ne (tgt := 36) gX gB dX5_most_25 (by decide) (fun c25 => ?_) (fun c25 => ?_)
        · refine lv_iload_n gX gB dX5_most_36 rfl (lv_at hl 1 rfl) ?_
          refine vx_ret ?_
          exact gx_iret C hr hW (⟨by rw [ms_stop hq0 (fun zz => c25 (by rw [zz]; rfl)) (dn + 1) (by omega)], rfl, by simp [ms_code, hns]⟩) (Nat.le_of_ble_eq_true rfl) (Nat.le_of_ble_eq_true rfl) dX5_most_37
        · refine lv_iload_n gX gB dX5_most_28 rfl (lv_at hl 0 rfl) ?_
          refine lv_istore_n (lv' := [(1, .int (nI q)), (2, .int (nI q)), (0, .ref x)]) gX gB dX5_most_29 rfl hl (by decide) rfl (fun ls hl => ?_)
          refine lv_iinc (v := nI (q + 1)) (lv' := [(2, .int (nI (q + 1))), (1, .int (nI q)), (0, .ref x)]) gX gB dX5_most_30 hl (k := 1) rfl (by exact nI_1 q) (by decide) rfl (fun ls hl => ?_)
          refine lv_goto (tgt := 8) gX gB dX5_most_33 (by decide) ?_
          have hl : lv_has ls 3 [(2, .int (nI (q + 1))), (1, .int (nI (q + 1) - 1)), (0, .ref x)] := by rw [show nI (q + 1) - 1 = nI q from nI_pred q]; exact hl
          exact ih (q + 1) (by omega) (by omega) (ms_go hq0 ((nI_eq (b := 0) (by have := vd_le (fun j => mo_of (sd j).2.1 (sd j).2.2 (nI q) dw ps pa.length) sa.length; have := hlS.lt; omega) (by decide)).mp c25)) _ _ hW ls (lv_sub hl [0, 1, 2] rfl)
  exact loop (dn + 2) 0 (by omega) (Nat.zero_le _) rfl _ _ hW ls (lv_sub hl [0, 1, 2] rfl)
end
section
/-! STANDTESTS: commonDivisor, centre, test, anchor. -/
theorem gc_half {u v p : Nat} (h : v ≤ u) (h0 : 0 < v) (hb : u * v < 2 ^ (p + 1)) : v * (u % v) < 2 ^ p := by
  have h1 : u % v < v := Nat.mod_lt _ h0
  have h2 : u % v + v ≤ u := by
    have h4 := Nat.div_add_mod u v
    have h5 : 1 ≤ u / v := (Nat.one_le_div_iff h0).mpr h
    have h6 : v * 1 ≤ v * (u / v) := Nat.mul_le_mul_left _ h5
    omega
  have h3 : 2 * (u % v) < u := by omega
  have h7 : v * (2 * (u % v)) < v * u := Nat.mul_lt_mul_of_pos_left h3 h0
  rw [Nat.pow_succ] at hb
  have e1 : v * (2 * (u % v)) = 2 * (v * (u % v)) := by rw [Nat.mul_left_comm]
  have e2 : v * u = u * v := Nat.mul_comm _ _
  omega
set_option maxHeartbeats 4000000 in
set_option maxRecDepth 100000 in
theorem kX5_commonDivisor (l : Launch) (G : gx_T) (ws : va_W) (x0 y0 : Nat) (hx0 : x0 < 2 ^ 62) (hy0 : y0 < 2 ^ 62) (hxy : x0 * y0 < 2 ^ 70) (h1 : 1 ≤ Nat.gcd x0 y0) : gx_M l G yX5_commonDivisor cX5_commonDivisor 11 (some .long) ({ frames := 0, cells := 0, slots := 0, locals := 0 } : Room) [.long (lN x0), .long (lN y0)] (ws) (fun w u => w = some (.long (lN (Nat.gcd x0 y0))) ∧ u = ws) := by
  refine gx_start (by decide +kernel) (Nat.le_of_ble_eq_true rfl) ?_
  intro p e s m args below meth c A ls C hr hnm hW hl
  have gX := C.x
  have gB := C.b
  have hl : lv_has ls 11 [(0, .long (lN x0)), (2, .long (lN y0))] := hl
  refine lv_lload_n gX gB dX5_commonDivisor_0 rfl (lv_at hl 0 rfl) ?_
  refine lv_lstore (lv' := [(4, .long (lN x0)), (0, .long (lN x0)), (2, .long (lN y0))]) gX gB dX5_commonDivisor_1 hl (by decide) rfl (fun ls hl => ?_)
  refine lv_lload_n gX gB dX5_commonDivisor_3 rfl (lv_at hl 2 rfl) ?_
  refine lv_lstore (lv' := [(6, .long (lN y0)), (4, .long (lN x0)), (0, .long (lN x0)), (2, .long (lN y0))]) gX gB dX5_commonDivisor_4 hl (by decide) rfl (fun ls hl => ?_)
  refine lv_iconst (v := 0) gX gB dX5_commonDivisor_6 (by decide) ?_
  refine lv_istore (lv' := [(8, .int 0), (6, .long (lN y0)), (4, .long (lN x0)), (0, .long (lN x0)), (2, .long (lN y0))]) gX gB dX5_commonDivisor_7 hl (by decide) rfl (fun ls hl => ?_)
  have loop : ∀ (r : Nat) (i u v p0 : Nat), (101 - i < r) → (i ≤ 100) → (Nat.gcd u v = Nat.gcd x0 y0) → (u * v < 2 ^ p0) → ((v ≤ u ∧ i + p0 ≤ 100) ∨ i + p0 + 1 ≤ 100) → (u < 2 ^ 62) → (v < 2 ^ 62) → ∀ (H : Heap) (locs : List Loc), gx_W G A s (ws) H locs → ∀ ls : Array Slot, lv_has ls 11 [(8, .int (nI i)), (4, .long (lN u)), (6, .long (lN v))] → W p l e ({ frames := 0, cells := 0, slots := 0, locals := 0 } : Room) s m args below meth c H locs 0 0 (MQ below (gx_Q G A (fun w u => w = some (.long (lN (Nat.gcd x0 y0))) ∧ u = ws)) args s (({ frames := 0, cells := 0, slots := 0, locals := 0 } : Room)).cells (({ frames := 0, cells := 0, slots := 0, locals := 0 } : Room)).slots A) (F0 m 9 ls []) := by
    intro r
    induction r with
    | zero => intro i u v p0 hfu hi hg hb hc hu hv H locs hW ls hl; exact absurd hfu (Nat.not_lt_zero _)
    | succ r ih =>
      intro i u v p0 hfu hi hg hb hc hu hv H locs hW ls hl
      rcases Nat.eq_zero_or_pos v with hv0 | hv0
      · have hu1 : u = Nat.gcd x0 y0 := by rw [← hg, hv0, Nat.gcd_zero_right]
        refine lv_iload gX gB dX5_commonDivisor_9 (lv_at hl 0 rfl) ?_
        refine lv_bipush (v := 100) gX gB dX5_commonDivisor_11 (by decide) ?_
        refine lv_icmp_ge (tgt := 44) gX gB dX5_commonDivisor_13 (by decide) (fun c13 => ?_) (fun c13 => ?_)
        · refine lv_lload gX gB dX5_commonDivisor_44 (lv_at hl 1 rfl) ?_
          refine lv_lconst (v := 1) gX gB dX5_commonDivisor_46 (by decide) ?_
          refine gx_lc_ge (tgt := 55) C dX5_commonDivisor_47 dX5_commonDivisor_48 (by decide) (fun _ => ?_) (fun h9 => absurd (show (1 : Int64) ≤ (lN u) from (pk_lLE (a := 1) (b := u) (by decide) (by omega)).mpr (by omega)) h9)
          refine lv_lload gX gB dX5_commonDivisor_55 (lv_at hl 1 rfl) ?_
          exact gx_lret C hr hW (⟨by rw [← hu1], rfl⟩) (Nat.le_of_ble_eq_true rfl) (Nat.le_of_ble_eq_true rfl) dX5_commonDivisor_57
        · refine lv_lload gX gB dX5_commonDivisor_16 (lv_at hl 2 rfl) ?_
          refine lv_lconst (v := 0) gX gB dX5_commonDivisor_18 (by decide) ?_
          refine gx_lc_eq (tgt := 44) C dX5_commonDivisor_19 dX5_commonDivisor_20 (by decide) (fun _ => ?_) (fun h9 => absurd (show (lN v) = (0 : Int64) from (pk_lEQ (a := v) (b := 0) (by omega) (by decide)).mpr hv0) h9)
          refine lv_lload gX gB dX5_commonDivisor_44 (lv_at hl 1 rfl) ?_
          refine lv_lconst (v := 1) gX gB dX5_commonDivisor_46 (by decide) ?_
          refine gx_lc_ge (tgt := 55) C dX5_commonDivisor_47 dX5_commonDivisor_48 (by decide) (fun _ => ?_) (fun h9 => absurd (show (1 : Int64) ≤ (lN u) from (pk_lLE (a := 1) (b := u) (by decide) (by omega)).mpr (by omega)) h9)
          refine lv_lload gX gB dX5_commonDivisor_55 (lv_at hl 1 rfl) ?_
          exact gx_lret C hr hW (⟨by rw [← hu1], rfl⟩) (Nat.le_of_ble_eq_true rfl) (Nat.le_of_ble_eq_true rfl) dX5_commonDivisor_57
      · refine lv_iload gX gB dX5_commonDivisor_9 (lv_at hl 0 rfl) ?_
        refine lv_bipush (v := 100) gX gB dX5_commonDivisor_11 (by decide) ?_
        refine lv_icmp_ge (tgt := 44) gX gB dX5_commonDivisor_13 (by decide) (fun h9 => absurd (show (100 : Int32) ≤ (nI i) from h9) (nI_ge (by
          rcases Nat.lt_or_ge i 100 with h8 | h8
          · exact h8
          · exfalso
            rcases hc with ⟨hc1, hc2⟩ | hc2
            · rw [show p0 = 0 by omega, Nat.pow_zero] at hb
              have h7 : 0 < u * v := Nat.mul_pos (by omega) hv0
              omega
            · omega) (show (100 : Nat) < 2 ^ 31 by decide))) (fun _ => ?_)
        refine lv_lload gX gB dX5_commonDivisor_16 (lv_at hl 2 rfl) ?_
        refine lv_lconst (v := 0) gX gB dX5_commonDivisor_18 (by decide) ?_
        refine gx_lc_eq (tgt := 44) C dX5_commonDivisor_19 dX5_commonDivisor_20 (by decide) (fun h9 => absurd (show (lN v) = (0 : Int64) from h9) (fun zz => absurd ((pk_lEQ (a := v) (b := 0) (by omega) (by decide)).mp zz) (by omega))) (fun _ => ?_)
        refine lv_lload gX gB dX5_commonDivisor_23 (lv_at hl 1 rfl) ?_
        refine lv_lload gX gB dX5_commonDivisor_25 (lv_at hl 2 rfl) ?_
        refine lv_lrem gX gB dX5_commonDivisor_27 (fun zz => absurd ((pk_lEQ (a := v) (b := 0) (by omega) (by decide)).mp zz) (by omega)) ?_
        refine gx_topl (show ((lN u) - (lN u) / (lN v) * (lN v)) = lN (u % v) from pk_lRem (by omega) (by omega) (by omega)) ?_
        refine lv_lstore (lv' := [(9, .long (lN (u % v))), (8, .int (nI i)), (4, .long (lN u)), (6, .long (lN v))]) gX gB dX5_commonDivisor_28 hl (by decide) rfl (fun ls hl => ?_)
        refine lv_lload gX gB dX5_commonDivisor_30 (lv_at hl 3 rfl) ?_
        refine lv_lstore (lv' := [(4, .long (lN v)), (9, .long (lN (u % v))), (8, .int (nI i)), (6, .long (lN v))]) gX gB dX5_commonDivisor_32 hl (by decide) rfl (fun ls hl => ?_)
        refine lv_lload gX gB dX5_commonDivisor_34 (lv_at hl 1 rfl) ?_
        refine lv_lstore (lv' := [(6, .long (lN (u % v))), (4, .long (lN v)), (9, .long (lN (u % v))), (8, .int (nI i))]) gX gB dX5_commonDivisor_36 hl (by decide) rfl (fun ls hl => ?_)
        refine lv_iinc (v := nI (i + 1)) (lv' := [(8, .int (nI (i + 1))), (6, .long (lN (u % v))), (4, .long (lN v)), (9, .long (lN (u % v)))]) gX gB dX5_commonDivisor_38 hl (k := 3) rfl (by exact nI_1 i) (by decide) rfl (fun ls hl => ?_)
        refine lv_goto (tgt := 9) gX gB dX5_commonDivisor_41 (by decide) ?_
        rcases hc with ⟨hc1, hc2⟩ | hc2
        · obtain ⟨p, rfl⟩ : ∃ p1, p0 = p1 + 1 := by
            cases p0 with
            | zero =>
              have h8 : 0 < u * v := Nat.mul_pos (by omega) hv0
              rw [Nat.pow_zero] at hb; omega
            | succ p1 => exact ⟨p1, rfl⟩
          exact ih (i + 1) v (u % v) p (by omega) (by omega) (by rw [Nat.gcd_comm, ← Nat.gcd_rec, Nat.gcd_comm]; exact hg) (gc_half hc1 hv0 hb) (Or.inl ⟨Nat.le_of_lt (Nat.mod_lt _ hv0), by omega⟩) (by omega) (by have := Nat.mod_lt u hv0; omega) _ _ hW ls (lv_sub hl [0, 2, 1] rfl)
        · rcases Nat.lt_or_ge u v with h8 | h8
          · exact ih (i + 1) v (u % v) p0 (by omega) (by omega) (by rw [Nat.gcd_comm, ← Nat.gcd_rec, Nat.gcd_comm]; exact hg) (by rw [Nat.mod_eq_of_lt h8, Nat.mul_comm]; exact hb) (Or.inl ⟨Nat.le_of_lt (Nat.mod_lt _ hv0), by omega⟩) (by omega) (by have := Nat.mod_lt u hv0; omega) _ _ hW ls (lv_sub hl [0, 2, 1] rfl)
          · obtain ⟨p, rfl⟩ : ∃ p1, p0 = p1 + 1 := by
              cases p0 with
              | zero =>
                have h7 : 0 < u * v := Nat.mul_pos (by omega) hv0
                rw [Nat.pow_zero] at hb; omega
              | succ p1 => exact ⟨p1, rfl⟩
            exact ih (i + 1) v (u % v) p (by omega) (by omega) (by rw [Nat.gcd_comm, ← Nat.gcd_rec, Nat.gcd_comm]; exact hg) (gc_half h8 hv0 hb) (Or.inl ⟨Nat.le_of_lt (Nat.mod_lt _ hv0), by omega⟩) (by omega) (by have := Nat.mod_lt u hv0; omega) _ _ hW ls (lv_sub hl [0, 2, 1] rfl)
  exact loop 102 0 x0 y0 70 (by omega) (by omega) rfl hxy (Or.inr (by omega)) hx0 hy0 _ _ hW ls (lv_sub hl [0, 2, 1] rfl)
abbrev pl_on (d : ld_T) (k : Int32) : Int64 := if k = 0 then d.1 else if k = 1 then d.2.1 else d.2.2.1
def ce_code (ax p2 : Int32) (all : Int64) : Int32 := if ax < 0 ∨ 2 < ax ∨ p2 < 0 ∨ 1 < p2 then 1 else if all = 0 then 2 else 0
def ce_all (dw : ld_T) (ps : Nat → ld_T) (n : Nat) : Int64 := mo_sum dw.2.2.2.1 (fun i => (ps i).2.2.2.1) n
def ce_sum (dw : ld_T) (ps : Nat → ld_T) (ax : Int32) (n : Nat) : Int64 := mo_sum (dw.2.2.2.1 * pl_on dw ax) (fun i => (ps i).2.2.2.1 * pl_on (ps i) ax) n
def tr_is (L : List Nat) (f : Nat → va_E) (a : Nat) (d : ld_T × Int32) : Prop := ∃ w : Nat, a ∈ L ∧ f a = .inr (8, [.ref w, .int d.2]) ∧ ld_is L f w d.1
abbrev op_n (dc k : Int32) : Int32 := if k < dc then k else dc
def ts_code (nt ns : Nat) (k w : Int32) : Int32 := if k < 0 ∨ ¬ k < nI nt then 1 else if w < 0 ∨ 2 < w then 2 else if w = 0 ∧ ns = 0 then 3 else 0
def ts_val (td : Nat → ld_T × Int32) (dc : Int32) (vd : Int32 → ld_T → Nat) (k w : Int32) : Int32 := if w = 1 then (td k.toNatClampNeg).1.2.2.2.1.toInt32 else if w = 2 then op_n dc (td k.toNatClampNeg).2 else nI (vd (op_n dc (td k.toNatClampNeg).2) (td k.toNatClampNeg).1)
noncomputable def an_at (v : Nat → Nat) (n : Nat) : Int32 := @ite _ (∀ j, j < n → v j = 0) (Classical.propDecidable _) 0 1
theorem an_yes {v : Nat → Nat} {n : Nat} (h : ∀ j, j < n → v j = 0) : an_at v n = 0 := by
  unfold an_at
  rw [if_pos h]
theorem an_no {v : Nat → Nat} {n j : Nat} (hj : j < n) (h : ¬ v j = 0) : an_at v n = 1 := by
  unfold an_at
  rw [if_neg (fun z => h (z j hj))]
def ce_val (dw : ld_T) (ps : Nat → ld_T) (n gN sN : Nat) (ax p2 : Int32) : Int64 := if p2 = 0 then ce_sum dw ps ax n / lN (Nat.gcd gN sN) else ce_all dw ps n / lN (Nat.gcd gN sN)
set_option maxHeartbeats 4000000 in
set_option maxRecDepth 100000 in
theorem kX5_centre (l : Launch) (hfl : l.flags = flags0) (G : gx_T) (L : List Nat) (f : Nat → va_E) (x P F S X N T E : Nat) (dc : Int32) (hx : x ∈ L) (fx : f x = .inr (10, [.ref P, .ref F, .ref S, .ref X, .ref N, .ref T, .ref E, .int dc])) (bP : Option Nat) (pa : List Nat) (ps : Nat → ld_T) (hlp : ls_at G L f P bP pa) (hld : ∀ i (h : i < pa.length), ld_is L f pa[i] (ps i)) (dw : ld_T) (hE : ld_is L f E dw) (ax p2 : Int32) (gN sN : Nat) (hgN : ce_all dw ps pa.length = lN gN) (hg0 : gN < 2 ^ 26) (hsN : (if 0 < ce_sum dw ps ax pa.length then ce_sum dw ps ax pa.length else -ce_sum dw ps ax pa.length) = lN sN) (hs0 : sN < 2 ^ 44) (hgs : gN * sN < 2 ^ 70) : gx_MX l G yX5_centre cX5_centre 9 (some .long) ({ frames := 6, cells := 1, slots := 6, locals := 90 } : Room) [.ref x, .int ax, .int p2] (va_pl L f) (fun v u => v = some (.long (ce_val dw ps pa.length gN sN ax p2)) ∧ u = va_pl L f ∧ ce_code ax p2 (ce_all dw ps pa.length) = 0) (fun Ex u => u = va_pl L f ∧ px2 gx_E3 gx_E1 (ce_code ax p2 (ce_all dw ps pa.length)) Ex) := by
  refine gx_startX (by decide +kernel) (Nat.le_of_ble_eq_true rfl) ?_
  intro p e s m args below meth c A ls C hr hno hW hl
  have gX := C.x
  have gB := C.b
  have hl : lv_has ls 9 [(0, .ref x), (1, .int ax), (2, .int p2)] := hl
  refine lv_iload_n gX gB dX5_centre_0 rfl (lv_at hl 1 rfl) ?_
  refine lv_if_lt (tgt := 9) gX gB dX5_centre_1 (by decide) (fun c1 => ?_) (fun c1 => ?_)
  · exact gx_throw (text := "no such axis") hfl C hno hW gx_thr3 (by decide +kernel) (tq_4 84 (by decide +kernel) rfl) (tq_1 24 (by decide +kernel) rfl) (tr_4 112 (by decide +kernel)) hl.1 dX5_centre_9 dX5_centre_12 dX5_centre_13 dX5_centre_15 dX5_centre_18 (Nat.le_of_ble_eq_true rfl) (Nat.le_of_ble_eq_true rfl) (Nat.le_of_ble_eq_true rfl) (Nat.le_of_ble_eq_true rfl) (⟨rfl, Or.inl ⟨rfl, by simp [ce_code, c1]⟩⟩) (Nat.le_of_ble_eq_true rfl) (Nat.le_of_ble_eq_true rfl)
  · refine lv_iload_n gX gB dX5_centre_4 rfl (lv_at hl 1 rfl) ?_
    refine lv_iconst (v := 2) gX gB dX5_centre_5 (by decide) ?_
    refine lv_icmp_le (tgt := 19) gX gB dX5_centre_6 (by decide) (fun c6 => ?_) (fun c6 => ?_)
    · refine lv_iload_n gX gB dX5_centre_19 rfl (lv_at hl 2 rfl) ?_
      refine lv_if_lt (tgt := 28) gX gB dX5_centre_20 (by decide) (fun c20 => ?_) (fun c20 => ?_)
      · exact gx_throw (text := "a fraction has no such part") hfl C hno hW gx_thr3 (by decide +kernel) (tq_4 84 (by decide +kernel) rfl) (tq_1 24 (by decide +kernel) rfl) (tr_4 113 (by decide +kernel)) hl.1 dX5_centre_28 dX5_centre_31 dX5_centre_32 dX5_centre_34 dX5_centre_37 (Nat.le_of_ble_eq_true rfl) (Nat.le_of_ble_eq_true rfl) (Nat.le_of_ble_eq_true rfl) (Nat.le_of_ble_eq_true rfl) (⟨rfl, Or.inl ⟨rfl, by simp [ce_code, c1, Int32.not_lt.mpr c6, c20]⟩⟩) (Nat.le_of_ble_eq_true rfl) (Nat.le_of_ble_eq_true rfl)
      · refine lv_iload_n gX gB dX5_centre_23 rfl (lv_at hl 2 rfl) ?_
        refine lv_iconst (v := 1) gX gB dX5_centre_24 (by decide) ?_
        refine lv_icmp_le (tgt := 38) gX gB dX5_centre_25 (by decide) (fun c25 => ?_) (fun c25 => ?_)
        · refine lv_aload_n gX gB dX5_centre_38 rfl (lv_at hl 0 rfl) ?_
          refine gx_get C hW fX5_41 (gx_pl hx fx) rfl dX5_centre_39 ?_
          refine gx_getN C hW fX5_112n (gx_pl hE.1 hE.2) rfl dX5_centre_42 ?_
          refine lv_lstore_n (lv' := [(3, .long dw.2.2.2.1), (0, .ref x), (1, .int ax), (2, .int p2)]) gX gB dX5_centre_45 rfl hl (by decide) rfl (fun ls hl => ?_)
          refine lv_aload_n gX gB dX5_centre_46 rfl (lv_at hl 1 rfl) ?_
          refine gx_get C hW fX5_41 (gx_pl hx fx) rfl dX5_centre_47 ?_
          refine gx_getN C hW fX5_112n (gx_pl hE.1 hE.2) rfl dX5_centre_50 ?_
          refine lv_aload_n gX gB dX5_centre_53 rfl (lv_at hl 1 rfl) ?_
          refine gx_get C hW fX5_41 (gx_pl hx fx) rfl dX5_centre_54 ?_
          refine lv_iload_n gX gB dX5_centre_57 rfl (lv_at hl 2 rfl) ?_
          refine gx_callVN (wr := []) (rest := [.long dw.2.2.2.1]) C hW sX5_119n (kX1_placeOn l G L f E dw.1 dw.2.1 dw.2.2.1 dw.2.2.2.1 dw.2.2.2.2.2 dw.2.2.2.2.1 ax hE.1 hE.2) (gx_pl hE.1 hE.2) rfl rfl ⟨(Nat.le_of_ble_eq_true rfl), (Nat.le_of_ble_eq_true rfl)⟩ hl.1 rfl (Nat.le_of_ble_eq_true rfl) dX5_centre_58 ⟨(Nat.le_of_ble_eq_true rfl), (Nat.le_of_ble_eq_true rfl)⟩ (fun v9 u9 H locs hp hW => ?_)
          obtain ⟨rfl, hu⟩ := hp
          rw [hu] at hW
          have hW : gx_W G A s (va_pl L f) H locs := hW
          refine W.eq (g2 := F0 m 61 ls [.long (pl_on dw ax), .long dw.2.2.2.1]) rfl ?_
          refine W.widen (k := 0) (n := 0) (Nat.le_of_ble_eq_true rfl) (Nat.le_of_ble_eq_true rfl) ?_
          refine lv_lmul gX gB dX5_centre_61 ?_
          refine lv_lstore (lv' := [(5, .long (dw.2.2.2.1 * (pl_on dw ax))), (3, .long dw.2.2.2.1), (0, .ref x), (1, .int ax), (2, .int p2)]) gX gB dX5_centre_62 hl (by decide) rfl (fun ls hl => ?_)
          refine lv_iconst (v := 0) gX gB dX5_centre_64 (by decide) ?_
          refine lv_istore (lv' := [(7, .int 0), (5, .long (dw.2.2.2.1 * (pl_on dw ax))), (3, .long dw.2.2.2.1), (0, .ref x), (1, .int ax), (2, .int p2)]) gX gB dX5_centre_65 hl (by decide) rfl (fun ls hl => ?_)
          have hl : lv_has ls 9 [(7, .int (nI 0)), (5, .long (mo_sum (dw.2.2.2.1 * pl_on dw ax) (fun i => (ps i).2.2.2.1 * pl_on (ps i) ax) 0)), (3, .long (mo_sum dw.2.2.2.1 (fun i => (ps i).2.2.2.1) 0)), (0, .ref x), (1, .int ax), (2, .int p2)] := hl
          have loop : ∀ (r : Nat) (i : Nat), (pa.length - i < r) → (i ≤ pa.length) → ∀ (H : Heap) (locs : List Loc), gx_W G A s (va_pl L f) H locs → ∀ ls : Array Slot, lv_has ls 9 [(7, .int (nI i)), (3, .long (mo_sum dw.2.2.2.1 (fun i => (ps i).2.2.2.1) i)), (5, .long (mo_sum (dw.2.2.2.1 * pl_on dw ax) (fun i => (ps i).2.2.2.1 * pl_on (ps i) ax) i)), (0, .ref x), (1, .int ax), (2, .int p2)] → W p l e ({ frames := 6, cells := 1, slots := 6, locals := 90 } : Room) s m args below meth c H locs 0 0 (vx_MQ below (gx_Q G A (fun v u => v = some (.long (ce_val dw ps pa.length gN sN ax p2)) ∧ u = va_pl L f ∧ ce_code ax p2 (ce_all dw ps pa.length) = 0)) (gx_X G A (fun Ex u => u = va_pl L f ∧ px2 gx_E3 gx_E1 (ce_code ax p2 (ce_all dw ps pa.length)) Ex)) args s (({ frames := 6, cells := 1, slots := 6, locals := 90 } : Room)).cells (({ frames := 6, cells := 1, slots := 6, locals := 90 } : Room)).slots A) (F0 m 67 ls []) := by
            intro r
            induction r with
            | zero => intro i hfu hi H locs hW ls hl; exact absurd hfu (Nat.not_lt_zero _)
            | succ r ih =>
              intro i hfu hi H locs hW ls hl
              rcases Nat.lt_or_ge i pa.length with hik | hik
              · refine lv_iload gX gB dX5_centre_67 (lv_at hl 0 rfl) ?_
                refine lv_aload_n gX gB dX5_centre_69 rfl (lv_at hl 3 rfl) ?_
                refine gx_get C hW fX5_10 (gx_pl hx fx) rfl dX5_centre_70 ?_
                refine gx_callV (wr := []) (rest := [.int (nI i)]) C hW sX5_48 (kL_size l G L f P bP pa hlp) (gx_pl hlp.1 (ls_at.head hlp).choose_spec.choose_spec) rfl rfl ⟨(Nat.le_of_ble_eq_true rfl), (Nat.le_of_ble_eq_true rfl)⟩ hl.1 rfl (Nat.le_of_ble_eq_true rfl) dX5_centre_73 ⟨(Nat.le_of_ble_eq_true rfl), (Nat.le_of_ble_eq_true rfl)⟩ (fun v9 u9 H locs hp hW => ?_)
                obtain ⟨rfl, hu⟩ := hp
                rw [hu] at hW
                have hW : gx_W G A s (va_pl L f) H locs := hW
                refine W.eq (g2 := F0 m 76 ls [.int (nI pa.length), .int (nI i)]) rfl ?_
                refine W.widen (k := 0) (n := 0) (Nat.le_of_ble_eq_true rfl) (Nat.le_of_ble_eq_true rfl) ?_
                refine lv_icmp_ge (tgt := 124) gX gB dX5_centre_76 (by decide) (fun h9 => absurd (show (nI pa.length) ≤ (nI i) from h9) (nI_ge hik (by have := hlp.lt; omega))) (fun _ => ?_)
                refine lv_aload_n gX gB dX5_centre_79 rfl (lv_at hl 3 rfl) ?_
                refine gx_get C hW fX5_10 (gx_pl hx fx) rfl dX5_centre_80 ?_
                refine lv_iload gX gB dX5_centre_83 (lv_at hl 0 rfl) ?_
                refine gx_callV (wr := []) (rest := []) C hW sX5_95 (kL_get l G L f P bP pa hlp i hik) (gx_pl hlp.1 (ls_at.head hlp).choose_spec.choose_spec) rfl rfl ⟨(Nat.le_of_ble_eq_true rfl), (Nat.le_of_ble_eq_true rfl)⟩ hl.1 rfl (Nat.le_of_ble_eq_true rfl) dX5_centre_85 ⟨(Nat.le_of_ble_eq_true rfl), (Nat.le_of_ble_eq_true rfl)⟩ (fun v9 u9 H locs hp hW => ?_)
                obtain ⟨rfl, hu⟩ := hp
                rw [hu] at hW
                have hW : gx_W G A s (va_pl L f) H locs := hW
                refine W.eq (g2 := F0 m 88 ls [.ref (pa[i])]) rfl ?_
                refine W.widen (k := 0) (n := 0) (Nat.le_of_ble_eq_true rfl) (Nat.le_of_ble_eq_true rfl) ?_
                refine gx_cast C hW (gx_pl ((hld i hik).1) ((hld i hik).2)) rfl (tq_1 99 (by decide +kernel) rfl) dX5_centre_88 ?_
                refine lv_astore (lv' := [(8, .ref (pa[i])), (7, .int (nI i)), (3, .long (mo_sum dw.2.2.2.1 (fun i => (ps i).2.2.2.1) i)), (5, .long (mo_sum (dw.2.2.2.1 * pl_on dw ax) (fun i => (ps i).2.2.2.1 * pl_on (ps i) ax) i)), (0, .ref x), (1, .int ax), (2, .int p2)]) gX gB dX5_centre_91 hl (by decide) rfl (fun ls hl => ?_)
                refine lv_lload_n gX gB dX5_centre_93 rfl (lv_at hl 2 rfl) ?_
                refine lv_aload gX gB dX5_centre_94 (lv_at hl 0 rfl) ?_
                refine gx_getN C hW fX5_112n (gx_pl ((hld i hik).1) ((hld i hik).2)) rfl dX5_centre_96 ?_
                refine lv_ladd gX gB dX5_centre_99 ?_
                refine lv_lstore_n (lv' := [(3, .long ((mo_sum dw.2.2.2.1 (fun i => (ps i).2.2.2.1) i) + ((ps i).2.2.2.1))), (8, .ref (pa[i])), (7, .int (nI i)), (5, .long (mo_sum (dw.2.2.2.1 * pl_on dw ax) (fun i => (ps i).2.2.2.1 * pl_on (ps i) ax) i)), (0, .ref x), (1, .int ax), (2, .int p2)]) gX gB dX5_centre_100 rfl hl (by decide) rfl (fun ls hl => ?_)
                refine lv_lload gX gB dX5_centre_101 (lv_at hl 3 rfl) ?_
                refine lv_aload gX gB dX5_centre_103 (lv_at hl 1 rfl) ?_
                refine gx_getN C hW fX5_112n (gx_pl ((hld i hik).1) ((hld i hik).2)) rfl dX5_centre_105 ?_
                refine lv_aload gX gB dX5_centre_108 (lv_at hl 1 rfl) ?_
                refine lv_iload_n gX gB dX5_centre_110 rfl (lv_at hl 5 rfl) ?_
                refine gx_callVN (wr := []) (rest := [.long ((ps i).2.2.2.1), .long (mo_sum (dw.2.2.2.1 * pl_on dw ax) (fun i => (ps i).2.2.2.1 * pl_on (ps i) ax) i)]) C hW sX5_119n (kX1_placeOn l G L f pa[i] (ps i).1 (ps i).2.1 (ps i).2.2.1 (ps i).2.2.2.1 (ps i).2.2.2.2.2 (ps i).2.2.2.2.1 ax ((hld i hik).1) ((hld i hik).2)) (gx_pl ((hld i hik).1) ((hld i hik).2)) rfl rfl ⟨(Nat.le_of_ble_eq_true rfl), (Nat.le_of_ble_eq_true rfl)⟩ hl.1 rfl (Nat.le_of_ble_eq_true rfl) dX5_centre_111 ⟨(Nat.le_of_ble_eq_true rfl), (Nat.le_of_ble_eq_true rfl)⟩ (fun v9 u9 H locs hp hW => ?_)
                obtain ⟨rfl, hu⟩ := hp
                rw [hu] at hW
                have hW : gx_W G A s (va_pl L f) H locs := hW
                refine W.eq (g2 := F0 m 114 ls [.long (pl_on (ps i) ax), .long ((ps i).2.2.2.1), .long (mo_sum (dw.2.2.2.1 * pl_on dw ax) (fun i => (ps i).2.2.2.1 * pl_on (ps i) ax) i)]) rfl ?_
                refine W.widen (k := 0) (n := 0) (Nat.le_of_ble_eq_true rfl) (Nat.le_of_ble_eq_true rfl) ?_
                refine lv_lmul gX gB dX5_centre_114 ?_
                refine lv_ladd gX gB dX5_centre_115 ?_
                refine lv_lstore (lv' := [(5, .long ((mo_sum (dw.2.2.2.1 * pl_on dw ax) (fun i => (ps i).2.2.2.1 * pl_on (ps i) ax) i) + (((ps i).2.2.2.1) * (pl_on (ps i) ax)))), (3, .long ((mo_sum dw.2.2.2.1 (fun i => (ps i).2.2.2.1) i) + ((ps i).2.2.2.1))), (8, .ref (pa[i])), (7, .int (nI i)), (0, .ref x), (1, .int ax), (2, .int p2)]) gX gB dX5_centre_116 hl (by decide) rfl (fun ls hl => ?_)
                refine lv_iinc (v := nI (i + 1)) (lv' := [(7, .int (nI (i + 1))), (5, .long ((mo_sum (dw.2.2.2.1 * pl_on dw ax) (fun i => (ps i).2.2.2.1 * pl_on (ps i) ax) i) + (((ps i).2.2.2.1) * (pl_on (ps i) ax)))), (3, .long ((mo_sum dw.2.2.2.1 (fun i => (ps i).2.2.2.1) i) + ((ps i).2.2.2.1))), (8, .ref (pa[i])), (0, .ref x), (1, .int ax), (2, .int p2)]) gX gB dX5_centre_118 hl (k := 3) rfl (by exact nI_1 i) (by decide) rfl (fun ls hl => ?_)
                refine lv_goto (tgt := 67) gX gB dX5_centre_121 (by decide) ?_
                exact ih (i + 1) (by omega) (by omega) _ _ hW ls (lv_sub hl [0, 2, 1, 4, 5, 6] rfl)
              · have hi9 : i = pa.length := by omega
                subst hi9
                have hl : lv_has ls 9 [(7, .int (nI pa.length)), (3, .long (ce_all dw ps pa.length)), (5, .long (ce_sum dw ps ax pa.length)), (0, .ref x), (1, .int ax), (2, .int p2)] := hl
                refine lv_iload gX gB dX5_centre_67 (lv_at hl 0 rfl) ?_
                refine lv_aload_n gX gB dX5_centre_69 rfl (lv_at hl 3 rfl) ?_
                refine gx_get C hW fX5_10 (gx_pl hx fx) rfl dX5_centre_70 ?_
                refine gx_callV (wr := []) (rest := [.int (nI pa.length)]) C hW sX5_48 (kL_size l G L f P bP pa hlp) (gx_pl hlp.1 (ls_at.head hlp).choose_spec.choose_spec) rfl rfl ⟨(Nat.le_of_ble_eq_true rfl), (Nat.le_of_ble_eq_true rfl)⟩ hl.1 rfl (Nat.le_of_ble_eq_true rfl) dX5_centre_73 ⟨(Nat.le_of_ble_eq_true rfl), (Nat.le_of_ble_eq_true rfl)⟩ (fun v9 u9 H locs hp hW => ?_)
                obtain ⟨rfl, hu⟩ := hp
                rw [hu] at hW
                have hW : gx_W G A s (va_pl L f) H locs := hW
                refine W.eq (g2 := F0 m 76 ls [.int (nI pa.length), .int (nI pa.length)]) rfl ?_
                refine W.widen (k := 0) (n := 0) (Nat.le_of_ble_eq_true rfl) (Nat.le_of_ble_eq_true rfl) ?_
                refine lv_icmp_ge (tgt := 124) gX gB dX5_centre_76 (by decide) (fun _ => ?_) (fun h9 => absurd (show (nI pa.length) ≤ (nI pa.length) from nI_le hik (by have := hlp.lt; omega)) h9)
                refine lv_lload_n gX gB dX5_centre_124 rfl (lv_at hl 1 rfl) ?_
                refine lv_lconst (v := 0) gX gB dX5_centre_125 (by decide) ?_
                refine gx_lc_ne (tgt := 140) C dX5_centre_126 dX5_centre_127 (by decide) (fun c126 => ?_) (fun c126 => ?_)
                · refine lv_lload_n gX gB dX5_centre_140 rfl (lv_at hl 1 rfl) ?_
                  refine lv_lload gX gB dX5_centre_141 (lv_at hl 2 rfl) ?_
                  refine gx_mabs C (tq_4 119 (by decide +kernel) rfl) hl.1 (Nat.le_of_ble_eq_true rfl) (Nat.le_of_ble_eq_true rfl) (Nat.le_of_ble_eq_true rfl) (Nat.le_of_ble_eq_true rfl) dX5_centre_143 ?_
                  refine gx_topl (show (if 0 < (ce_sum dw ps ax pa.length) then (ce_sum dw ps ax pa.length) else -(ce_sum dw ps ax pa.length)) = lN sN from hsN) ?_
                  have hg1 : ¬ gN = 0 := fun zz => absurd (show ce_all dw ps pa.length = 0 by rw [hgN, zz]; rfl) c126
                  have hg2 : 1 ≤ Nat.gcd gN sN := Nat.gcd_pos_of_pos_left _ (by omega)
                  refine W.eq (g2 := F0 m 146 ls [.long (lN sN), .long (lN gN)]) (by rw [hgN]) ?_
                  refine gx_callS (wr := []) (rest := []) C hW sX5_131 (kX5_commonDivisor l G (va_pl L f) gN sN (by omega) (by omega) hgs hg2) rfl ⟨(Nat.le_of_ble_eq_true rfl), (Nat.le_of_ble_eq_true rfl)⟩ hl.1 rfl (Nat.le_of_ble_eq_true rfl) dX5_centre_146 ⟨(Nat.le_of_ble_eq_true rfl), (Nat.le_of_ble_eq_true rfl)⟩ (fun v9 u9 H locs hp hW => ?_)
                  obtain ⟨rfl, hu⟩ := hp
                  rw [hu] at hW
                  have hW : gx_W G A s (va_pl L f) H locs := hW
                  refine W.eq (g2 := F0 m 149 ls [.long (lN (Nat.gcd gN sN))]) rfl ?_
                  refine W.widen (k := 0) (n := 0) (Nat.le_of_ble_eq_true rfl) (Nat.le_of_ble_eq_true rfl) ?_
                  refine lv_lstore (lv' := [(7, .long (lN (Nat.gcd gN sN))), (3, .long (ce_all dw ps pa.length)), (5, .long (ce_sum dw ps ax pa.length)), (0, .ref x), (1, .int ax), (2, .int p2)]) gX gB dX5_centre_149 hl (by decide) rfl (fun ls hl => ?_)
                  refine lv_iload_n gX gB dX5_centre_151 rfl (lv_at hl 5 rfl) ?_
                  refine lv_if_ne (tgt := 163) gX gB dX5_centre_152 (by decide) (fun c152 => ?_) (fun c152 => ?_)
                  · refine lv_lload_n gX gB dX5_centre_163 rfl (lv_at hl 1 rfl) ?_
                    refine lv_lload gX gB dX5_centre_164 (lv_at hl 0 rfl) ?_
                    refine lv_ldiv gX gB dX5_centre_166 (fun zz => absurd ((pk_lEQ (a := Nat.gcd gN sN) (b := 0) (by have := Nat.gcd_le_left sN (show 0 < gN by omega); omega) (by decide)).mp zz) (by omega)) ?_
                    refine vx_ret ?_
                    exact gx_lret C hr hW (⟨by simp [ce_val, c152], rfl, by simp [ce_code, c1, Int32.not_lt.mpr c6, c20, Int32.not_lt.mpr c25, c126]⟩) (Nat.le_of_ble_eq_true rfl) (Nat.le_of_ble_eq_true rfl) dX5_centre_167
                  · refine lv_lload gX gB dX5_centre_155 (lv_at hl 2 rfl) ?_
                    refine lv_lload gX gB dX5_centre_157 (lv_at hl 0 rfl) ?_
                    refine lv_ldiv gX gB dX5_centre_159 (fun zz => absurd ((pk_lEQ (a := Nat.gcd gN sN) (b := 0) (by have := Nat.gcd_le_left sN (show 0 < gN by omega); omega) (by decide)).mp zz) (by omega)) ?_
                    refine lv_goto (tgt := 167) gX gB dX5_centre_160 (by decide) ?_
                    refine vx_ret ?_
                    exact gx_lret C hr hW (⟨by simp [ce_val, c152], rfl, by simp [ce_code, c1, Int32.not_lt.mpr c6, c20, Int32.not_lt.mpr c25, c126]⟩) (Nat.le_of_ble_eq_true rfl) (Nat.le_of_ble_eq_true rfl) dX5_centre_167
                · exact gx_throw (text := "no grams") hfl C hno hW gx_thr1 (by decide +kernel) (tq_3 191 (by decide +kernel) rfl) (tq_1 14 (by decide +kernel) rfl) (tr_4 118 (by decide +kernel)) hl.1 dX5_centre_130 dX5_centre_133 dX5_centre_134 dX5_centre_136 dX5_centre_139 (Nat.le_of_ble_eq_true rfl) (Nat.le_of_ble_eq_true rfl) (Nat.le_of_ble_eq_true rfl) (Nat.le_of_ble_eq_true rfl) (⟨rfl, Or.inr ⟨rfl, by simp [ce_code, c1, Int32.not_lt.mpr c6, c20, Int32.not_lt.mpr c25, c126]⟩⟩) (Nat.le_of_ble_eq_true rfl) (Nat.le_of_ble_eq_true rfl)
          exact loop (pa.length + 1) 0 (by omega) (Nat.zero_le _) _ _ hW ls (lv_sub hl [0, 2, 1, 3, 4, 5] rfl)
        · exact gx_throw (text := "a fraction has no such part") hfl C hno hW gx_thr3 (by decide +kernel) (tq_4 84 (by decide +kernel) rfl) (tq_1 24 (by decide +kernel) rfl) (tr_4 113 (by decide +kernel)) hl.1 dX5_centre_28 dX5_centre_31 dX5_centre_32 dX5_centre_34 dX5_centre_37 (Nat.le_of_ble_eq_true rfl) (Nat.le_of_ble_eq_true rfl) (Nat.le_of_ble_eq_true rfl) (Nat.le_of_ble_eq_true rfl) (⟨rfl, Or.inl ⟨rfl, by simp [ce_code, c1, Int32.not_lt.mpr c6, c20, Int32.not_le.mp c25]⟩⟩) (Nat.le_of_ble_eq_true rfl) (Nat.le_of_ble_eq_true rfl)
    · exact gx_throw (text := "no such axis") hfl C hno hW gx_thr3 (by decide +kernel) (tq_4 84 (by decide +kernel) rfl) (tq_1 24 (by decide +kernel) rfl) (tr_4 112 (by decide +kernel)) hl.1 dX5_centre_9 dX5_centre_12 dX5_centre_13 dX5_centre_15 dX5_centre_18 (Nat.le_of_ble_eq_true rfl) (Nat.le_of_ble_eq_true rfl) (Nat.le_of_ble_eq_true rfl) (Nat.le_of_ble_eq_true rfl) (⟨rfl, Or.inl ⟨rfl, by simp [ce_code, c1, Int32.not_le.mp c6]⟩⟩) (Nat.le_of_ble_eq_true rfl) (Nat.le_of_ble_eq_true rfl)
theorem ts_w {w : Int32} (h0 : ¬ w < 0) (h2 : ¬ 2 < w) (h1 : ¬ w = 1) (h3 : ¬ w = 2) : w = 0 := by
  rcases pk_ix w (n := 3) (by decide) with h8 | h8 | ⟨q, h8, rfl⟩
  · exact absurd h8 h0
  · exfalso
    rw [Int32.lt_iff_toInt_lt] at h2
    rw [Int32.le_iff_toInt_le] at h8
    have e1 : (nI 3).toInt = 3 := by decide
    have e2 : (2 : Int32).toInt = 2 := by decide
    omega
  · match q, h8 with
    | 0, _ => rfl
    | 1, _ => exact absurd rfl h1
    | 2, _ => exact absurd rfl h3
set_option maxHeartbeats 4000000 in
set_option maxRecDepth 100000 in
theorem kX5_test (l : Launch) (hfl : l.flags = flags0) (G : gx_T) (L : List Nat) (f : Nat → va_E) (x P F S X N T E : Nat) (dc : Int32) (hx : x ∈ L) (fx : f x = .inr (10, [.ref P, .ref F, .ref S, .ref X, .ref N, .ref T, .ref E, .int dc])) (bP : Option Nat) (pa : List Nat) (ps : Nat → ld_T) (hlp : ls_at G L f P bP pa) (hld : ∀ i (h : i < pa.length), ld_is L f pa[i] (ps i)) (bS : Option Nat) (sa : List Nat) (sd : Nat → sd_T) (hlS : ls_at G L f S bS sa) (hsd : ∀ j (h : j < sa.length), sd_is L f sa[j] (sd j)) (bT : Option Nat) (ta : List Nat) (td : Nat → ld_T × Int32) (hlT : ls_at G L f T bT ta) (htd : ∀ j (h : j < ta.length), tr_is L f ta[j] (td j)) (k w : Int32) : gx_MX l G yX5_test cX5_test 4 (some .int) ({ frames := 7, cells := 2, slots := 12, locals := 113 } : Room) [.ref x, .int k, .int w] (va_pl L f) (fun v u => v = some (.int (ts_val td dc (fun k who => vd_at (fun j => mo_of (sd j).2.1 (sd j).2.2 k who ps pa.length) sa.length) k w)) ∧ u = va_pl L f ∧ ts_code ta.length sa.length k w = 0) (fun Ex u => u = va_pl L f ∧ px3 gx_E3 gx_E2 gx_E1 (ts_code ta.length sa.length k w) Ex) := by
  refine gx_startX (by decide +kernel) (Nat.le_of_ble_eq_true rfl) ?_
  intro p e s m args below meth c A ls C hr hno hW hl
  have gX := C.x
  have gB := C.b
  have hl : lv_has ls 4 [(0, .ref x), (1, .int k), (2, .int w)] := hl
  refine lv_iload_n gX gB dX5_test_0 rfl (lv_at hl 1 rfl) ?_
  refine lv_if_lt (tgt := 15) gX gB dX5_test_1 (by decide) (fun c1 => ?_) (fun c1 => ?_)
  · exact gx_throw (text := "no such test") hfl C hno hW gx_thr3 (by decide +kernel) (tq_4 84 (by decide +kernel) rfl) (tq_1 24 (by decide +kernel) rfl) (tr_4 188 (by decide +kernel)) hl.1 dX5_test_15 dX5_test_18 dX5_test_19 dX5_test_21 dX5_test_24 (Nat.le_of_ble_eq_true rfl) (Nat.le_of_ble_eq_true rfl) (Nat.le_of_ble_eq_true rfl) (Nat.le_of_ble_eq_true rfl) (⟨rfl, Or.inl ⟨rfl, by simp [ts_code, c1]⟩⟩) (Nat.le_of_ble_eq_true rfl) (Nat.le_of_ble_eq_true rfl)
  · refine lv_iload_n gX gB dX5_test_4 rfl (lv_at hl 1 rfl) ?_
    refine lv_aload_n gX gB dX5_test_5 rfl (lv_at hl 0 rfl) ?_
    refine gx_get C hW fX5_38 (gx_pl hx fx) rfl dX5_test_6 ?_
    refine gx_callV (wr := []) (rest := [.int k]) C hW sX5_48 (kL_size l G L f T bT ta hlT) (gx_pl hlT.1 (ls_at.head hlT).choose_spec.choose_spec) rfl rfl ⟨(Nat.le_of_ble_eq_true rfl), (Nat.le_of_ble_eq_true rfl)⟩ hl.1 rfl (Nat.le_of_ble_eq_true rfl) dX5_test_9 ⟨(Nat.le_of_ble_eq_true rfl), (Nat.le_of_ble_eq_true rfl)⟩ (fun v9 u9 H locs hp hW => ?_)
    obtain ⟨rfl, hu⟩ := hp
    rw [hu] at hW
    have hW : gx_W G A s (va_pl L f) H locs := hW
    refine W.eq (g2 := F0 m 12 ls [.int (nI ta.length), .int k]) rfl ?_
    refine W.widen (k := 0) (n := 0) (Nat.le_of_ble_eq_true rfl) (Nat.le_of_ble_eq_true rfl) ?_
    refine lv_icmp_lt (tgt := 25) gX gB dX5_test_12 (by decide) (fun c12 => ?_) (fun c12 => ?_)
    · refine lv_iload_n gX gB dX5_test_25 rfl (lv_at hl 2 rfl) ?_
      refine lv_if_lt (tgt := 34) gX gB dX5_test_26 (by decide) (fun c26 => ?_) (fun c26 => ?_)
      · exact gx_throw (text := "a test tells no such thing") hfl C hno hW gx_thr2 (by decide +kernel) (tq_3 215 (by decide +kernel) rfl) (tq_1 15 (by decide +kernel) rfl) (tr_4 189 (by decide +kernel)) hl.1 dX5_test_34 dX5_test_37 dX5_test_38 dX5_test_40 dX5_test_43 (Nat.le_of_ble_eq_true rfl) (Nat.le_of_ble_eq_true rfl) (Nat.le_of_ble_eq_true rfl) (Nat.le_of_ble_eq_true rfl) (⟨rfl, Or.inr (Or.inl ⟨rfl, by simp [ts_code, c1, c12, c26]⟩)⟩) (Nat.le_of_ble_eq_true rfl) (Nat.le_of_ble_eq_true rfl)
      · refine lv_iload_n gX gB dX5_test_29 rfl (lv_at hl 2 rfl) ?_
        refine lv_iconst (v := 2) gX gB dX5_test_30 (by decide) ?_
        refine lv_icmp_le (tgt := 44) gX gB dX5_test_31 (by decide) (fun c31 => ?_) (fun c31 => ?_)
        · refine lv_aload_n gX gB dX5_test_44 rfl (lv_at hl 0 rfl) ?_
          refine gx_get C hW fX5_38 (gx_pl hx fx) rfl dX5_test_45 ?_
          refine lv_iload_n gX gB dX5_test_48 rfl (lv_at hl 1 rfl) ?_
          obtain ⟨j, hj, rfl⟩ := nI_cases k (by have := hlT.lt; omega) (c1) c12
          have hj31 : j < 2 ^ 31 := by have := hlT.lt; omega
          obtain ⟨tw, ht1, ft1, hw1⟩ := htd j hj
          refine gx_callV (wr := []) (rest := []) C hW sX5_95 (kL_get l G L f T bT ta hlT j hj) (gx_pl hlT.1 (ls_at.head hlT).choose_spec.choose_spec) rfl rfl ⟨(Nat.le_of_ble_eq_true rfl), (Nat.le_of_ble_eq_true rfl)⟩ hl.1 rfl (Nat.le_of_ble_eq_true rfl) dX5_test_49 ⟨(Nat.le_of_ble_eq_true rfl), (Nat.le_of_ble_eq_true rfl)⟩ (fun v9 u9 H locs hp hW => ?_)
          obtain ⟨rfl, hu⟩ := hp
          rw [hu] at hW
          have hW : gx_W G A s (va_pl L f) H locs := hW
          refine W.eq (g2 := F0 m 52 ls [.ref (ta[j])]) rfl ?_
          refine W.widen (k := 0) (n := 0) (Nat.le_of_ble_eq_true rfl) (Nat.le_of_ble_eq_true rfl) ?_
          refine gx_cast C hW (gx_pl ht1 ft1) rfl (tq_4 190 (by decide +kernel) rfl) dX5_test_52 ?_
          refine lv_astore_n (lv' := [(3, .ref (ta[j])), (0, .ref x), (1, .int (nI j)), (2, .int w)]) gX gB dX5_test_55 rfl hl (by decide) rfl (fun ls hl => ?_)
          refine lv_iload_n gX gB dX5_test_56 rfl (lv_at hl 3 rfl) ?_
          refine lv_iconst (v := 1) gX gB dX5_test_57 (by decide) ?_
          refine lv_icmp_ne (tgt := 70) gX gB dX5_test_58 (by decide) (fun c58 => ?_) (fun c58 => ?_)
          · refine lv_iload_n gX gB dX5_test_70 rfl (lv_at hl 3 rfl) ?_
            refine lv_iconst (v := 2) gX gB dX5_test_71 (by decide) ?_
            refine lv_icmp_ne (tgt := 81) gX gB dX5_test_72 (by decide) (fun c72 => ?_) (fun c72 => ?_)
            · refine lv_aload_n gX gB dX5_test_81 rfl (lv_at hl 1 rfl) ?_
              have hw9 : w = 0 := ts_w (c26) (Int32.not_lt.mpr c31) (c58) (c72)
              refine gx_callVX (wr := []) (rest := []) C hW sX5_135 (kX5_needPolygon l hfl G L f x P F S X N T E dc hx fx bS sa hlS) (gx_pl hx fx) rfl rfl ⟨(Nat.le_of_ble_eq_true rfl), (Nat.le_of_ble_eq_true rfl)⟩ hl.1 rfl (Nat.le_of_ble_eq_true rfl) dX5_test_82 ⟨(Nat.le_of_ble_eq_true rfl), (Nat.le_of_ble_eq_true rfl)⟩ (fun E ce q9 u9 H locs hpx hW hce hcv hcl => gx_out C hno hW hce hcv hcl (⟨hpx.2.1, Or.inr (Or.inr ⟨hpx.1, by simp [ts_code, hpx.2.2, hw9, c1, c12]⟩)⟩) (Nat.le_of_ble_eq_true rfl) (Nat.le_of_ble_eq_true rfl)) (fun v9 u9 H locs hp hW => ?_)
              obtain ⟨rfl, hu, hns⟩ := hp
              rw [hu] at hW
              have hW : gx_W G A s (va_pl L f) H locs := hW
              refine W.eq (g2 := F0 m 85 ls []) rfl ?_
              refine W.widen (k := 1) (n := 6) (Nat.le_of_ble_eq_true rfl) (Nat.le_of_ble_eq_true rfl) ?_
              refine lv_aload_n gX gB dX5_test_85 rfl (lv_at hl 1 rfl) ?_
              refine lv_aload_n gX gB dX5_test_86 rfl (lv_at hl 1 rfl) ?_
              refine lv_aload_n gX gB dX5_test_87 rfl (lv_at hl 0 rfl) ?_
              refine gx_callV (wr := []) (rest := [.ref x]) C hW sX5_194 (kX5_openDrawers l G L f x P F S X N T E dc hx fx ta[j] tw (td j).2 ht1 ft1) (gx_pl hx fx) rfl rfl ⟨(Nat.le_of_ble_eq_true rfl), (Nat.le_of_ble_eq_true rfl)⟩ hl.1 rfl (Nat.le_of_ble_eq_true rfl) dX5_test_88 ⟨(Nat.le_of_ble_eq_true rfl), (Nat.le_of_ble_eq_true rfl)⟩ (fun v9 u9 H locs hp hW => ?_)
              obtain ⟨rfl, hu⟩ := hp
              rw [hu] at hW
              have hW : gx_W G A s (va_pl L f) H locs := hW
              refine W.eq (g2 := F0 m 91 ls [.int (op_n dc (td j).2), .ref x]) rfl ?_
              refine W.widen (k := 1) (n := 6) (Nat.le_of_ble_eq_true rfl) (Nat.le_of_ble_eq_true rfl) ?_
              refine lv_aload_n gX gB dX5_test_91 rfl (lv_at hl 0 rfl) ?_
              refine gx_getN C hW fX5_191n (gx_pl ht1 ft1) rfl dX5_test_92 ?_
              refine gx_callV (wr := []) (rest := []) C hW sX5_151 (kX5_verdict l G L f x P F S X N T E dc hx fx bP pa ps hlp hld bS sa sd hlS hsd tw (td j).1 hw1 (op_n dc (td j).2)) (gx_pl hx fx) rfl rfl ⟨(Nat.le_of_ble_eq_true rfl), (Nat.le_of_ble_eq_true rfl)⟩ hl.1 rfl (Nat.le_of_ble_eq_true rfl) dX5_test_95 ⟨(Nat.le_of_ble_eq_true rfl), (Nat.le_of_ble_eq_true rfl)⟩ (fun v9 u9 H locs hp hW => ?_)
              obtain ⟨rfl, hu⟩ := hp
              rw [hu] at hW
              have hW : gx_W G A s (va_pl L f) H locs := hW
              refine W.eq (g2 := F0 m 98 ls [.int (nI (vd_at (fun j_1 => mo_of (sd j_1).2.1 (sd j_1).2.2 (op_n dc (td j).2) (td j).1 ps pa.length) sa.length))]) rfl ?_
              refine W.widen (k := 1) (n := 6) (Nat.le_of_ble_eq_true rfl) (Nat.le_of_ble_eq_true rfl) ?_
              refine vx_ret ?_
              exact gx_iret C hr hW (⟨by simp [ts_val, nI_clamp hj31, hw9, c58, c72], rfl, by simp [ts_code, hw9, c1, c12, c26, Int32.not_lt.mpr c31, c58, c72, hns]⟩) (Nat.le_of_ble_eq_true rfl) (Nat.le_of_ble_eq_true rfl) dX5_test_98
            · refine lv_aload_n gX gB dX5_test_75 rfl (lv_at hl 1 rfl) ?_
              refine lv_aload_n gX gB dX5_test_76 rfl (lv_at hl 0 rfl) ?_
              refine gx_callV (wr := []) (rest := []) C hW sX5_194 (kX5_openDrawers l G L f x P F S X N T E dc hx fx ta[j] tw (td j).2 ht1 ft1) (gx_pl hx fx) rfl rfl ⟨(Nat.le_of_ble_eq_true rfl), (Nat.le_of_ble_eq_true rfl)⟩ hl.1 rfl (Nat.le_of_ble_eq_true rfl) dX5_test_77 ⟨(Nat.le_of_ble_eq_true rfl), (Nat.le_of_ble_eq_true rfl)⟩ (fun v9 u9 H locs hp hW => ?_)
              obtain ⟨rfl, hu⟩ := hp
              rw [hu] at hW
              have hW : gx_W G A s (va_pl L f) H locs := hW
              refine W.eq (g2 := F0 m 80 ls [.int (op_n dc (td j).2)]) rfl ?_
              refine W.widen (k := 0) (n := 0) (Nat.le_of_ble_eq_true rfl) (Nat.le_of_ble_eq_true rfl) ?_
              refine vx_ret ?_
              exact gx_iret C hr hW (⟨by simp [ts_val, nI_clamp hj31, c58, c72], rfl, by simp [ts_code, c1, c12, c26, Int32.not_lt.mpr c31, c58, c72]⟩) (Nat.le_of_ble_eq_true rfl) (Nat.le_of_ble_eq_true rfl) dX5_test_80
          · refine lv_aload_n gX gB dX5_test_61 rfl (lv_at hl 0 rfl) ?_
            refine gx_getN C hW fX5_191n (gx_pl ht1 ft1) rfl dX5_test_62 ?_
            refine gx_getN C hW fX5_112n (gx_pl hw1.1 hw1.2) rfl dX5_test_65 ?_
            refine lv_l2i gX gB dX5_test_68 rfl ?_
            refine vx_ret ?_
            exact gx_iret C hr hW (⟨by simp [ts_val, nI_clamp hj31, c58], rfl, by simp [ts_code, c1, c12, c26, Int32.not_lt.mpr c31, c58]⟩) (Nat.le_of_ble_eq_true rfl) (Nat.le_of_ble_eq_true rfl) dX5_test_69
        · exact gx_throw (text := "a test tells no such thing") hfl C hno hW gx_thr2 (by decide +kernel) (tq_3 215 (by decide +kernel) rfl) (tq_1 15 (by decide +kernel) rfl) (tr_4 189 (by decide +kernel)) hl.1 dX5_test_34 dX5_test_37 dX5_test_38 dX5_test_40 dX5_test_43 (Nat.le_of_ble_eq_true rfl) (Nat.le_of_ble_eq_true rfl) (Nat.le_of_ble_eq_true rfl) (Nat.le_of_ble_eq_true rfl) (⟨rfl, Or.inr (Or.inl ⟨rfl, by simp [ts_code, c1, c12, c26, Int32.not_le.mp c31]⟩)⟩) (Nat.le_of_ble_eq_true rfl) (Nat.le_of_ble_eq_true rfl)
    · exact gx_throw (text := "no such test") hfl C hno hW gx_thr3 (by decide +kernel) (tq_4 84 (by decide +kernel) rfl) (tq_1 24 (by decide +kernel) rfl) (tr_4 188 (by decide +kernel)) hl.1 dX5_test_15 dX5_test_18 dX5_test_19 dX5_test_21 dX5_test_24 (Nat.le_of_ble_eq_true rfl) (Nat.le_of_ble_eq_true rfl) (Nat.le_of_ble_eq_true rfl) (Nat.le_of_ble_eq_true rfl) (⟨rfl, Or.inl ⟨rfl, by simp [ts_code, c1, c12]⟩⟩) (Nat.le_of_ble_eq_true rfl) (Nat.le_of_ble_eq_true rfl)
set_option maxHeartbeats 4000000 in
set_option maxRecDepth 100000 in
theorem kX5_anchor (l : Launch) (hfl : l.flags = flags0) (G : gx_T) (L : List Nat) (f : Nat → va_E) (x P F S X N T E : Nat) (dc : Int32) (hx : x ∈ L) (fx : f x = .inr (10, [.ref P, .ref F, .ref S, .ref X, .ref N, .ref T, .ref E, .int dc])) (bP : Option Nat) (pa : List Nat) (ps : Nat → ld_T) (hlp : ls_at G L f P bP pa) (hld : ∀ i (h : i < pa.length), ld_is L f pa[i] (ps i)) (bS : Option Nat) (sa : List Nat) (sd : Nat → sd_T) (hlS : ls_at G L f S bS sa) (hsd : ∀ j (h : j < sa.length), sd_is L f sa[j] (sd j)) (bT : Option Nat) (ta : List Nat) (td : Nat → ld_T × Int32) (hlT : ls_at G L f T bT ta) (htd : ∀ j (h : j < ta.length), tr_is L f ta[j] (td j)) : gx_MX l G yX5_anchor cX5_anchor 3 (some .boolean) ({ frames := 7, cells := 1, slots := 6, locals := 113 } : Room) [.ref x] (va_pl L f) (fun v u => v = some (.int (an_at (fun j => vd_at (fun j_1 => mo_of (sd j_1).2.1 (sd j_1).2.2 (op_n dc (td j).2) (td j).1 ps pa.length) sa.length) ta.length)) ∧ u = va_pl L f ∧ ms_code sa.length = 0) (fun Ex u => u = va_pl L f ∧ px1 gx_E1 (ms_code sa.length) Ex) := by
  refine gx_startX (by decide +kernel) (Nat.le_of_ble_eq_true rfl) ?_
  intro p e s m args below meth c A ls C hr hno hW hl
  have gX := C.x
  have gB := C.b
  have hl : lv_has ls 3 [(0, .ref x)] := hl
  refine lv_aload_n gX gB dX5_anchor_0 rfl (lv_at hl 0 rfl) ?_
  refine gx_callVX (wr := []) (rest := []) C hW sX5_135 (kX5_needPolygon l hfl G L f x P F S X N T E dc hx fx bS sa hlS) (gx_pl hx fx) rfl rfl ⟨(Nat.le_of_ble_eq_true rfl), (Nat.le_of_ble_eq_true rfl)⟩ hl.1 rfl (Nat.le_of_ble_eq_true rfl) dX5_anchor_1 ⟨(Nat.le_of_ble_eq_true rfl), (Nat.le_of_ble_eq_true rfl)⟩ (fun E ce q9 u9 H locs hpx hW hce hcv hcl => gx_out C hno hW hce hcv hcl (⟨hpx.2.1, hpx.1, by simp [ms_code, hpx.2.2]⟩) (Nat.le_of_ble_eq_true rfl) (Nat.le_of_ble_eq_true rfl)) (fun v9 u9 H locs hp hW => ?_)
  obtain ⟨rfl, hu, hns⟩ := hp
  rw [hu] at hW
  have hW : gx_W G A s (va_pl L f) H locs := hW
  refine W.eq (g2 := F0 m 4 ls []) rfl ?_
  refine W.widen (k := 1) (n := 6) (Nat.le_of_ble_eq_true rfl) (Nat.le_of_ble_eq_true rfl) ?_
  refine lv_iconst (v := 0) gX gB dX5_anchor_4 (by decide) ?_
  refine lv_istore_n (lv' := [(1, .int 0), (0, .ref x)]) gX gB dX5_anchor_5 rfl hl (by decide) rfl (fun ls hl => ?_)
  have hl : lv_has ls 3 [(1, .int (nI 0)), (0, .ref x)] := hl
  have loop : ∀ (r : Nat) (j : Nat), (ta.length - j < r) → (j ≤ ta.length) → (∀ q, q < j → (fun j => vd_at (fun j_1 => mo_of (sd j_1).2.1 (sd j_1).2.2 (op_n dc (td j).2) (td j).1 ps pa.length) sa.length) q = 0) → ∀ (H : Heap) (locs : List Loc), gx_W G A s (va_pl L f) H locs → ∀ ls : Array Slot, lv_has ls 3 [(1, .int (nI j)), (0, .ref x)] → W p l e ({ frames := 7, cells := 1, slots := 6, locals := 113 } : Room) s m args below meth c H locs 1 6 (vx_MQ below (gx_Q G A (fun v u => v = some (.int (an_at (fun j => vd_at (fun j_1 => mo_of (sd j_1).2.1 (sd j_1).2.2 (op_n dc (td j).2) (td j).1 ps pa.length) sa.length) ta.length)) ∧ u = va_pl L f ∧ ms_code sa.length = 0)) (gx_X G A (fun Ex u => u = va_pl L f ∧ px1 gx_E1 (ms_code sa.length) Ex)) args s (({ frames := 7, cells := 1, slots := 6, locals := 113 } : Room)).cells (({ frames := 7, cells := 1, slots := 6, locals := 113 } : Room)).slots A) (F0 m 6 ls []) := by
    intro r
    induction r with
    | zero => intro j hfu hj hall H locs hW ls hl; exact absurd hfu (Nat.not_lt_zero _)
    | succ r ih =>
      intro j hfu hj hall H locs hW ls hl
      rcases Nat.lt_or_ge j ta.length with hjk | hjk
      · refine lv_iload_n gX gB dX5_anchor_6 rfl (lv_at hl 0 rfl) ?_
        refine lv_aload_n gX gB dX5_anchor_7 rfl (lv_at hl 1 rfl) ?_
        refine gx_get C hW fX5_38 (gx_pl hx fx) rfl dX5_anchor_8 ?_
        refine gx_callV (wr := []) (rest := [.int (nI j)]) C hW sX5_48 (kL_size l G L f T bT ta hlT) (gx_pl hlT.1 (ls_at.head hlT).choose_spec.choose_spec) rfl rfl ⟨(Nat.le_of_ble_eq_true rfl), (Nat.le_of_ble_eq_true rfl)⟩ hl.1 rfl (Nat.le_of_ble_eq_true rfl) dX5_anchor_11 ⟨(Nat.le_of_ble_eq_true rfl), (Nat.le_of_ble_eq_true rfl)⟩ (fun v9 u9 H locs hp hW => ?_)
        obtain ⟨rfl, hu⟩ := hp
        rw [hu] at hW
        have hW : gx_W G A s (va_pl L f) H locs := hW
        refine W.eq (g2 := F0 m 14 ls [.int (nI ta.length), .int (nI j)]) rfl ?_
        refine W.widen (k := 1) (n := 6) (Nat.le_of_ble_eq_true rfl) (Nat.le_of_ble_eq_true rfl) ?_
        refine lv_icmp_ge (tgt := 53) gX gB dX5_anchor_14 (by decide) (fun h9 => absurd (show (nI ta.length) ≤ (nI j) from h9) (nI_ge hjk (by have := hlT.lt; omega))) (fun _ => ?_)
        refine lv_aload_n gX gB dX5_anchor_17 rfl (lv_at hl 1 rfl) ?_
        refine gx_get C hW fX5_38 (gx_pl hx fx) rfl dX5_anchor_18 ?_
        refine lv_iload_n gX gB dX5_anchor_21 rfl (lv_at hl 0 rfl) ?_
        obtain ⟨tw, ht1, ft1, hw1⟩ := htd j hjk
        refine gx_callV (wr := []) (rest := []) C hW sX5_95 (kL_get l G L f T bT ta hlT j hjk) (gx_pl hlT.1 (ls_at.head hlT).choose_spec.choose_spec) rfl rfl ⟨(Nat.le_of_ble_eq_true rfl), (Nat.le_of_ble_eq_true rfl)⟩ hl.1 rfl (Nat.le_of_ble_eq_true rfl) dX5_anchor_22 ⟨(Nat.le_of_ble_eq_true rfl), (Nat.le_of_ble_eq_true rfl)⟩ (fun v9 u9 H locs hp hW => ?_)
        obtain ⟨rfl, hu⟩ := hp
        rw [hu] at hW
        have hW : gx_W G A s (va_pl L f) H locs := hW
        refine W.eq (g2 := F0 m 25 ls [.ref (ta[j])]) rfl ?_
        refine W.widen (k := 1) (n := 6) (Nat.le_of_ble_eq_true rfl) (Nat.le_of_ble_eq_true rfl) ?_
        refine gx_cast C hW (gx_pl ht1 ft1) rfl (tq_4 190 (by decide +kernel) rfl) dX5_anchor_25 ?_
        refine lv_astore_n (lv' := [(2, .ref (ta[j])), (1, .int (nI j)), (0, .ref x)]) gX gB dX5_anchor_28 rfl hl (by decide) rfl (fun ls hl => ?_)
        refine lv_aload_n gX gB dX5_anchor_29 rfl (lv_at hl 2 rfl) ?_
        refine lv_aload_n gX gB dX5_anchor_30 rfl (lv_at hl 2 rfl) ?_
        refine lv_aload_n gX gB dX5_anchor_31 rfl (lv_at hl 0 rfl) ?_
        refine gx_callV (wr := []) (rest := [.ref x]) C hW sX5_194 (kX5_openDrawers l G L f x P F S X N T E dc hx fx ta[j] tw (td j).2 ht1 ft1) (gx_pl hx fx) rfl rfl ⟨(Nat.le_of_ble_eq_true rfl), (Nat.le_of_ble_eq_true rfl)⟩ hl.1 rfl (Nat.le_of_ble_eq_true rfl) dX5_anchor_32 ⟨(Nat.le_of_ble_eq_true rfl), (Nat.le_of_ble_eq_true rfl)⟩ (fun v9 u9 H locs hp hW => ?_)
        obtain ⟨rfl, hu⟩ := hp
        rw [hu] at hW
        have hW : gx_W G A s (va_pl L f) H locs := hW
        refine W.eq (g2 := F0 m 35 ls [.int (op_n dc (td j).2), .ref x]) rfl ?_
        refine W.widen (k := 1) (n := 6) (Nat.le_of_ble_eq_true rfl) (Nat.le_of_ble_eq_true rfl) ?_
        refine lv_aload_n gX gB dX5_anchor_35 rfl (lv_at hl 0 rfl) ?_
        refine gx_getN C hW fX5_191n (gx_pl ht1 ft1) rfl dX5_anchor_36 ?_
        refine gx_callV (wr := []) (rest := []) C hW sX5_151 (kX5_verdict l G L f x P F S X N T E dc hx fx bP pa ps hlp hld bS sa sd hlS hsd tw (td j).1 hw1 (op_n dc (td j).2)) (gx_pl hx fx) rfl rfl ⟨(Nat.le_of_ble_eq_true rfl), (Nat.le_of_ble_eq_true rfl)⟩ hl.1 rfl (Nat.le_of_ble_eq_true rfl) dX5_anchor_39 ⟨(Nat.le_of_ble_eq_true rfl), (Nat.le_of_ble_eq_true rfl)⟩ (fun v9 u9 H locs hp hW => ?_)
        obtain ⟨rfl, hu⟩ := hp
        rw [hu] at hW
        have hW : gx_W G A s (va_pl L f) H locs := hW
        refine W.eq (g2 := F0 m 42 ls [.int (nI (vd_at (fun j_1 => mo_of (sd j_1).2.1 (sd j_1).2.2 (op_n dc (td j).2) (td j).1 ps pa.length) sa.length))]) rfl ?_
        refine W.widen (k := 1) (n := 6) (Nat.le_of_ble_eq_true rfl) (Nat.le_of_ble_eq_true rfl) ?_
        refine lv_if_eq (tgt := 47) gX gB dX5_anchor_42 (by decide) (fun c42 => ?_) (fun c42 => ?_)
        · refine lv_iinc (v := nI (j + 1)) (lv' := [(1, .int (nI (j + 1))), (2, .ref (ta[j])), (0, .ref x)]) gX gB dX5_anchor_47 hl (k := 1) rfl (by exact nI_1 j) (by decide) rfl (fun ls hl => ?_)
          refine lv_goto (tgt := 6) gX gB dX5_anchor_50 (by decide) ?_
          exact ih (j + 1) (by omega) (by omega) (fun q hq => by
            rcases Nat.lt_or_ge q j with h8 | h8
            · exact hall q h8
            · rw [show q = j by omega]
              show vd_at (fun j_1 => mo_of (sd j_1).2.1 (sd j_1).2.2 (op_n dc (td j).2) (td j).1 ps pa.length) sa.length = 0
              exact (nI_eq (b := 0) (by have := vd_le (fun j_1 => mo_of (sd j_1).2.1 (sd j_1).2.2 (op_n dc (td j).2) (td j).1 ps pa.length) sa.length; have := hlS.lt; omega) (by decide)).mp c42) _ _ hW ls (lv_sub hl [0, 2] rfl)
        · refine lv_iconst (v := 1) gX gB dX5_anchor_45 (by decide) ?_
          refine vx_ret ?_
          exact gx_zret C hr (by decide) hW (⟨by rw [an_no hjk (fun zz => c42 (by rw [zz]; rfl))], rfl, by simp [ms_code, hns]⟩) (Nat.le_of_ble_eq_true rfl) (Nat.le_of_ble_eq_true rfl) dX5_anchor_46
      · refine lv_iload_n gX gB dX5_anchor_6 rfl (lv_at hl 0 rfl) ?_
        refine lv_aload_n gX gB dX5_anchor_7 rfl (lv_at hl 1 rfl) ?_
        refine gx_get C hW fX5_38 (gx_pl hx fx) rfl dX5_anchor_8 ?_
        refine gx_callV (wr := []) (rest := [.int (nI j)]) C hW sX5_48 (kL_size l G L f T bT ta hlT) (gx_pl hlT.1 (ls_at.head hlT).choose_spec.choose_spec) rfl rfl ⟨(Nat.le_of_ble_eq_true rfl), (Nat.le_of_ble_eq_true rfl)⟩ hl.1 rfl (Nat.le_of_ble_eq_true rfl) dX5_anchor_11 ⟨(Nat.le_of_ble_eq_true rfl), (Nat.le_of_ble_eq_true rfl)⟩ (fun v9 u9 H locs hp hW => ?_)
        obtain ⟨rfl, hu⟩ := hp
        rw [hu] at hW
        have hW : gx_W G A s (va_pl L f) H locs := hW
        refine W.eq (g2 := F0 m 14 ls [.int (nI ta.length), .int (nI j)]) rfl ?_
        refine W.widen (k := 1) (n := 6) (Nat.le_of_ble_eq_true rfl) (Nat.le_of_ble_eq_true rfl) ?_
        refine lv_icmp_ge (tgt := 53) gX gB dX5_anchor_14 (by decide) (fun _ => ?_) (fun h9 => absurd (show (nI ta.length) ≤ (nI j) from nI_le hjk (by have := hlT.lt; omega)) h9)
        refine lv_iconst (v := 0) gX gB dX5_anchor_53 (by decide) ?_
        refine vx_ret ?_
        exact gx_zret C hr (by decide) hW (⟨by rw [an_yes (fun q hq => hall q (by omega))], rfl, by simp [ms_code, hns]⟩) (Nat.le_of_ble_eq_true rfl) (Nat.le_of_ble_eq_true rfl) dX5_anchor_54
  exact loop (ta.length + 1) 0 (by omega) (Nat.zero_le _) (fun q hq => absurd hq (Nat.not_lt_zero _)) _ _ hW ls (lv_sub hl [0, 1] rfl)
end
