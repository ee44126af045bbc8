section
-- ===== PART A: goes FIRST, ahead of the names: the tables' words, and 'selects' of the private methods out of them =====
/-- a private method of a class that the tables say can be made, by its rows of tables_1 -/
def lw_okq (q : MethodName × Nat) : Prop := (q.1.cls ≠ "java/lang/invoke/MethodHandle" ∧ q.1.cls ≠ "java/lang/invoke/VarHandle") ∧ Cond.instantiable q.1.cls q.2 ∈ tables_1 ∧ Cond.privateMethod q.1 ∈ tables_1 ∧ Cond.instanceMethod q.1 ∈ tables_1
theorem lw_p0 : lw_okq (⟨"StyledRuns", "refused", "(I)I"⟩, 12) := ⟨⟨by decide +kernel, by decide +kernel⟩, List.mem_of_getElem? (i := 17) (by decide +kernel), List.mem_of_getElem? (i := 355) (by decide +kernel), List.mem_of_getElem? (i := 356) (by decide +kernel)⟩
theorem lw_p1 : lw_okq (⟨"StyledRuns", "whyNoRoomForTape", "()I"⟩, 12) := ⟨⟨by decide +kernel, by decide +kernel⟩, List.mem_of_getElem? (i := 17) (by decide +kernel), List.mem_of_getElem? (i := 359) (by decide +kernel), List.mem_of_getElem? (i := 360) (by decide +kernel)⟩
theorem lw_p2 : lw_okq (⟨"StyledRuns", "begin", "(IIII)V"⟩, 12) := ⟨⟨by decide +kernel, by decide +kernel⟩, List.mem_of_getElem? (i := 17) (by decide +kernel), List.mem_of_getElem? (i := 363) (by decide +kernel), List.mem_of_getElem? (i := 364) (by decide +kernel)⟩
theorem lw_p3 : lw_okq (⟨"StyledRuns", "granted", "(I)I"⟩, 12) := ⟨⟨by decide +kernel, by decide +kernel⟩, List.mem_of_getElem? (i := 17) (by decide +kernel), List.mem_of_getElem? (i := 406) (by decide +kernel), List.mem_of_getElem? (i := 407) (by decide +kernel)⟩
theorem lw_p4 : lw_okq (⟨"StyledRuns", "looksNow", "()LStyledRuns$Looks;"⟩, 12) := ⟨⟨by decide +kernel, by decide +kernel⟩, List.mem_of_getElem? (i := 17) (by decide +kernel), List.mem_of_getElem? (i := 531) (by decide +kernel), List.mem_of_getElem? (i := 532) (by decide +kernel)⟩
theorem lw_p5 : lw_okq (⟨"StyledRuns$Looks", "brush", "(LStyledRuns$Span;)V"⟩, 2) := ⟨⟨by decide +kernel, by decide +kernel⟩, List.mem_of_getElem? (i := 210) (by decide +kernel), List.mem_of_getElem? (i := 540) (by decide +kernel), List.mem_of_getElem? (i := 541) (by decide +kernel)⟩
theorem lw_p6 : lw_okq (⟨"StyledRuns$Reader", "afterMark", "(LStyledRuns$Tape;I)I"⟩, 7) := ⟨⟨by decide +kernel, by decide +kernel⟩, List.mem_of_getElem? (i := 226) (by decide +kernel), List.mem_of_getElem? (i := 568) (by decide +kernel), List.mem_of_getElem? (i := 569) (by decide +kernel)⟩
theorem lw_p7 : lw_okq (⟨"StyledRuns$Reader", "closeLatest", "(I)Z"⟩, 7) := ⟨⟨by decide +kernel, by decide +kernel⟩, List.mem_of_getElem? (i := 226) (by decide +kernel), List.mem_of_getElem? (i := 577) (by decide +kernel), List.mem_of_getElem? (i := 578) (by decide +kernel)⟩
theorem lw_p8 : lw_okq (⟨"StyledRuns$Reader", "openMark", "(II)Z"⟩, 7) := ⟨⟨by decide +kernel, by decide +kernel⟩, List.mem_of_getElem? (i := 226) (by decide +kernel), List.mem_of_getElem? (i := 581) (by decide +kernel), List.mem_of_getElem? (i := 582) (by decide +kernel)⟩
theorem lw_p9 : lw_okq (⟨"StyledRuns$Reader", "afterLetter", "(LStyledRuns$Tape;I)I"⟩, 7) := ⟨⟨by decide +kernel, by decide +kernel⟩, List.mem_of_getElem? (i := 226) (by decide +kernel), List.mem_of_getElem? (i := 588) (by decide +kernel), List.mem_of_getElem? (i := 589) (by decide +kernel)⟩
theorem lw_p10 : lw_okq (⟨"StyledRuns$Writer", "firstUnfit", "(I)I"⟩, 5) := ⟨⟨by decide +kernel, by decide +kernel⟩, List.mem_of_getElem? (i := 258) (by decide +kernel), List.mem_of_getElem? (i := 613) (by decide +kernel), List.mem_of_getElem? (i := 614) (by decide +kernel)⟩
theorem lw_p11 : lw_okq (⟨"StyledRuns$Writer", "closeDownTo", "(I)V"⟩, 5) := ⟨⟨by decide +kernel, by decide +kernel⟩, List.mem_of_getElem? (i := 258) (by decide +kernel), List.mem_of_getElem? (i := 620) (by decide +kernel), List.mem_of_getElem? (i := 621) (by decide +kernel)⟩
theorem lw_p12 : lw_okq (⟨"StyledRuns$Writer", "add", "(I)V"⟩, 5) := ⟨⟨by decide +kernel, by decide +kernel⟩, List.mem_of_getElem? (i := 258) (by decide +kernel), List.mem_of_getElem? (i := 624) (by decide +kernel), List.mem_of_getElem? (i := 625) (by decide +kernel)⟩
theorem lw_p13 : lw_okq (⟨"StyledRuns$Writer", "openLacking", "(I)V"⟩, 5) := ⟨⟨by decide +kernel, by decide +kernel⟩, List.mem_of_getElem? (i := 258) (by decide +kernel), List.mem_of_getElem? (i := 628) (by decide +kernel), List.mem_of_getElem? (i := 629) (by decide +kernel)⟩
theorem lw_p14 : lw_okq (⟨"StyledRuns$Writer", "isOpen", "(I)Z"⟩, 5) := ⟨⟨by decide +kernel, by decide +kernel⟩, List.mem_of_getElem? (i := 258) (by decide +kernel), List.mem_of_getElem? (i := 632) (by decide +kernel), List.mem_of_getElem? (i := 633) (by decide +kernel)⟩
theorem lw_p15 : lw_okq (⟨"StyledRuns$History", "latest", "(I)I"⟩, 4) := ⟨⟨by decide +kernel, by decide +kernel⟩, List.mem_of_getElem? (i := 166) (by decide +kernel), List.mem_of_getElem? (i := 650) (by decide +kernel), List.mem_of_getElem? (i := 651) (by decide +kernel)⟩
def lw_privs_1 : List (MethodName × Nat) := [(⟨"StyledRuns", "refused", "(I)I"⟩, 12), (⟨"StyledRuns", "whyNoRoomForTape", "()I"⟩, 12), (⟨"StyledRuns", "begin", "(IIII)V"⟩, 12), (⟨"StyledRuns", "granted", "(I)I"⟩, 12), (⟨"StyledRuns", "looksNow", "()LStyledRuns$Looks;"⟩, 12), (⟨"StyledRuns$Looks", "brush", "(LStyledRuns$Span;)V"⟩, 2), (⟨"StyledRuns$Reader", "afterMark", "(LStyledRuns$Tape;I)I"⟩, 7), (⟨"StyledRuns$Reader", "closeLatest", "(I)Z"⟩, 7), (⟨"StyledRuns$Reader", "openMark", "(II)Z"⟩, 7), (⟨"StyledRuns$Reader", "afterLetter", "(LStyledRuns$Tape;I)I"⟩, 7), (⟨"StyledRuns$Writer", "firstUnfit", "(I)I"⟩, 5), (⟨"StyledRuns$Writer", "closeDownTo", "(I)V"⟩, 5), (⟨"StyledRuns$Writer", "add", "(I)V"⟩, 5), (⟨"StyledRuns$Writer", "openLacking", "(I)V"⟩, 5), (⟨"StyledRuns$Writer", "isOpen", "(I)Z"⟩, 5), (⟨"StyledRuns$History", "latest", "(I)I"⟩, 4)]
theorem lw_r1 : ∀ q ∈ lw_privs_1, lw_okq q := List.forall_mem_cons.mpr ⟨lw_p0, List.forall_mem_cons.mpr ⟨lw_p1, List.forall_mem_cons.mpr ⟨lw_p2, List.forall_mem_cons.mpr ⟨lw_p3, List.forall_mem_cons.mpr ⟨lw_p4, List.forall_mem_cons.mpr ⟨lw_p5, List.forall_mem_cons.mpr ⟨lw_p6, List.forall_mem_cons.mpr ⟨lw_p7, List.forall_mem_cons.mpr ⟨lw_p8, List.forall_mem_cons.mpr ⟨lw_p9, List.forall_mem_cons.mpr ⟨lw_p10, List.forall_mem_cons.mpr ⟨lw_p11, List.forall_mem_cons.mpr ⟨lw_p12, List.forall_mem_cons.mpr ⟨lw_p13, List.forall_mem_cons.mpr ⟨lw_p14, List.forall_mem_cons.mpr ⟨lw_p15, fun _ h => absurd h List.not_mem_nil⟩⟩⟩⟩⟩⟩⟩⟩⟩⟩⟩⟩⟩⟩⟩⟩
theorem lw_p16 : lw_okq (⟨"StyledRuns", "isIdle", "(I)Z"⟩, 12) := ⟨⟨by decide +kernel, by decide +kernel⟩, List.mem_of_getElem? (i := 17) (by decide +kernel), List.mem_of_getElem? (i := 715) (by decide +kernel), List.mem_of_getElem? (i := 716) (by decide +kernel)⟩
theorem lw_p17 : lw_okq (⟨"StyledRuns", "runsWithout", "(I)I"⟩, 12) := ⟨⟨by decide +kernel, by decide +kernel⟩, List.mem_of_getElem? (i := 17) (by decide +kernel), List.mem_of_getElem? (i := 723) (by decide +kernel), List.mem_of_getElem? (i := 724) (by decide +kernel)⟩
theorem lw_p18 : lw_okq (⟨"StyledRuns", "firstStand", "(IIIIII)I"⟩, 12) := ⟨⟨by decide +kernel, by decide +kernel⟩, List.mem_of_getElem? (i := 17) (by decide +kernel), List.mem_of_getElem? (i := 739) (by decide +kernel), List.mem_of_getElem? (i := 740) (by decide +kernel)⟩
theorem lw_p19 : lw_okq (⟨"StyledRuns", "runsIfRaised", "(II)I"⟩, 12) := ⟨⟨by decide +kernel, by decide +kernel⟩, List.mem_of_getElem? (i := 17) (by decide +kernel), List.mem_of_getElem? (i := 790) (by decide +kernel), List.mem_of_getElem? (i := 791) (by decide +kernel)⟩
theorem lw_p20 : lw_okq (⟨"StyledRuns$Looks", "standsAhead", "(II)Z"⟩, 2) := ⟨⟨by decide +kernel, by decide +kernel⟩, List.mem_of_getElem? (i := 210) (by decide +kernel), List.mem_of_getElem? (i := 831) (by decide +kernel), List.mem_of_getElem? (i := 832) (by decide +kernel)⟩
theorem lw_p21 : lw_okq (⟨"StyledRunsModel", "refuse", "(I)I"⟩, 31) := ⟨⟨by decide +kernel, by decide +kernel⟩, List.mem_of_getElem? (i := 849) (by decide +kernel), List.mem_of_getElem? (i := 954) (by decide +kernel), List.mem_of_getElem? (i := 955) (by decide +kernel)⟩
theorem lw_p22 : lw_okq (⟨"StyledRunsModel", "tell", "(I)I"⟩, 31) := ⟨⟨by decide +kernel, by decide +kernel⟩, List.mem_of_getElem? (i := 849) (by decide +kernel), List.mem_of_getElem? (i := 961) (by decide +kernel), List.mem_of_getElem? (i := 962) (by decide +kernel)⟩
theorem lw_p23 : lw_okq (⟨"StyledRunsModel", "comes", "(I)V"⟩, 31) := ⟨⟨by decide +kernel, by decide +kernel⟩, List.mem_of_getElem? (i := 849) (by decide +kernel), List.mem_of_getElem? (i := 980) (by decide +kernel), List.mem_of_getElem? (i := 981) (by decide +kernel)⟩
theorem lw_p24 : lw_okq (⟨"StyledRunsModel", "isPlace", "(I)Z"⟩, 31) := ⟨⟨by decide +kernel, by decide +kernel⟩, List.mem_of_getElem? (i := 849) (by decide +kernel), List.mem_of_getElem? (i := 996) (by decide +kernel), List.mem_of_getElem? (i := 997) (by decide +kernel)⟩
theorem lw_p25 : lw_okq (⟨"StyledRunsModel", "areLetters", "()Z"⟩, 31) := ⟨⟨by decide +kernel, by decide +kernel⟩, List.mem_of_getElem? (i := 849) (by decide +kernel), List.mem_of_getElem? (i := 1000) (by decide +kernel), List.mem_of_getElem? (i := 1001) (by decide +kernel)⟩
theorem lw_p26 : lw_okq (⟨"StyledRunsModel", "remember", "(I)V"⟩, 31) := ⟨⟨by decide +kernel, by decide +kernel⟩, List.mem_of_getElem? (i := 849) (by decide +kernel), List.mem_of_getElem? (i := 1009) (by decide +kernel), List.mem_of_getElem? (i := 1010) (by decide +kernel)⟩
theorem lw_p27 : lw_okq (⟨"StyledRunsModel", "noteAct", "(III)V"⟩, 31) := ⟨⟨by decide +kernel, by decide +kernel⟩, List.mem_of_getElem? (i := 849) (by decide +kernel), List.mem_of_getElem? (i := 1013) (by decide +kernel), List.mem_of_getElem? (i := 1014) (by decide +kernel)⟩
theorem lw_p28 : lw_okq (⟨"StyledRunsModel", "makeRoom", "(IIZ)V"⟩, 31) := ⟨⟨by decide +kernel, by decide +kernel⟩, List.mem_of_getElem? (i := 849) (by decide +kernel), List.mem_of_getElem? (i := 1017) (by decide +kernel), List.mem_of_getElem? (i := 1018) (by decide +kernel)⟩
theorem lw_p29 : lw_okq (⟨"StyledRunsModel", "comeFrom", "(I)V"⟩, 31) := ⟨⟨by decide +kernel, by decide +kernel⟩, List.mem_of_getElem? (i := 849) (by decide +kernel), List.mem_of_getElem? (i := 1030) (by decide +kernel), List.mem_of_getElem? (i := 1031) (by decide +kernel)⟩
theorem lw_p30 : lw_okq (⟨"StyledRunsModel", "isRange", "(II)Z"⟩, 31) := ⟨⟨by decide +kernel, by decide +kernel⟩, List.mem_of_getElem? (i := 849) (by decide +kernel), List.mem_of_getElem? (i := 1041) (by decide +kernel), List.mem_of_getElem? (i := 1042) (by decide +kernel)⟩
theorem lw_p31 : lw_okq (⟨"StyledRunsModel", "takeOut", "(IIZ)V"⟩, 31) := ⟨⟨by decide +kernel, by decide +kernel⟩, List.mem_of_getElem? (i := 849) (by decide +kernel), List.mem_of_getElem? (i := 1045) (by decide +kernel), List.mem_of_getElem? (i := 1046) (by decide +kernel)⟩
def lw_privs_2 : List (MethodName × Nat) := [(⟨"StyledRuns", "isIdle", "(I)Z"⟩, 12), (⟨"StyledRuns", "runsWithout", "(I)I"⟩, 12), (⟨"StyledRuns", "firstStand", "(IIIIII)I"⟩, 12), (⟨"StyledRuns", "runsIfRaised", "(II)I"⟩, 12), (⟨"StyledRuns$Looks", "standsAhead", "(II)Z"⟩, 2), (⟨"StyledRunsModel", "refuse", "(I)I"⟩, 31), (⟨"StyledRunsModel", "tell", "(I)I"⟩, 31), (⟨"StyledRunsModel", "comes", "(I)V"⟩, 31), (⟨"StyledRunsModel", "isPlace", "(I)Z"⟩, 31), (⟨"StyledRunsModel", "areLetters", "()Z"⟩, 31), (⟨"StyledRunsModel", "remember", "(I)V"⟩, 31), (⟨"StyledRunsModel", "noteAct", "(III)V"⟩, 31), (⟨"StyledRunsModel", "makeRoom", "(IIZ)V"⟩, 31), (⟨"StyledRunsModel", "comeFrom", "(I)V"⟩, 31), (⟨"StyledRunsModel", "isRange", "(II)Z"⟩, 31), (⟨"StyledRunsModel", "takeOut", "(IIZ)V"⟩, 31)]
theorem lw_r2 : ∀ q ∈ lw_privs_2, lw_okq q := List.forall_mem_cons.mpr ⟨lw_p16, List.forall_mem_cons.mpr ⟨lw_p17, List.forall_mem_cons.mpr ⟨lw_p18, List.forall_mem_cons.mpr ⟨lw_p19, List.forall_mem_cons.mpr ⟨lw_p20, List.forall_mem_cons.mpr ⟨lw_p21, List.forall_mem_cons.mpr ⟨lw_p22, List.forall_mem_cons.mpr ⟨lw_p23, List.forall_mem_cons.mpr ⟨lw_p24, List.forall_mem_cons.mpr ⟨lw_p25, List.forall_mem_cons.mpr ⟨lw_p26, List.forall_mem_cons.mpr ⟨lw_p27, List.forall_mem_cons.mpr ⟨lw_p28, List.forall_mem_cons.mpr ⟨lw_p29, List.forall_mem_cons.mpr ⟨lw_p30, List.forall_mem_cons.mpr ⟨lw_p31, fun _ h => absurd h List.not_mem_nil⟩⟩⟩⟩⟩⟩⟩⟩⟩⟩⟩⟩⟩⟩⟩⟩
theorem lw_p32 : lw_okq (⟨"StyledRunsModel", "isSpan", "(I)Z"⟩, 31) := ⟨⟨by decide +kernel, by decide +kernel⟩, List.mem_of_getElem? (i := 849) (by decide +kernel), List.mem_of_getElem? (i := 1060) (by decide +kernel), List.mem_of_getElem? (i := 1061) (by decide +kernel)⟩
theorem lw_p33 : lw_okq (⟨"StyledRunsModel", "isAnchor", "(I)Z"⟩, 31) := ⟨⟨by decide +kernel, by decide +kernel⟩, List.mem_of_getElem? (i := 849) (by decide +kernel), List.mem_of_getElem? (i := 1064) (by decide +kernel), List.mem_of_getElem? (i := 1065) (by decide +kernel)⟩
theorem lw_p34 : lw_okq (⟨"StyledRunsModel", "spans", "()I"⟩, 31) := ⟨⟨by decide +kernel, by decide +kernel⟩, List.mem_of_getElem? (i := 849) (by decide +kernel), List.mem_of_getElem? (i := 1085) (by decide +kernel), List.mem_of_getElem? (i := 1086) (by decide +kernel)⟩
theorem lw_p35 : lw_okq (⟨"StyledRunsModel", "takePaint", "(I)V"⟩, 31) := ⟨⟨by decide +kernel, by decide +kernel⟩, List.mem_of_getElem? (i := 849) (by decide +kernel), List.mem_of_getElem? (i := 1101) (by decide +kernel), List.mem_of_getElem? (i := 1102) (by decide +kernel)⟩
theorem lw_p36 : lw_okq (⟨"StyledRunsModel", "look", "(IIII)V"⟩, 31) := ⟨⟨by decide +kernel, by decide +kernel⟩, List.mem_of_getElem? (i := 849) (by decide +kernel), List.mem_of_getElem? (i := 1105) (by decide +kernel), List.mem_of_getElem? (i := 1106) (by decide +kernel)⟩
theorem lw_p37 : lw_okq (⟨"StyledRunsModel", "layPaint", "(I)I"⟩, 31) := ⟨⟨by decide +kernel, by decide +kernel⟩, List.mem_of_getElem? (i := 849) (by decide +kernel), List.mem_of_getElem? (i := 1109) (by decide +kernel), List.mem_of_getElem? (i := 1110) (by decide +kernel)⟩
theorem lw_p38 : lw_okq (⟨"StyledRunsModel", "takeStyle", "(II)V"⟩, 31) := ⟨⟨by decide +kernel, by decide +kernel⟩, List.mem_of_getElem? (i := 849) (by decide +kernel), List.mem_of_getElem? (i := 1117) (by decide +kernel), List.mem_of_getElem? (i := 1118) (by decide +kernel)⟩
theorem lw_p39 : lw_okq (⟨"StyledRunsModel", "isOver", "(II)Z"⟩, 31) := ⟨⟨by decide +kernel, by decide +kernel⟩, List.mem_of_getElem? (i := 849) (by decide +kernel), List.mem_of_getElem? (i := 1121) (by decide +kernel), List.mem_of_getElem? (i := 1122) (by decide +kernel)⟩
theorem lw_p40 : lw_okq (⟨"StyledRunsModel", "byteAt", "(I)I"⟩, 31) := ⟨⟨by decide +kernel, by decide +kernel⟩, List.mem_of_getElem? (i := 849) (by decide +kernel), List.mem_of_getElem? (i := 1137) (by decide +kernel), List.mem_of_getElem? (i := 1138) (by decide +kernel)⟩
theorem lw_p41 : lw_okq (⟨"StyledRunsModel", "readMark", "()V"⟩, 31) := ⟨⟨by decide +kernel, by decide +kernel⟩, List.mem_of_getElem? (i := 849) (by decide +kernel), List.mem_of_getElem? (i := 1141) (by decide +kernel), List.mem_of_getElem? (i := 1142) (by decide +kernel)⟩
theorem lw_p42 : lw_okq (⟨"StyledRunsModel", "wrong", "(I)V"⟩, 31) := ⟨⟨by decide +kernel, by decide +kernel⟩, List.mem_of_getElem? (i := 849) (by decide +kernel), List.mem_of_getElem? (i := 1148) (by decide +kernel), List.mem_of_getElem? (i := 1149) (by decide +kernel)⟩
theorem lw_p43 : lw_okq (⟨"StyledRunsModel", "readLetter", "(I)V"⟩, 31) := ⟨⟨by decide +kernel, by decide +kernel⟩, List.mem_of_getElem? (i := 849) (by decide +kernel), List.mem_of_getElem? (i := 1152) (by decide +kernel), List.mem_of_getElem? (i := 1153) (by decide +kernel)⟩
theorem lw_p44 : lw_okq (⟨"StyledRunsModel", "writes", "()V"⟩, 31) := ⟨⟨by decide +kernel, by decide +kernel⟩, List.mem_of_getElem? (i := 849) (by decide +kernel), List.mem_of_getElem? (i := 1164) (by decide +kernel), List.mem_of_getElem? (i := 1165) (by decide +kernel)⟩
theorem lw_p45 : lw_okq (⟨"StyledRunsModel", "marks", "()V"⟩, 31) := ⟨⟨by decide +kernel, by decide +kernel⟩, List.mem_of_getElem? (i := 849) (by decide +kernel), List.mem_of_getElem? (i := 1168) (by decide +kernel), List.mem_of_getElem? (i := 1169) (by decide +kernel)⟩
theorem lw_p46 : lw_okq (⟨"StyledRunsModel", "hasAll", "()Z"⟩, 31) := ⟨⟨by decide +kernel, by decide +kernel⟩, List.mem_of_getElem? (i := 849) (by decide +kernel), List.mem_of_getElem? (i := 1172) (by decide +kernel), List.mem_of_getElem? (i := 1173) (by decide +kernel)⟩
theorem lw_p47 : lw_okq (⟨"StyledRunsModel", "has", "(I)Z"⟩, 31) := ⟨⟨by decide +kernel, by decide +kernel⟩, List.mem_of_getElem? (i := 849) (by decide +kernel), List.mem_of_getElem? (i := 1176) (by decide +kernel), List.mem_of_getElem? (i := 1177) (by decide +kernel)⟩
def lw_privs_3 : List (MethodName × Nat) := [(⟨"StyledRunsModel", "isSpan", "(I)Z"⟩, 31), (⟨"StyledRunsModel", "isAnchor", "(I)Z"⟩, 31), (⟨"StyledRunsModel", "spans", "()I"⟩, 31), (⟨"StyledRunsModel", "takePaint", "(I)V"⟩, 31), (⟨"StyledRunsModel", "look", "(IIII)V"⟩, 31), (⟨"StyledRunsModel", "layPaint", "(I)I"⟩, 31), (⟨"StyledRunsModel", "takeStyle", "(II)V"⟩, 31), (⟨"StyledRunsModel", "isOver", "(II)Z"⟩, 31), (⟨"StyledRunsModel", "byteAt", "(I)I"⟩, 31), (⟨"StyledRunsModel", "readMark", "()V"⟩, 31), (⟨"StyledRunsModel", "wrong", "(I)V"⟩, 31), (⟨"StyledRunsModel", "readLetter", "(I)V"⟩, 31), (⟨"StyledRunsModel", "writes", "()V"⟩, 31), (⟨"StyledRunsModel", "marks", "()V"⟩, 31), (⟨"StyledRunsModel", "hasAll", "()Z"⟩, 31), (⟨"StyledRunsModel", "has", "(I)Z"⟩, 31)]
theorem lw_r3 : ∀ q ∈ lw_privs_3, lw_okq q := List.forall_mem_cons.mpr ⟨lw_p32, List.forall_mem_cons.mpr ⟨lw_p33, List.forall_mem_cons.mpr ⟨lw_p34, List.forall_mem_cons.mpr ⟨lw_p35, List.forall_mem_cons.mpr ⟨lw_p36, List.forall_mem_cons.mpr ⟨lw_p37, List.forall_mem_cons.mpr ⟨lw_p38, List.forall_mem_cons.mpr ⟨lw_p39, List.forall_mem_cons.mpr ⟨lw_p40, List.forall_mem_cons.mpr ⟨lw_p41, List.forall_mem_cons.mpr ⟨lw_p42, List.forall_mem_cons.mpr ⟨lw_p43, List.forall_mem_cons.mpr ⟨lw_p44, List.forall_mem_cons.mpr ⟨lw_p45, List.forall_mem_cons.mpr ⟨lw_p46, List.forall_mem_cons.mpr ⟨lw_p47, fun _ h => absurd h List.not_mem_nil⟩⟩⟩⟩⟩⟩⟩⟩⟩⟩⟩⟩⟩⟩⟩⟩
theorem lw_p48 : lw_okq (⟨"StyledRunsModel", "closes", "()V"⟩, 31) := ⟨⟨by decide +kernel, by decide +kernel⟩, List.mem_of_getElem? (i := 849) (by decide +kernel), List.mem_of_getElem? (i := 1180) (by decide +kernel), List.mem_of_getElem? (i := 1181) (by decide +kernel)⟩
theorem lw_p49 : lw_okq (⟨"StyledRunsModel", "put", "(I)V"⟩, 31) := ⟨⟨by decide +kernel, by decide +kernel⟩, List.mem_of_getElem? (i := 849) (by decide +kernel), List.mem_of_getElem? (i := 1184) (by decide +kernel), List.mem_of_getElem? (i := 1185) (by decide +kernel)⟩
theorem lw_p50 : lw_okq (⟨"StyledRunsModel", "opens", "(II)V"⟩, 31) := ⟨⟨by decide +kernel, by decide +kernel⟩, List.mem_of_getElem? (i := 849) (by decide +kernel), List.mem_of_getElem? (i := 1188) (by decide +kernel), List.mem_of_getElem? (i := 1189) (by decide +kernel)⟩
theorem lw_p51 : lw_okq (⟨"StyledRunsModel", "isOpen", "(I)Z"⟩, 31) := ⟨⟨by decide +kernel, by decide +kernel⟩, List.mem_of_getElem? (i := 849) (by decide +kernel), List.mem_of_getElem? (i := 1192) (by decide +kernel), List.mem_of_getElem? (i := 1193) (by decide +kernel)⟩
theorem lw_p52 : lw_okq (⟨"StyledRunsModel", "isLetter", "(I)Z"⟩, 31) := ⟨⟨by decide +kernel, by decide +kernel⟩, List.mem_of_getElem? (i := 849) (by decide +kernel), List.mem_of_getElem? (i := 1200) (by decide +kernel), List.mem_of_getElem? (i := 1201) (by decide +kernel)⟩
theorem lw_p53 : lw_okq (⟨"StyledRunsModel", "styleOf", "(II)I"⟩, 31) := ⟨⟨by decide +kernel, by decide +kernel⟩, List.mem_of_getElem? (i := 849) (by decide +kernel), List.mem_of_getElem? (i := 1210) (by decide +kernel), List.mem_of_getElem? (i := 1211) (by decide +kernel)⟩
theorem lw_p54 : lw_okq (⟨"StyledRunsModel", "layRuns", "(I)V"⟩, 31) := ⟨⟨by decide +kernel, by decide +kernel⟩, List.mem_of_getElem? (i := 849) (by decide +kernel), List.mem_of_getElem? (i := 1218) (by decide +kernel), List.mem_of_getElem? (i := 1219) (by decide +kernel)⟩
theorem lw_p55 : lw_okq (⟨"StyledRunsModel", "tellsOf", "(II)Z"⟩, 31) := ⟨⟨by decide +kernel, by decide +kernel⟩, List.mem_of_getElem? (i := 849) (by decide +kernel), List.mem_of_getElem? (i := 1231) (by decide +kernel), List.mem_of_getElem? (i := 1232) (by decide +kernel)⟩
theorem lw_p56 : lw_okq (⟨"StyledRunsModel", "isIdle", "(I)Z"⟩, 31) := ⟨⟨by decide +kernel, by decide +kernel⟩, List.mem_of_getElem? (i := 849) (by decide +kernel), List.mem_of_getElem? (i := 1240) (by decide +kernel), List.mem_of_getElem? (i := 1241) (by decide +kernel)⟩
theorem lw_p57 : lw_okq (⟨"StyledRunsModel", "stands", "(I)Z"⟩, 31) := ⟨⟨by decide +kernel, by decide +kernel⟩, List.mem_of_getElem? (i := 849) (by decide +kernel), List.mem_of_getElem? (i := 1253) (by decide +kernel), List.mem_of_getElem? (i := 1254) (by decide +kernel)⟩
theorem lw_p58 : lw_okq (⟨"StyledRunsModel", "isSo", "(IIII)Z"⟩, 31) := ⟨⟨by decide +kernel, by decide +kernel⟩, List.mem_of_getElem? (i := 849) (by decide +kernel), List.mem_of_getElem? (i := 1261) (by decide +kernel), List.mem_of_getElem? (i := 1262) (by decide +kernel)⟩
theorem lw_p59 : lw_okq (⟨"StyledRunsModel", "behind", "(III)I"⟩, 31) := ⟨⟨by decide +kernel, by decide +kernel⟩, List.mem_of_getElem? (i := 849) (by decide +kernel), List.mem_of_getElem? (i := 1278) (by decide +kernel), List.mem_of_getElem? (i := 1279) (by decide +kernel)⟩
theorem lw_p60 : lw_okq (⟨"StyledRunsModel", "runsBy", "(II)I"⟩, 31) := ⟨⟨by decide +kernel, by decide +kernel⟩, List.mem_of_getElem? (i := 849) (by decide +kernel), List.mem_of_getElem? (i := 1290) (by decide +kernel), List.mem_of_getElem? (i := 1291) (by decide +kernel)⟩
theorem lw_p61 : lw_okq (⟨"StyledRunsModel", "isWithin", "(II)Z"⟩, 31) := ⟨⟨by decide +kernel, by decide +kernel⟩, List.mem_of_getElem? (i := 849) (by decide +kernel), List.mem_of_getElem? (i := 1302) (by decide +kernel), List.mem_of_getElem? (i := 1303) (by decide +kernel)⟩
theorem lw_p62 : lw_okq (⟨"StyledRunsModel", "ofAnchors", "(I)I"⟩, 31) := ⟨⟨by decide +kernel, by decide +kernel⟩, List.mem_of_getElem? (i := 849) (by decide +kernel), List.mem_of_getElem? (i := 1310) (by decide +kernel), List.mem_of_getElem? (i := 1311) (by decide +kernel)⟩
theorem lw_p63 : lw_okq (⟨"StyledRunsModel", "longest", "(Z)I"⟩, 31) := ⟨⟨by decide +kernel, by decide +kernel⟩, List.mem_of_getElem? (i := 849) (by decide +kernel), List.mem_of_getElem? (i := 1314) (by decide +kernel), List.mem_of_getElem? (i := 1315) (by decide +kernel)⟩
def lw_privs_4 : List (MethodName × Nat) := [(⟨"StyledRunsModel", "closes", "()V"⟩, 31), (⟨"StyledRunsModel", "put", "(I)V"⟩, 31), (⟨"StyledRunsModel", "opens", "(II)V"⟩, 31), (⟨"StyledRunsModel", "isOpen", "(I)Z"⟩, 31), (⟨"StyledRunsModel", "isLetter", "(I)Z"⟩, 31), (⟨"StyledRunsModel", "styleOf", "(II)I"⟩, 31), (⟨"StyledRunsModel", "layRuns", "(I)V"⟩, 31), (⟨"StyledRunsModel", "tellsOf", "(II)Z"⟩, 31), (⟨"StyledRunsModel", "isIdle", "(I)Z"⟩, 31), (⟨"StyledRunsModel", "stands", "(I)Z"⟩, 31), (⟨"StyledRunsModel", "isSo", "(IIII)Z"⟩, 31), (⟨"StyledRunsModel", "behind", "(III)I"⟩, 31), (⟨"StyledRunsModel", "runsBy", "(II)I"⟩, 31), (⟨"StyledRunsModel", "isWithin", "(II)Z"⟩, 31), (⟨"StyledRunsModel", "ofAnchors", "(I)I"⟩, 31), (⟨"StyledRunsModel", "longest", "(Z)I"⟩, 31)]
theorem lw_r4 : ∀ q ∈ lw_privs_4, lw_okq q := List.forall_mem_cons.mpr ⟨lw_p48, List.forall_mem_cons.mpr ⟨lw_p49, List.forall_mem_cons.mpr ⟨lw_p50, List.forall_mem_cons.mpr ⟨lw_p51, List.forall_mem_cons.mpr ⟨lw_p52, List.forall_mem_cons.mpr ⟨lw_p53, List.forall_mem_cons.mpr ⟨lw_p54, List.forall_mem_cons.mpr ⟨lw_p55, List.forall_mem_cons.mpr ⟨lw_p56, List.forall_mem_cons.mpr ⟨lw_p57, List.forall_mem_cons.mpr ⟨lw_p58, List.forall_mem_cons.mpr ⟨lw_p59, List.forall_mem_cons.mpr ⟨lw_p60, List.forall_mem_cons.mpr ⟨lw_p61, List.forall_mem_cons.mpr ⟨lw_p62, List.forall_mem_cons.mpr ⟨lw_p63, fun _ h => absurd h List.not_mem_nil⟩⟩⟩⟩⟩⟩⟩⟩⟩⟩⟩⟩⟩⟩⟩⟩
theorem lw_p64 : lw_okq (⟨"StyledRunsModel", "unlike", "()I"⟩, 31) := ⟨⟨by decide +kernel, by decide +kernel⟩, List.mem_of_getElem? (i := 849) (by decide +kernel), List.mem_of_getElem? (i := 1318) (by decide +kernel), List.mem_of_getElem? (i := 1319) (by decide +kernel)⟩
theorem lw_p65 : lw_okq (⟨"StyledRunsModel", "highest", "()I"⟩, 31) := ⟨⟨by decide +kernel, by decide +kernel⟩, List.mem_of_getElem? (i := 849) (by decide +kernel), List.mem_of_getElem? (i := 1322) (by decide +kernel), List.mem_of_getElem? (i := 1323) (by decide +kernel)⟩
def lw_privs_5 : List (MethodName × Nat) := [(⟨"StyledRunsModel", "unlike", "()I"⟩, 31), (⟨"StyledRunsModel", "highest", "()I"⟩, 31)]
theorem lw_r5 : ∀ q ∈ lw_privs_5, lw_okq q := List.forall_mem_cons.mpr ⟨lw_p64, List.forall_mem_cons.mpr ⟨lw_p65, fun _ h => absurd h List.not_mem_nil⟩⟩
def lw_privs : List (MethodName × Nat) := lw_privs_1 ++ (lw_privs_2 ++ (lw_privs_3 ++ (lw_privs_4 ++ (lw_privs_5))))
def lw_tbl : List Cond := k2_sels lw_privs ++ tables_1
theorem lw_privs_ok : ∀ q ∈ lw_privs, lw_okq q := by
  show ∀ q ∈ lw_privs_1 ++ (lw_privs_2 ++ (lw_privs_3 ++ (lw_privs_4 ++ (lw_privs_5)))), lw_okq q
  exact List.forall_mem_append.mpr ⟨lw_r1, List.forall_mem_append.mpr ⟨lw_r2, List.forall_mem_append.mpr ⟨lw_r3, List.forall_mem_append.mpr ⟨lw_r4, lw_r5⟩⟩⟩⟩
end
section
/-! names, fields, layout, links: printed by wip/whole/gen_names.py -/
def zR0 : String := "StyledRuns$Act"
def zF0 : u_T := fun k => match k with
  | 0 => ("StyledRuns$Act", "kind", "I", false)
  | 1 => ("StyledRuns$Act", "a", "I", false)
  | 2 => ("StyledRuns$Act", "b", "I", false)
  | _ => ("StyledRuns$Act", "c", "I", false)
def zt0 : Nat → FieldType := fun k => match k with
  | 0 => .int
  | 1 => .int
  | 2 => .int
  | _ => .int
theorem znm0 : ∀ a, a < 4 → ∀ b, b < 4 → a ≠ b → (zF0 a).2.1 ≠ (zF0 b).2.1 := by decide +kernel
theorem zty0 : ∀ k, k < 4 → parseFieldDescriptor (zF0 k).2.2.1 = some (zt0 k) := by decide +kernel
theorem zin0 : ∀ w ∈ u_ws zR0 zF0 4, w ∈ lw_tbl := by
  intro w hw
  obtain ⟨k, hk, rfl⟩ := List.mem_map.mp hw
  have hk := List.mem_range.mp hk
  refine List.mem_append_right _ (List.mem_of_getElem? (i := ([186, 188, 190, 192] : List Nat).getD k 0) ?_)
  revert k
  decide +kernel
def zR1 : String := "StyledRuns$Anchor"
def zF1 : u_T := fun k => match k with
  | 0 => ("StyledRuns$Anchor", "stands", "Z", false)
  | 1 => ("StyledRuns$Anchor", "place", "I", false)
  | 2 => ("StyledRuns$Anchor", "lean", "I", false)
  | _ => ("StyledRuns$Anchor", "lost", "I", false)
def zt1 : Nat → FieldType := fun k => match k with
  | 0 => .boolean
  | 1 => .int
  | 2 => .int
  | _ => .int
theorem znm1 : ∀ a, a < 4 → ∀ b, b < 4 → a ≠ b → (zF1 a).2.1 ≠ (zF1 b).2.1 := by decide +kernel
theorem zty1 : ∀ k, k < 4 → parseFieldDescriptor (zF1 k).2.2.1 = some (zt1 k) := by decide +kernel
theorem zin1 : ∀ w ∈ u_ws zR1 zF1 4, w ∈ lw_tbl := by
  intro w hw
  obtain ⟨k, hk, rfl⟩ := List.mem_map.mp hw
  have hk := List.mem_range.mp hk
  refine List.mem_append_right _ (List.mem_of_getElem? (i := ([103, 105, 107, 109] : List Nat).getD k 0) ?_)
  revert k
  decide +kernel
def zR2 : String := "StyledRuns$History"
def zF2 : u_T := fun k => match k with
  | 0 => ("StyledRuns$History", "before", "[LStyledRuns$Sheet;", true)
  | 1 => ("StyledRuns$History", "acts", "[LStyledRuns$Act;", true)
  | 2 => ("StyledRuns$History", "next", "I", false)
  | _ => ("StyledRuns$History", "kept", "I", false)
def zt2 : Nat → FieldType := fun k => match k with
  | 0 => .array (.object "StyledRuns$Sheet")
  | 1 => .array (.object "StyledRuns$Act")
  | 2 => .int
  | _ => .int
theorem znm2 : ∀ a, a < 4 → ∀ b, b < 4 → a ≠ b → (zF2 a).2.1 ≠ (zF2 b).2.1 := by decide +kernel
theorem zty2 : ∀ k, k < 4 → parseFieldDescriptor (zF2 k).2.2.1 = some (zt2 k) := by decide +kernel
theorem zin2 : ∀ w ∈ u_ws zR2 zF2 4, w ∈ lw_tbl := by
  intro w hw
  obtain ⟨k, hk, rfl⟩ := List.mem_map.mp hw
  have hk := List.mem_range.mp hk
  refine List.mem_append_right _ (List.mem_of_getElem? (i := ([200, 202, 204, 206] : List Nat).getD k 0) ?_)
  revert k
  decide +kernel
def zR3 : String := "StyledRuns$Looks"
def zF3 : u_T := fun k => match k with
  | 0 => ("StyledRuns$Looks", "styles", "[I", true)
  | _ => ("StyledRuns$Looks", "size", "I", false)
def zt3 : Nat → FieldType := fun k => match k with
  | 0 => .array .int
  | _ => .int
theorem znm3 : ∀ a, a < 2 → ∀ b, b < 2 → a ≠ b → (zF3 a).2.1 ≠ (zF3 b).2.1 := by decide +kernel
theorem zty3 : ∀ k, k < 2 → parseFieldDescriptor (zF3 k).2.2.1 = some (zt3 k) := by decide +kernel
theorem zin3 : ∀ w ∈ u_ws zR3 zF3 2, w ∈ lw_tbl := by
  intro w hw
  obtain ⟨k, hk, rfl⟩ := List.mem_map.mp hw
  have hk := List.mem_range.mp hk
  refine List.mem_append_right _ (List.mem_of_getElem? (i := ([219, 221] : List Nat).getD k 0) ?_)
  revert k
  decide +kernel
def zR4 : String := "StyledRuns$Reader"
def zF4 : u_T := fun k => match k with
  | 0 => ("StyledRuns$Reader", "letters", "[I", true)
  | 1 => ("StyledRuns$Reader", "paints", "[I", true)
  | 2 => ("StyledRuns$Reader", "size", "I", false)
  | 3 => ("StyledRuns$Reader", "faultPlace", "I", false)
  | 4 => ("StyledRuns$Reader", "openKinds", "[I", true)
  | 5 => ("StyledRuns$Reader", "paintInside", "[I", true)
  | _ => ("StyledRuns$Reader", "open", "I", false)
def zt4 : Nat → FieldType := fun k => match k with
  | 0 => .array .int
  | 1 => .array .int
  | 2 => .int
  | 3 => .int
  | 4 => .array .int
  | 5 => .array .int
  | _ => .int
theorem znm4 : ∀ a, a < 7 → ∀ b, b < 7 → a ≠ b → (zF4 a).2.1 ≠ (zF4 b).2.1 := by decide +kernel
theorem zty4 : ∀ k, k < 7 → parseFieldDescriptor (zF4 k).2.2.1 = some (zt4 k) := by decide +kernel
theorem zin4 : ∀ w ∈ u_ws zR4 zF4 7, w ∈ lw_tbl := by
  intro w hw
  obtain ⟨k, hk, rfl⟩ := List.mem_map.mp hw
  have hk := List.mem_range.mp hk
  refine List.mem_append_right _ (List.mem_of_getElem? (i := ([242, 244, 246, 248, 250, 252, 254] : List Nat).getD k 0) ?_)
  revert k
  decide +kernel
def zR5 : String := "StyledRuns$Sheet"
def zF5 : u_T := fun k => match k with
  | 0 => ("StyledRuns$Sheet", "letters", "[I", true)
  | 1 => ("StyledRuns$Sheet", "paints", "[I", true)
  | 2 => ("StyledRuns$Sheet", "size", "I", false)
  | 3 => ("StyledRuns$Sheet", "spans", "[LStyledRuns$Span;", true)
  | 4 => ("StyledRuns$Sheet", "spansGiven", "I", false)
  | 5 => ("StyledRuns$Sheet", "anchors", "[LStyledRuns$Anchor;", true)
  | _ => ("StyledRuns$Sheet", "anchorsGiven", "I", false)
def zt5 : Nat → FieldType := fun k => match k with
  | 0 => .array .int
  | 1 => .array .int
  | 2 => .int
  | 3 => .array (.object "StyledRuns$Span")
  | 4 => .int
  | 5 => .array (.object "StyledRuns$Anchor")
  | _ => .int
theorem znm5 : ∀ a, a < 7 → ∀ b, b < 7 → a ≠ b → (zF5 a).2.1 ≠ (zF5 b).2.1 := by decide +kernel
theorem zty5 : ∀ k, k < 7 → parseFieldDescriptor (zF5 k).2.2.1 = some (zt5 k) := by decide +kernel
theorem zin5 : ∀ w ∈ u_ws zR5 zF5 7, w ∈ lw_tbl := by
  intro w hw
  obtain ⟨k, hk, rfl⟩ := List.mem_map.mp hw
  have hk := List.mem_range.mp hk
  refine List.mem_append_right _ (List.mem_of_getElem? (i := ([132, 134, 136, 138, 140, 142, 144] : List Nat).getD k 0) ?_)
  revert k
  decide +kernel
def zR6 : String := "StyledRuns$Span"
def zF6 : u_T := fun k => match k with
  | 0 => ("StyledRuns$Span", "stands", "Z", false)
  | 1 => ("StyledRuns$Span", "from", "I", false)
  | 2 => ("StyledRuns$Span", "to", "I", false)
  | 3 => ("StyledRuns$Span", "layer", "I", false)
  | 4 => ("StyledRuns$Span", "on", "I", false)
  | 5 => ("StyledRuns$Span", "off", "I", false)
  | 6 => ("StyledRuns$Span", "color", "I", false)
  | 7 => ("StyledRuns$Span", "grows", "I", false)
  | _ => ("StyledRuns$Span", "sides", "I", false)
def zt6 : Nat → FieldType := fun k => match k with
  | 0 => .boolean
  | 1 => .int
  | 2 => .int
  | 3 => .int
  | 4 => .int
  | 5 => .int
  | 6 => .int
  | 7 => .int
  | _ => .int
theorem znm6 : ∀ a, a < 9 → ∀ b, b < 9 → a ≠ b → (zF6 a).2.1 ≠ (zF6 b).2.1 := by decide +kernel
theorem zty6 : ∀ k, k < 9 → parseFieldDescriptor (zF6 k).2.2.1 = some (zt6 k) := by decide +kernel
theorem zin6 : ∀ w ∈ u_ws zR6 zF6 9, w ∈ lw_tbl := by
  intro w hw
  obtain ⟨k, hk, rfl⟩ := List.mem_map.mp hw
  have hk := List.mem_range.mp hk
  refine List.mem_append_right _ (List.mem_of_getElem? (i := ([66, 68, 70, 72, 74, 76, 78, 80, 82] : List Nat).getD k 0) ?_)
  revert k
  decide +kernel
def zR7 : String := "StyledRuns$Tape"
def zF7 : u_T := fun k => match k with
  | 0 => ("StyledRuns$Tape", "row", "[I", true)
  | _ => ("StyledRuns$Tape", "length", "I", false)
def zt7 : Nat → FieldType := fun k => match k with
  | 0 => .array .int
  | _ => .int
theorem znm7 : ∀ a, a < 2 → ∀ b, b < 2 → a ≠ b → (zF7 a).2.1 ≠ (zF7 b).2.1 := by decide +kernel
theorem zty7 : ∀ k, k < 2 → parseFieldDescriptor (zF7 k).2.2.1 = some (zt7 k) := by decide +kernel
theorem zin7 : ∀ w ∈ u_ws zR7 zF7 2, w ∈ lw_tbl := by
  intro w hw
  obtain ⟨k, hk, rfl⟩ := List.mem_map.mp hw
  have hk := List.mem_range.mp hk
  refine List.mem_append_right _ (List.mem_of_getElem? (i := ([160, 162] : List Nat).getD k 0) ?_)
  revert k
  decide +kernel
def zR8 : String := "StyledRuns$Writer"
def zF8 : u_T := fun k => match k with
  | 0 => ("StyledRuns$Writer", "out", "[I", true)
  | 1 => ("StyledRuns$Writer", "length", "I", false)
  | 2 => ("StyledRuns$Writer", "openKinds", "[I", true)
  | 3 => ("StyledRuns$Writer", "openValues", "[I", true)
  | _ => ("StyledRuns$Writer", "open", "I", false)
def zt8 : Nat → FieldType := fun k => match k with
  | 0 => .array .int
  | 1 => .int
  | 2 => .array .int
  | 3 => .array .int
  | _ => .int
theorem znm8 : ∀ a, a < 5 → ∀ b, b < 5 → a ≠ b → (zF8 a).2.1 ≠ (zF8 b).2.1 := by decide +kernel
theorem zty8 : ∀ k, k < 5 → parseFieldDescriptor (zF8 k).2.2.1 = some (zt8 k) := by decide +kernel
theorem zin8 : ∀ w ∈ u_ws zR8 zF8 5, w ∈ lw_tbl := by
  intro w hw
  obtain ⟨k, hk, rfl⟩ := List.mem_map.mp hw
  have hk := List.mem_range.mp hk
  refine List.mem_append_right _ (List.mem_of_getElem? (i := ([271, 273, 275, 277, 279] : List Nat).getD k 0) ?_)
  revert k
  decide +kernel
def zR9 : String := "StyledRuns"
def zF9 : u_T := fun k => match k with
  | 0 => ("StyledRuns", "sheet", "LStyledRuns$Sheet;", true)
  | 1 => ("StyledRuns", "bytes", "LStyledRuns$Tape;", true)
  | 2 => ("StyledRuns", "history", "LStyledRuns$History;", true)
  | 3 => ("StyledRuns", "images", "[LStyledRuns$Sheet;", true)
  | 4 => ("StyledRuns", "imageKept", "[Z", true)
  | 5 => ("StyledRuns", "present", "LStyledRuns$Looks;", true)
  | 6 => ("StyledRuns", "supposed", "LStyledRuns$Looks;", true)
  | 7 => ("StyledRuns", "reader", "LStyledRuns$Reader;", true)
  | 8 => ("StyledRuns", "writer", "LStyledRuns$Writer;", true)
  | 9 => ("StyledRuns", "refusals", "[I", true)
  | 10 => ("StyledRuns", "latestRefusal", "I", false)
  | _ => ("StyledRuns", "presentIsFresh", "Z", false)
def zt9 : Nat → FieldType := fun k => match k with
  | 0 => .object "StyledRuns$Sheet"
  | 1 => .object "StyledRuns$Tape"
  | 2 => .object "StyledRuns$History"
  | 3 => .array (.object "StyledRuns$Sheet")
  | 4 => .array .boolean
  | 5 => .object "StyledRuns$Looks"
  | 6 => .object "StyledRuns$Looks"
  | 7 => .object "StyledRuns$Reader"
  | 8 => .object "StyledRuns$Writer"
  | 9 => .array .int
  | 10 => .int
  | _ => .boolean
theorem znm9 : ∀ a, a < 12 → ∀ b, b < 12 → a ≠ b → (zF9 a).2.1 ≠ (zF9 b).2.1 := by decide +kernel
theorem zty9 : ∀ k, k < 12 → parseFieldDescriptor (zF9 k).2.2.1 = some (zt9 k) := by decide +kernel
theorem zin9 : ∀ w ∈ u_ws zR9 zF9 12, w ∈ lw_tbl := by
  intro w hw
  obtain ⟨k, hk, rfl⟩ := List.mem_map.mp hw
  have hk := List.mem_range.mp hk
  refine List.mem_append_right _ (List.mem_of_getElem? (i := ([294, 296, 298, 300, 302, 304, 306, 308, 310, 312, 314, 316] : List Nat).getD k 0) ?_)
  revert k
  decide +kernel
def zR10 : String := "StyledRunsModel"
def zF10 : u_T := fun k => match k with
  | 0 => ("StyledRunsModel", "thrown", "I", false)
  | 1 => ("StyledRunsModel", "status", "I", false)
  | 2 => ("StyledRunsModel", "refusals", "[I", true)
  | 3 => ("StyledRunsModel", "row", "[I", true)
  | 4 => ("StyledRunsModel", "undos", "[I", true)
  | 5 => ("StyledRunsModel", "sorts", "[I", true)
  | 6 => ("StyledRunsModel", "nUndo", "I", false)
  | 7 => ("StyledRunsModel", "acts", "[I", true)
  | 8 => ("StyledRunsModel", "images", "[I", true)
  | 9 => ("StyledRunsModel", "isKept", "[Z", true)
  | 10 => ("StyledRunsModel", "tape", "[B", true)
  | 11 => ("StyledRunsModel", "taped", "I", false)
  | 12 => ("StyledRunsModel", "fault", "I", false)
  | 13 => ("StyledRunsModel", "spanGoes", "[Z", true)
  | 14 => ("StyledRunsModel", "anchorGoes", "[Z", true)
  | 15 => ("StyledRunsModel", "moved", "[I", true)
  | 16 => ("StyledRunsModel", "flags", "I", false)
  | 17 => ("StyledRunsModel", "color", "I", false)
  | 18 => ("StyledRunsModel", "size", "I", false)
  | 19 => ("StyledRunsModel", "reading", "I", false)
  | 20 => ("StyledRunsModel", "isGood", "Z", false)
  | 21 => ("StyledRunsModel", "many", "I", false)
  | 22 => ("StyledRunsModel", "told", "[I", true)
  | 23 => ("StyledRunsModel", "open", "[I", true)
  | 24 => ("StyledRunsModel", "digit", "[I", true)
  | 25 => ("StyledRunsModel", "opened", "I", false)
  | 26 => ("StyledRunsModel", "out", "[B", true)
  | 27 => ("StyledRunsModel", "written", "I", false)
  | 28 => ("StyledRunsModel", "runAt", "[I", true)
  | 29 => ("StyledRunsModel", "runs", "I", false)
  | _ => ("StyledRunsModel", "styles", "[I", true)
def zt10 : Nat → FieldType := fun k => match k with
  | 0 => .int
  | 1 => .int
  | 2 => .array .int
  | 3 => .array .int
  | 4 => .array .int
  | 5 => .array .int
  | 6 => .int
  | 7 => .array .int
  | 8 => .array .int
  | 9 => .array .boolean
  | 10 => .array .byte
  | 11 => .int
  | 12 => .int
  | 13 => .array .boolean
  | 14 => .array .boolean
  | 15 => .array .int
  | 16 => .int
  | 17 => .int
  | 18 => .int
  | 19 => .int
  | 20 => .boolean
  | 21 => .int
  | 22 => .array .int
  | 23 => .array .int
  | 24 => .array .int
  | 25 => .int
  | 26 => .array .byte
  | 27 => .int
  | 28 => .array .int
  | 29 => .int
  | _ => .array .int
theorem znm10 : ∀ a, a < 31 → ∀ b, b < 31 → a ≠ b → (zF10 a).2.1 ≠ (zF10 b).2.1 := by decide +kernel
theorem zty10 : ∀ k, k < 31 → parseFieldDescriptor (zF10 k).2.2.1 = some (zt10 k) := by decide +kernel
theorem zin10 : ∀ w ∈ u_ws zR10 zF10 31, w ∈ lw_tbl := by
  intro w hw
  obtain ⟨k, hk, rfl⟩ := List.mem_map.mp hw
  have hk := List.mem_range.mp hk
  refine List.mem_append_right _ (List.mem_of_getElem? (i := ([885, 887, 889, 891, 893, 895, 897, 899, 901, 903, 905, 907, 909, 911, 913, 915, 917, 919, 921, 923, 925, 927, 929, 931, 933, 935, 937, 939, 941, 943, 945] : List Nat).getD k 0) ?_)
  revert k
  decide +kernel
abbrev zCls : List vw_C := [(zR0, zF0, 4), (zR1, zF1, 4), (zR2, zF2, 4), (zR3, zF3, 2), (zR4, zF4, 7), (zR5, zF5, 7), (zR6, zF6, 9), (zR7, zF7, 2), (zR8, zF8, 5), (zR9, zF9, 12), (zR10, zF10, 31)]
def zON (c : Nat) : String := (["StyledRuns$Act", "StyledRuns$Anchor", "StyledRuns$History", "StyledRuns$Looks", "StyledRuns$Reader", "StyledRuns$Sheet", "StyledRuns$Span", "StyledRuns$Tape", "StyledRuns$Writer", "StyledRuns", "StyledRunsModel", "StyledRuns$Place", "StyledRuns$Style", "StyledRunsLaw", "java/lang/Math"] : List String).getD c ""
/-- of a class: its slots; 0: a number; o: the cell o behind the object itself -/
def zFk (c : Nat) : List Nat := ([[0, 0, 0, 0], [0, 0, 0, 0], [1, 2, 0, 0], [1, 0], [1, 2, 0, 0, 3, 4, 0], [1, 2, 0, 3, 0, 4, 0], [0, 0, 0, 0, 0, 0, 0, 0, 0], [1, 0], [1, 0, 2, 3, 0], [1, 34, 36, 311, 312, 313, 315, 317, 322, 326, 0, 0], [0, 0, 1, 2, 3, 4, 0, 5, 6, 7, 8, 0, 0, 9, 10, 11, 0, 0, 0, 0, 0, 0, 12, 13, 14, 0, 15, 0, 16, 0, 17]] : List (List Nat)).getD c []
def zShe (o : Nat) : Nat × Nat × Nat := if o = 0 then (0, 5, 0) else if o ≤ 2 then (1, 0, 200) else if o = 3 then (2, 0, 16) else if o = 4 then (2, 1, 12) else if o ≤ 20 then (0, 6, 0) else (0, 1, 0)
/-- the shape of a cell: (0, class, 0); (1, 0 int 1 byte 2 boolean, length); (2, which kind of row, length) -/
def zSh (a : Nat) : Nat × Nat × Nat := if a < 34 then (if a = 0 then (0, 9, 0) else zShe (a - 1)) else if a < 39 then ([(0, 7, 0), (1, 0, 400), (0, 2, 0), (2, 2, 8), (2, 4, 8)] : List (Nat × Nat × Nat)).getD (a - 34) (3, 0, 0) else if a < 311 then (if (a - 39) % 34 = 33 then (0, 0, 0) else zShe ((a - 39) % 34)) else if a < 327 then ([(2, 3, 2), (1, 2, 2), (0, 3, 0), (1, 0, 200), (0, 3, 0), (1, 0, 200), (0, 4, 0), (1, 0, 200), (1, 0, 200), (1, 0, 8), (1, 0, 9), (0, 8, 0), (1, 0, 400), (1, 0, 6), (1, 0, 6), (1, 0, 7)] : List (Nat × Nat × Nat)).getD (a - 311) (3, 0, 0) else if a < 393 then zShe ((a - 327) % 33) else if a < 411 then ([(0, 10, 0), (1, 0, 7), (1, 0, 995), (1, 0, 7960), (1, 0, 8), (1, 0, 24), (1, 0, 1990), (1, 2, 2), (1, 1, 400), (1, 2, 16), (1, 2, 12), (1, 0, 800), (1, 0, 800), (1, 0, 8), (1, 0, 8), (1, 1, 10000), (1, 0, 201), (1, 0, 200)] : List (Nat × Nat × Nat)).getD (a - 393) (3, 0, 0) else if a = 100000 then (1, 0, 6) else (3, 0, 0)
def zRc (c : Nat) : Nat := ([3, 4, 5, 5, 6] : List Nat).getD c 0
def zRk (c : Nat) : Nat := ([6, 1, 5, 5, 0] : List Nat).getD c 0
def zRo (c : Nat) : Nat := ([2, 17, 2, 16, 34] : List Nat).getD c 0
def zRs (c : Nat) : Nat := ([1, 1, 34, 33, 34] : List Nat).getD c 0
/-- field links: (own class, entry, class, slot, place in the tables) -/
def zFL : List (Nat × Nat × Nat × Nat × Nat) := [(9, 10, 9, 0, 282), (9, 19, 9, 1, 283), (9, 26, 9, 2, 284), (9, 30, 9, 3, 285), (9, 34, 9, 4, 286), (9, 41, 9, 5, 287), (9, 45, 9, 6, 288), (9, 51, 9, 7, 289), (9, 58, 9, 8, 290), (9, 62, 9, 9, 291), (9, 66, 9, 10, 292), (9, 70, 9, 11, 293), (9, 74, 7, 1, 157), (9, 108, 5, 2, 121), (9, 133, 5, 4, 127), (9, 136, 5, 3, 124), (9, 140, 6, 0, 42), (9, 145, 6, 1, 45), (9, 148, 6, 2, 48), (9, 151, 6, 3, 51), (9, 154, 6, 8, 65), (9, 157, 6, 4, 54), (9, 160, 6, 5, 57), (9, 163, 6, 6, 60), (9, 166, 6, 7, 63), (9, 175, 5, 1, 117), (9, 188, 3, 0, 217), (9, 191, 5, 6, 131), (9, 194, 5, 5, 129), (9, 198, 1, 0, 93), (9, 201, 1, 1, 96), (9, 204, 1, 2, 99), (9, 207, 1, 3, 102), (9, 217, 4, 3, 238), (9, 228, 8, 0, 266), (9, 235, 2, 3, 199), (9, 248, 5, 0, 114), (9, 348, 7, 0, 155), (0, 9, 0, 0, 181), (0, 15, 0, 1, 183), (0, 18, 0, 2, 184), (0, 21, 0, 3, 185), (1, 7, 1, 0, 91), (1, 13, 1, 1, 94), (1, 17, 1, 2, 97), (1, 20, 1, 3, 100), (2, 11, 2, 0, 195), (2, 19, 2, 1, 196), (2, 23, 2, 2, 197), (2, 27, 2, 3, 198), (2, 49, 0, 0, 182), (3, 9, 3, 0, 215), (3, 15, 3, 1, 218), (3, 19, 5, 2, 119), (3, 22, 5, 1, 116), (3, 31, 5, 4, 126), (3, 34, 5, 3, 123), (3, 38, 6, 3, 50), (3, 43, 6, 0, 40), (3, 51, 6, 2, 47), (3, 60, 6, 1, 44), (3, 66, 6, 4, 53), (3, 69, 6, 5, 56), (3, 72, 6, 6, 59), (3, 75, 6, 7, 62), (4, 9, 4, 0, 231), (4, 15, 4, 1, 233), (4, 18, 4, 2, 235), (4, 22, 4, 3, 237), (4, 25, 4, 4, 239), (4, 28, 4, 5, 240), (4, 31, 4, 6, 241), (4, 36, 7, 1, 158), (5, 9, 5, 0, 112), (5, 15, 5, 1, 115), (5, 18, 5, 2, 118), (5, 24, 5, 3, 122), (5, 28, 5, 4, 125), (5, 33, 5, 5, 128), (5, 37, 5, 6, 130), (5, 55, 4, 2, 236), (5, 58, 4, 0, 232), (5, 59, 4, 1, 234), (5, 60, 6, 0, 41), (5, 64, 1, 0, 92), (5, 65, 1, 3, 101), (5, 78, 7, 1, 159), (5, 88, 7, 0, 154), (5, 95, 1, 1, 95), (5, 98, 1, 2, 98), (6, 9, 6, 0, 39), (6, 15, 6, 1, 43), (6, 19, 6, 2, 46), (6, 22, 6, 3, 49), (6, 25, 6, 4, 52), (6, 28, 6, 5, 55), (6, 31, 6, 6, 58), (6, 34, 6, 7, 61), (6, 37, 6, 8, 64), (7, 9, 7, 0, 153), (7, 15, 7, 1, 156), (8, 9, 8, 0, 265), (8, 15, 8, 1, 267), (8, 22, 8, 2, 268), (8, 25, 8, 3, 269), (8, 28, 8, 4, 270), (8, 31, 5, 2, 120), (8, 42, 3, 0, 216), (8, 56, 5, 0, 113), (10, 7, 10, 2, 856), (10, 13, 10, 3, 857), (10, 16, 10, 4, 858), (10, 19, 10, 5, 859), (10, 22, 10, 7, 861), (10, 25, 10, 8, 862), (10, 28, 10, 9, 863), (10, 32, 10, 10, 864), (10, 36, 10, 12, 866), (10, 40, 10, 13, 867), (10, 43, 10, 14, 868), (10, 46, 10, 15, 869), (10, 49, 10, 22, 876), (10, 52, 10, 23, 877), (10, 55, 10, 24, 878), (10, 58, 10, 26, 880), (10, 61, 10, 28, 882), (10, 64, 10, 30, 884), (10, 67, 10, 0, 854), (10, 70, 10, 1, 855), (10, 73, 10, 6, 860), (10, 113, 10, 11, 865), (10, 177, 10, 16, 870), (10, 180, 10, 17, 871), (10, 183, 10, 18, 872), (10, 203, 10, 20, 874), (10, 207, 10, 19, 873), (10, 219, 10, 25, 879), (10, 222, 10, 21, 875), (10, 231, 10, 27, 881), (10, 269, 10, 29, 883)]
def zCN (c : Nat) : vw_C := zCls.getD c ("", fun _ => ("", "", "", false), 0)
theorem zFL_ok : zFL.all (fun e => decide (tables_1[e.2.2.2.2]? = some (Cond.fieldLink (zON e.1) e.2.1 ((zCN e.2.2.1).2.1 e.2.2.2.1).1 ((zCN e.2.2.1).2.1 e.2.2.2.1).2.1 ((zCN e.2.2.1).2.1 e.2.2.2.1).2.2.1)) && decide (e.2.2.1 < 11) && decide (e.2.2.2.1 < (zCN e.2.2.1).2.2)) = true := by decide +kernel
/-- int constants, long constants: (own class, entry, value, place) -/
def zCI : List (Nat × Nat × Int32 × Nat) := [(9, 274, -2147483648, 713), (10, 282, -2147483648, 1238)]
def zCL : List (Nat × Nat × Int32 × Nat) := [(10, 101, 32, 1006), (10, 103, 126, 1007), (10, 157, 15, 1075), (10, 159, -1, 1076), (10, 161, 7, 1077), (10, 163, -3, 1078), (10, 165, 3, 1079), (10, 167, 9, 1071), (10, 261, 6, 1207), (10, 263, 5, 1208), (10, 275, 4, 1221), (10, 286, 2, 1247), (10, 294, 200, 1272)]
theorem zCI_ok : zCI.all (fun e => decide (tables_1[e.2.2.2]? = some (Cond.constant (zON e.1) e.2.1 e.2.2.1))) = true := by decide +kernel
theorem zCL_ok : zCL.all (fun e => decide (tables_1[e.2.2.2]? = some (Cond.constantLong (zON e.1) e.2.1 e.2.2.1.toInt64))) = true := by decide +kernel
def zNW : List (Nat × Nat × Nat × Nat) := [(9, 7, 5, 24), (9, 16, 7, 147), (9, 23, 2, 165), (9, 38, 3, 209), (9, 48, 4, 225), (9, 55, 8, 257), (2, 9, 5, 171), (2, 17, 0, 173), (5, 22, 6, 30), (5, 31, 1, 32), (13, 7, 9, 16), (13, 10, 10, 848)]
theorem zNW_ok : zNW.all (fun e => decide (tables_1[e.2.2.2]? = some (Cond.classLink (zON e.1) e.2.1 (zON e.2.2.1))) && decide (e.2.2.1 < 11)) = true := by decide +kernel
def zGS : List (Nat × Nat × Nat) := [(4, 73, 574), (8, 19, 263)]
-- [(4, 73, 574, 'StyledRuns'), (8, 19, 263, 'StyledRuns')]
theorem zGS_ok : zGS.all (fun e => decide (tables_1[e.2.2]? = some (Cond.fieldLinkNest (zON e.1) e.2.1 "StyledRuns" "MARK_SIGNS" "[I" "StyledRuns"))) = true := by decide +kernel
end
section
/-! the heap as numbers: a layout that is fixed, and sg: cell, slot ↦ number -/
abbrev zSig : Type := Nat → Int32 → Int32
abbrev zHp : Type := zSig × Nat × (Nat → Nat → Bool)
/-- a method: own class, name, code, locals, answer, frames and words that its calls take -/
abbrev zMT : Type := Nat × MethodName × ByteArray × Nat × Option FieldType × Nat × Nat
abbrev zop : Type := Nat × Nat × Nat × Nat × Int32
abbrev zLv : Type := List (Nat × Value)
/-- first cell, the signs' cell, the script's cell; classes and slots; array classes; what signs and script hold -/
abbrev zKT : Type := (Nat × Nat × Nat) × va_G × (Nat → ClassId) × zSig
def zNs : List Cond := [(Jvm.Cond.methodLinkNest "StyledRuns$Sheet" (40 : Nat) ({ cls := "StyledRuns$Span", name := "<init>", desc := "()V" } : Jvm.MethodName) "StyledRuns"), (Jvm.Cond.methodLinkNest "StyledRuns$Sheet" (41 : Nat) ({ cls := "StyledRuns$Anchor", name := "<init>", desc := "()V" } : Jvm.MethodName) "StyledRuns"), (Jvm.Cond.methodLinkNest "StyledRuns" (18 : Nat) ({ cls := "StyledRuns$Tape", name := "<init>", desc := "()V" } : Jvm.MethodName) "StyledRuns"), (Jvm.Cond.methodLinkNest "StyledRuns$History" (31 : Nat) ({ cls := "StyledRuns$Act", name := "<init>", desc := "()V" } : Jvm.MethodName) "StyledRuns"), (Jvm.Cond.methodLinkNest "StyledRuns" (40 : Nat) ({ cls := "StyledRuns$Looks", name := "<init>", desc := "()V" } : Jvm.MethodName) "StyledRuns"), (Jvm.Cond.methodLinkNest "StyledRuns" (50 : Nat) ({ cls := "StyledRuns$Reader", name := "<init>", desc := "()V" } : Jvm.MethodName) "StyledRuns"), (Jvm.Cond.methodLinkNest "StyledRuns" (57 : Nat) ({ cls := "StyledRuns$Writer", name := "<init>", desc := "()V" } : Jvm.MethodName) "StyledRuns"), (Jvm.Cond.fieldLinkNest "StyledRuns$Writer" (19 : Nat) "StyledRuns" "MARK_SIGNS" "[I" "StyledRuns"), (Jvm.Cond.fieldLinkNest "StyledRuns$Reader" (73 : Nat) "StyledRuns" "MARK_SIGNS" "[I" "StyledRuns"), (Jvm.Cond.methodLinkNest "StyledRuns$Reader" (59 : Nat) ({ cls := "StyledRuns", name := "isWithin", desc := "(II)Z" } : Jvm.MethodName) "StyledRuns")]
/-- the words that every call hands on -/
def zTbl : List Cond := lw_tbl.filter goodWord
theorem zTbl_of {w : Cond} (h : w ∈ lw_tbl) (hg : goodWord w = true) : w ∈ zTbl := List.mem_filter.mpr ⟨h, hg⟩
def zAO : List String := ["StyledRuns$Span", "StyledRuns$Anchor", "StyledRuns$Sheet", "StyledRuns$Act"]
def zad (k : zKT) (a : Nat) : Nat := if a < 100000 then k.1.1 + a else if a = 100000 then k.1.2.1 else k.1.2.2
def zv (k : zKT) : Value → Value
  | .ref a => .ref (zad k a)
  | v => v
def zvp (k : zKT) (q : Nat × Value) : Nat × Value := (q.1, zv k q.2)
def zFs (k : zKT) (h : zHp) (a c : Nat) : List Value := (List.range (zFk c).length).map fun j => if (zFk c).getD j 0 = 0 then .int (h.1 a (nI j)) else if h.2.2 a j = true then .ref (k.1.1 + (a + (zFk c).getD j 0)) else .null
def zAi (h : zHp) (a n : Nat) : Nat → Int32 := fun j => if j < n then h.1 a (nI j) else 0
def zAr (k : zKT) (h : zHp) (a c n : Nat) : Nat → Option Nat := fun j => if j < n ∧ h.2.2 a j = true then some (k.1.1 + (a + zRo c + zRs c * j)) else none
def zE (k : zKT) (h : zHp) (a : Nat) : va_E :=
  if (zSh a).1 = 0 then .inr ((zSh a).2.1, zFs k h a (zSh a).2.1)
  else if (zSh a).1 = 1 then .inl (k.2.2.1 (zSh a).2.1, (zSh a).2.2, .inl (zAi h a (zSh a).2.2))
  else .inl (k.2.2.1 (zRc (zSh a).2.1), (zSh a).2.2, .inr (.inr (.inr (.inr (zAr k h a (zSh a).2.1 (zSh a).2.2)))))
def zWs (k : zKT) (h : zHp) : va_W := (List.range h.2.1).map fun a => (k.1.1 + a, zE k h a)
def zTys (k : zKT) : List (ClassId × FieldType) := [(k.2.2.1 0, .int), (k.2.2.1 1, .byte), (k.2.2.1 2, .boolean), (k.2.2.1 3, .object "StyledRuns$Span"), (k.2.2.1 4, .object "StyledRuns$Anchor"), (k.2.2.1 5, .object "StyledRuns$Sheet"), (k.2.2.1 6, .object "StyledRuns$Act")]
def zPic (k : zKT) (h : zHp) (H : Heap) : Prop := va_P k.2.1 zCls (zWs k h) H ∧ h.2.1 ≤ 98000 ∧ h.1 100000 = k.2.2.2 100000 ∧ h.1 100001 = k.2.2.2 100001
def zB (k : zKT) : Nat → Prop := fun q => k.1.1 ≤ q
def zSt (k : zKT) (U : State) (H : Heap) : Prop := va_K k.2.1 zCls (zTys k) U ∧ k.1.2.1 < k.1.1 ∧ k.1.2.2 < k.1.1 ∧ va_Z "StyledRuns" "MARK_SIGNS" "[I" (.ref k.1.2.1) (zB k) U H ∧ va_T .int k.1.2.1 6 (fun j => .int (k.2.2.2 100000 (nI j))) (zB k) U H ∧ va_T .int k.1.2.2 (k.2.2.2 100001 (-1)).toNatClampNeg (fun j => .int (k.2.2.2 100001 (nI j))) (zB k) U H ∧ (¬ k.2.2.2 100001 (-1) < 0) ∧ (∀ w ∈ zNs, va_Nw w U) ∧ (∀ C ∈ zAO, va_AO C U)
def zCx (k : zKT) (M : zMT) (p : Program) (R : Room) (s : State) (m : MethodId) (args : Array Value) (meth : Method) (c : Code) : Prop := p.tables.exec = Jvm.exec ∧ c.code = M.2.2.1 ∧ meth.sig.returnType = M.2.2.2.2.1 ∧ c.maxLocals = M.2.2.2.1 ∧ s.vm.findClass (zON M.1) = some m.cls ∧ (∀ w ∈ zTbl, w.before args s = true) ∧ meth.locks = false ∧ meth.name = M.2.1.name ∧ M.2.2.2.2.2.1 ≤ R.frames ∧ M.2.2.2.2.2.2 ≤ R.locals ∧ zSt k s s.heap
def zsz (a : Nat) : Nat := if (zSh a).1 = 0 then (zFk (zSh a).2.1).length else (zSh a).2.2
def zss : Nat → Nat
  | 0 => 0
  | n + 1 => zss n + zsz n
def zRm (k : zKT) (h : zHp) (N : Nat) (R : Room) (s : State) (cells slots : Nat) : Prop := k.1.1 ≤ s.heap.size ∧ h.2.1 ≤ N ∧ N ≤ 100000 ∧ s.heap.size + cells = k.1.1 + h.2.1 ∧ zss (s.heap.size - k.1.1) + slots = zss h.2.1 ∧ k.1.1 + N ≤ s.heap.size + R.cells ∧ zss N ≤ zss (s.heap.size - k.1.1) + R.slots
def zRet (M : zMT) (pc : Nat) (r : Option Value) : Prop := match r with
  | none => decode M.2.2.1 pc = .ok (.return_, 1) ∧ M.2.2.2.2.1 = none
  | some (.int v) => decode M.2.2.1 pc = .ok (.ireturn, 1) ∧ ∃ ty, M.2.2.2.2.1 = some ty ∧ narrow ty (.int v) = .int v
  | some (.ref _) => decode M.2.2.1 pc = .ok (.areturn, 1) ∧ ∃ n, M.2.2.2.2.1 = some (.object n)
  | _ => False
/-- THE JUDGEMENT: from pc of M, with locals lv, stack st and the heap h, the machine comes to M's return with Q; at most the cells up to N are made -/
def zG (M : zMT) (N : Nat) (Q : Option Value → zHp → Prop) (pc : Nat) (lv : zLv) (st : List Value) (h : zHp) : Prop :=
  ∀ (k : zKT) (p : Program) (l : Launch) (e : Env) (R : Room) (s : State) (m : MethodId) (args : Array Value) (below : List Frame) (meth : Method) (c : Code) (H : Heap) (ls : Array Slot) (locs : List Loc) (cells slots : Nat) (Qf : State → Prop),
    zCx k M p R s m args meth c → zPic k h H → va_S (zB k) s.heap H locs → lv_has ls M.2.2.2.1 (lv.map (zvp k)) → zRm k h N R s cells slots →
    (∀ (pc' : Nat) (ls' : Array Slot) (H' : Heap) (locs' : List Loc) (cells' slots' : Nat) (r : Option Value) (h' : zHp), Q r h' → h'.2.1 = N → zPic k h' H' → va_S (zB k) s.heap H' locs' → zRm k h' N R s cells' slots' → zRet M pc' r →
      W p l e R s m args below meth c H' locs' cells' slots' Qf (F0 m pc' ls' (r.toList.map (zv k)))) →
    W p l e R s m args below meth c H locs cells slots Qf (F0 m pc ls (st.map (zv k)))
/-! rows on the picture -/
theorem zWs_get {k : zKT} {h : zHp} {a : Nat} (ha : a < h.2.1) : (zWs k h)[a]? = some (k.1.1 + a, zE k h a) := by
  simp [zWs, List.getElem?_map, List.getElem?_range ha]
theorem zWs_len {k : zKT} {h : zHp} : (zWs k h).length = h.2.1 := by simp [zWs]
theorem zWs_D {k : zKT} {h : zHp} : va_D (zB k) (zWs k h) := by
  refine ⟨fun i j p q hi hj hpq => ?_, fun i q hi => ?_⟩
  · have h1 : i < h.2.1 := by have := (List.getElem?_eq_some_iff.mp hi).1; rwa [zWs_len] at this
    have h2 : j < h.2.1 := by have := (List.getElem?_eq_some_iff.mp hj).1; rwa [zWs_len] at this
    rw [zWs_get h1] at hi; rw [zWs_get h2] at hj
    cases hi; cases hj
    simp only at hpq; omega
  · have h1 : i < h.2.1 := by have := (List.getElem?_eq_some_iff.mp hi).1; rwa [zWs_len] at this
    rw [zWs_get h1] at hi
    cases hi
    exact Nat.le_add_right _ _
theorem zWs_set {k : zKT} {h h' : zHp} {a : Nat} {e : va_E} (ha : a < h.2.1) (hn : h'.2.1 = h.2.1) (he : e = zE k h' a) (ho : ∀ b, b ≠ a → zE k h' b = zE k h b) : (zWs k h).set a (k.1.1 + a, e) = zWs k h' := by
  subst he
  apply List.ext_getElem?
  intro j
  by_cases hj : j < h.2.1
  · by_cases hja : j = a
    · subst hja
      rw [zWs_get (h := h') (by rw [hn]; exact hj), List.getElem?_set_self (by rw [zWs_len]; exact hj)]
    · rw [List.getElem?_set_ne (fun q => hja q.symm), zWs_get hj, zWs_get (h := h') (by rw [hn]; exact hj), ho j hja]
  · rw [List.getElem?_eq_none (by rw [List.length_set, zWs_len]; omega), List.getElem?_eq_none (by rw [zWs_len, hn]; omega)]
def zup (sg : zSig) (a : Nat) (i x : Int32) : zSig := fun b => if b = a then (fun j => if j = i then x else sg a j) else sg b
theorem zE_ne {k : zKT} {h h' : zHp} {b : Nat} (h1 : h'.1 b = h.1 b) (h2 : h'.2.2 b = h.2.2 b) : zE k h' b = zE k h b := by
  unfold zE zFs zAi zAr
  rw [h1, h2]
theorem zE_0 {k : zKT} {h : zHp} {a c : Nat} (hs : zSh a = (0, c, 0)) : zE k h a = .inr (c, zFs k h a c) := by
  unfold zE; rw [hs]; rfl
theorem zE_1 {k : zKT} {h : zHp} {a t n : Nat} (hs : zSh a = (1, t, n)) : zE k h a = .inl (k.2.2.1 t, n, .inl (zAi h a n)) := by
  unfold zE; rw [hs]; rfl
theorem zE_2 {k : zKT} {h : zHp} {a c n : Nat} (hs : zSh a = (2, c, n)) : zE k h a = .inl (k.2.2.1 (zRc c), n, .inr (.inr (.inr (.inr (zAr k h a c n))))) := by
  unfold zE; rw [hs]; rfl
theorem zFs_get {k : zKT} {h : zHp} {a c j : Nat} (hj : j < (zFk c).length) : (zFs k h a c)[j]? = some (if (zFk c).getD j 0 = 0 then .int (h.1 a (nI j)) else if h.2.2 a j = true then .ref (k.1.1 + (a + (zFk c).getD j 0)) else .null) := by
  simp [zFs, List.getElem?_map, List.getElem?_range hj]
theorem zFs_len {k : zKT} {h : zHp} {a c : Nat} : (zFs k h a c).length = (zFk c).length := by simp [zFs]
/-- small numbers told apart -/
theorem znI_ne {i j : Nat} (hi : i < 2 ^ 31) (hj : j < 2 ^ 31) (h : i ≠ j) : nI i ≠ nI j := fun q => h ((nI_eq hi hj).mp q)
theorem zFk_small : ∀ c, (zFk c).length ≤ 31 := by
  intro c
  by_cases hc : c < 11
  · revert c; decide +kernel
  · unfold zFk
    rw [List.getD_eq_getElem?_getD, List.getElem?_eq_none (by simp; omega)]
    exact Nat.zero_le _
theorem zFs_set {k : zKT} {h : zHp} {a c j : Nat} {x : Int32} (hj : j < (zFk c).length) (h0 : (zFk c).getD j 0 = 0) : (zFs k h a c).set j (.int x) = zFs k (zup h.1 a (nI j) x, h.2) a c := by
  have hb := zFk_small c
  apply List.ext_getElem?
  intro i
  by_cases hi : i < (zFk c).length
  · by_cases hij : i = j
    · subst hij
      rw [List.getElem?_set_self (by rw [zFs_len]; exact hi), zFs_get hi, if_pos h0]
      simp [zup]
    · rw [List.getElem?_set_ne (fun q => hij q.symm), zFs_get hi, zFs_get hi]
      have : nI i ≠ nI j := znI_ne (by omega) (by omega) hij
      simp [zup, this]
  · rw [List.getElem?_eq_none (by rw [List.length_set, zFs_len]; omega), List.getElem?_eq_none (by rw [zFs_len]; omega)]
theorem zAi_set {h : zHp} {a n : Nat} {i x : Int32} (hn : n < 2 ^ 31) (hi : vp_in i n) : upd (zAi h a n) i.toNatClampNeg x = zAi (zup h.1 a i x, h.2) a n := by
  obtain ⟨j, hj, rfl⟩ := vp_in_of hi hn
  have hjc : (nI j).toNatClampNeg = j := nI_clamp (by omega)
  funext q
  unfold upd zAi zup
  rw [hjc]
  by_cases hq : q = j
  · subst hq; simp [hj]
  · by_cases hqn : q < n
    · have : nI q ≠ nI j := znI_ne (by omega) (by omega) hq
      simp [hq, hqn, this]
    · simp [hq, hqn]
/-- the picture behind a number that is stored -/
theorem zPic_up {k : zKT} {h : zHp} {H H1 : Heap} {a : Nat} {i x : Int32} {e : va_E} (hP : zPic k h H) (ha : a < h.2.1) (he : e = zE k (zup h.1 a i x, h.2) a) (hW : va_P k.2.1 zCls ((zWs k h).set a (k.1.1 + a, e)) H1) : zPic k (zup h.1 a i x, h.2) H1 := by
  obtain ⟨h2, h3, h4, h5⟩ := hP
  refine ⟨?_, h3, ?_, ?_⟩
  · rw [zWs_set (h' := (zup h.1 a i x, h.2)) ha rfl he (fun b hb => zE_ne (by simp [zup, hb]) rfl)] at hW
    exact hW
  · show zup h.1 a i x 100000 = _
    have : (100000 : Nat) ≠ a := by omega
    simp only [zup, if_neg this]; exact h4
  · show zup h.1 a i x 100001 = _
    have : (100001 : Nat) ≠ a := by omega
    simp only [zup, if_neg this]; exact h5
theorem zmap_filter (k : zKT) (lv : zLv) (i : Nat) : (lv.map (zvp k)).filter (fun q => !(q.1 == i) && !(q.1 + 1 == i && q.2.category == 2)) = (lv.filter (fun q => !(q.1 == i) && !(q.1 + 1 == i && q.2.category == 2))).map (zvp k) := by
  rw [List.filter_map]
  congr 1
  apply List.filter_congr
  intro q _
  obtain ⟨n, v⟩ := q
  cases v <;> rfl
def zld (lv : zLv) (i : Nat) : Option Value := (lv.find? (fun q => q.1 == i)).map (fun q => q.2)
def zst1 (lv : zLv) (i : Nat) (v : Value) : zLv := (i, v) :: lv.filter (fun q => !(q.1 == i) && !(q.1 + 1 == i && q.2.category == 2))
theorem zld_has {k : zKT} {ls : Array Slot} {n i : Nat} {lv : zLv} {v : Value} (L : lv_has ls n (lv.map (zvp k))) (hv : zld lv i = some v) : ls[i]? = some (.val (zv k v)) := by
  unfold zld at hv
  cases hf : lv.find? (fun q => q.1 == i) with
  | none => rw [hf] at hv; cases hv
  | some q =>
    rw [hf] at hv
    have hm := List.mem_of_find?_eq_some hf
    have hq := List.find?_some hf
    have hq : q.1 = i := by simpa using hq
    have := L.2.2 (zvp k q) (List.mem_map.mpr ⟨q, hm, rfl⟩)
    cases hv
    rw [← hq]; exact this
theorem zst1_map (k : zKT) (lv : zLv) (i : Nat) (v : Value) : (i, zv k v) :: (lv.map (zvp k)).filter (fun q => !(q.1 == i) && !(q.1 + 1 == i && q.2.category == 2)) = (zst1 lv i v).map (zvp k) := by
  rw [zmap_filter]; rfl
/-! the ops -/
def zbin (c : Nat) (x y : Int32) : Int32 := match c with
  | 0 => x + y
  | 1 => x - y
  | 2 => x * y
  | 3 => x &&& y
  | 4 => x ||| y
  | 5 => x ^^^ y
  | 6 => x <<< (y &&& 31)
  | 7 => x >>> (y &&& 31)
  | 8 => (x.toUInt32 >>> (y.toUInt32 &&& Int32.toUInt32 31)).toInt32
  | 9 => x / y
  | _ => x - x / y * y
def zbinP (c : Nat) (y : Int32) : List Prop := match c with
  | 9 => [¬ y = 0]
  | 10 => [¬ y = 0]
  | _ => []
/-- an index within an array of numbers -/
def zIn (h : zHp) (a t : Nat) (i : Int32) : Prop := a < h.2.1 ∧ (zSh a).1 = 1 ∧ (zSh a).2.1 = t ∧ 0 ≤ i ∧ i < nI (zSh a).2.2
/-- ... of a load of ints: the signs and the script too -/
def zInL (h : zHp) (a : Nat) (i : Int32) : Prop := zIn h a 0 i ∨ (a = 100000 ∧ 0 ≤ i ∧ i < 6) ∨ (a = 100001 ∧ 0 ≤ i ∧ i < h.1 100001 (-1))
def zInR (h : zHp) (a : Nat) (i : Int32) : Prop := a < h.2.1 ∧ (zSh a).1 = 2 ∧ 0 ≤ i ∧ i < nI (zSh a).2.2 ∧ h.2.2 a i.toNatClampNeg = true ∧ a + zRo (zSh a).2.1 + zRs (zSh a).2.1 * i.toNatClampNeg < 100000
def zel (a : Nat) (i : Int32) : Nat := a + zRo (zSh a).2.1 + zRs (zSh a).2.1 * i.toNatClampNeg
def zln (h : zHp) (a : Nat) : Int32 := if a = 100001 then h.1 100001 (-1) else nI (zSh a).2.2
def zOb (h : zHp) (a c : Nat) : Prop := a < h.2.1 ∧ zSh a = (0, c, 0)
def zstep (o : zop) (lv : zLv) (st : List Value) (h : zHp) : Option (zLv × List Value × zHp × List Prop) := match o with
  | (0, _, _, _, x) => some (lv, .int x :: st, h, [])
  | (1, j, t, _, _) => match t, zld lv j with
    | 0, some (.int x) => some (lv, .int x :: st, h, [])
    | 1, some (.ref x) => some (lv, .ref x :: st, h, [])
    | 2, some (.long x) => some (lv, .long x :: st, h, [])
    | _, _ => none
  | (2, j, t, _, _) => match t, st with
    | 0, .int x :: st => some (zst1 lv j (.int x), st, h, [])
    | 1, .ref x :: st => some (zst1 lv j (.ref x), st, h, [])
    | _, _ => none
  | (3, j, _, _, x) => match zld lv j with
    | some (.int y) => some (zst1 lv j (.int (y + x)), st, h, [])
    | _ => none
  | (4, c, _, _, _) => match st with
    | .int y :: .int x :: st => some (lv, .int (zbin c x y) :: st, h, zbinP c y)
    | _ => none
  | (5, c, k, 0, i) => match st with
    | .ref a :: st => some (lv, .int (h.1 a i) :: st, h, [zOb h a c])
    | _ => none
  | (5, c, k, o + 1, i) => match st with
    | .ref a :: st => some (lv, .ref (a + (o + 1)) :: st, h, [zOb h a c ∧ h.2.2 a k = true])
    | _ => none
  | (6, c, k, 0, i) => match st with
    | .int x :: .ref a :: st => some (lv, st, (zup h.1 a i x, h.2), [zOb h a c])
    | _ => none
  | (6, c, k, _ + 1, i) => match st with
    | .int x :: .ref a :: st => some (lv, st, (zup h.1 a i x, h.2), [zOb h a c, x = 0 ∨ x = 1])
    | _ => none
  | (7, t, _, _, _) => match st with
    | .int i :: .ref a :: st => some (lv, .int (h.1 a i) :: st, h, [match t with | 0 => zInL h a i | t + 1 => zIn h a (t + 1) i])
    | _ => none
  | (8, t, _, _, _) => match st with
    | .int x :: .int i :: .ref a :: st => some (lv, st, (zup h.1 a i (match t with | 0 => x | 1 => x.toInt8.toInt32 | _ => x &&& 1), h.2), [zIn h a t i])
    | _ => none
  | (9, _, _, _, _) => match st with
    | .int i :: .ref a :: st => some (lv, .ref (zel a i) :: st, h, [zInR h a i])
    | _ => none
  | (10, _, _, _, _) => match st with
    | .ref a :: st => some (lv, .int (zln h a) :: st, h, [(a < h.2.1 ∧ (zSh a).1 = 1 ∧ (zSh a).2.1 < 3) ∨ a = 100000 ∨ a = 100001])
    | _ => none
  | (11, _, _, _, _) => some (lv, .ref 100000 :: st, h, [])
  | (12, _, _, _, _) => match st with
    | .int x :: st => some (lv, .int (-x) :: st, h, [])
    | _ => none
  | (13, _, _, _, _) => match st with
    | .int x :: st => some (lv, .int x.toInt8.toInt32 :: st, h, [])
    | _ => none
  | (14, _, _, _, _) => match st with
    | .int x :: st => some (lv, .long x.toInt64 :: st, h, [])
    | _ => none
  | (15, _, _, _, x) => some (lv, .long x.toInt64 :: st, h, [])
  | (16, _, _, _, _) => match st with
    | .long y :: .long x :: st => some (lv, .long (x - y) :: st, h, [])
    | _ => none
  | (17, _, _, _, _) => match st with
    | .long y :: .long x :: st => some (lv, .int (lg_cmp x y) :: st, h, [])
    | _ => none
  | (18, _, _, _, _) => match st with
    | .int x :: st => some (lv, .int x :: .int x :: st, h, [])
    | .ref x :: st => some (lv, .ref x :: .ref x :: st, h, [])
    | _ => none
  | (19, _, _, _, _) => match st with
    | .int x :: .ref y :: st => some (lv, .int x :: .ref y :: .int x :: .ref y :: st, h, [])
    | _ => none
  | (20, _, _, _, _) => match st with
    | .int x :: st => some (lv, st, h, [])
    | _ => none
  | (21, _, _, _, _) => match st with
    | .int x :: .ref y :: st => some (lv, .int x :: .ref y :: .int x :: st, h, [])
    | _ => none
  | (22, _, _, _, _) => some (lv, st, h, [])
  | _ => none
/-- where the next op stands -/
def znext (o : zop) (pc len : Nat) : Nat := if o.1 = 22 then o.2.1 else pc + len
def zmat (M : zMT) (i : Instr) (len pc : Nat) (o : zop) : Bool := match i with
  | .iconst n => len == 1 && (o.1 == 0 && decide (Int32.ofInt n = o.2.2.2.2))
  | .bipush n => len == 2 && (o.1 == 0 && decide ((Int8.ofInt n).toInt32 = o.2.2.2.2))
  | .sipush n => len == 3 && (o.1 == 0 && decide ((Int16.ofInt n).toInt32 = o.2.2.2.2))
  | .ldc x => len == 2 && (o.1 == 0 && zCI.any (fun e => e.1 == M.1 && (e.2.1 == x && decide (e.2.2.1 = o.2.2.2.2))))
  | .ldc_w x => len == 3 && (o.1 == 0 && zCI.any (fun e => e.1 == M.1 && (e.2.1 == x && decide (e.2.2.1 = o.2.2.2.2))))
  | .iload_n j => len == 1 && (o.1 == 1 && (o.2.2.1 == 0 && decide (j.val = o.2.1)))
  | .iload j => len == 2 && (o.1 == 1 && (o.2.2.1 == 0 && decide (j = o.2.1)))
  | .aload_n j => len == 1 && (o.1 == 1 && (o.2.2.1 == 1 && decide (j.val = o.2.1)))
  | .aload j => len == 2 && (o.1 == 1 && (o.2.2.1 == 1 && decide (j = o.2.1)))
  | .lload_n j => len == 1 && (o.1 == 1 && (o.2.2.1 == 2 && decide (j.val = o.2.1)))
  | .lload j => len == 2 && (o.1 == 1 && (o.2.2.1 == 2 && decide (j = o.2.1)))
  | .istore_n j => len == 1 && (o.1 == 2 && (o.2.2.1 == 0 && (decide (j.val = o.2.1) && decide (o.2.1 < M.2.2.2.1))))
  | .istore j => len == 2 && (o.1 == 2 && (o.2.2.1 == 0 && (decide (j = o.2.1) && decide (o.2.1 < M.2.2.2.1))))
  | .astore_n j => len == 1 && (o.1 == 2 && (o.2.2.1 == 1 && (decide (j.val = o.2.1) && decide (o.2.1 < M.2.2.2.1))))
  | .astore j => len == 2 && (o.1 == 2 && (o.2.2.1 == 1 && (decide (j = o.2.1) && decide (o.2.1 < M.2.2.2.1))))
  | .iinc j n => len == 3 && (o.1 == 3 && (decide (Int32.ofInt n = o.2.2.2.2) && (decide (j = o.2.1) && decide (o.2.1 < M.2.2.2.1))))
  | .iadd => len == 1 && (o.1 == 4 && o.2.1 == 0)
  | .isub => len == 1 && (o.1 == 4 && o.2.1 == 1)
  | .imul => len == 1 && (o.1 == 4 && o.2.1 == 2)
  | .iand => len == 1 && (o.1 == 4 && o.2.1 == 3)
  | .ior => len == 1 && (o.1 == 4 && o.2.1 == 4)
  | .ixor => len == 1 && (o.1 == 4 && o.2.1 == 5)
  | .ishl => len == 1 && (o.1 == 4 && o.2.1 == 6)
  | .ishr => len == 1 && (o.1 == 4 && o.2.1 == 7)
  | .iushr => len == 1 && (o.1 == 4 && o.2.1 == 8)
  | .idiv => len == 1 && (o.1 == 4 && o.2.1 == 9)
  | .irem => len == 1 && (o.1 == 4 && o.2.1 == 10)
  | .getfield x => len == 3 && (o.1 == 5 && (zFL.any (fun e => e.1 == M.1 && (e.2.1 == x && (e.2.2.1 == o.2.1 && e.2.2.2.1 == o.2.2.1))) && (decide ((zFk o.2.1).getD o.2.2.1 0 = o.2.2.2.1) && decide (o.2.2.2.2 = nI o.2.2.1))))
  | .putfield x => len == 3 && (o.1 == 6 && (zFL.any (fun e => e.1 == M.1 && (e.2.1 == x && (e.2.2.1 == o.2.1 && e.2.2.2.1 == o.2.2.1))) && (decide ((zFk o.2.1).getD o.2.2.1 0 = 0) && (decide (o.2.2.2.2 = nI o.2.2.1) && (decide (((zCN o.2.1).2.1 o.2.2.1).2.2.1 = "I") && o.2.2.2.1 == 0 || decide (((zCN o.2.1).2.1 o.2.2.1).2.2.1 = "Z") && o.2.2.2.1 == 1)))))
  | .iaload => len == 1 && (o.1 == 7 && o.2.1 == 0)
  | .baload => len == 1 && (o.1 == 7 && (o.2.1 == 1 || o.2.1 == 2))
  | .iastore => len == 1 && (o.1 == 8 && o.2.1 == 0)
  | .bastore => len == 1 && (o.1 == 8 && (o.2.1 == 1 || o.2.1 == 2))
  | .aaload => len == 1 && o.1 == 9
  | .arraylength => len == 1 && o.1 == 10
  | .getstatic x => len == 3 && (o.1 == 11 && zGS.any (fun e => e.1 == M.1 && e.2.1 == x))
  | .ineg => len == 1 && o.1 == 12
  | .i2b => len == 1 && o.1 == 13
  | .i2l => len == 1 && o.1 == 14
  | .lconst n => len == 1 && (o.1 == 15 && decide (Int64.ofNat (n : Nat) = o.2.2.2.2.toInt64))
  | .ldc2_w x => len == 3 && (o.1 == 15 && zCL.any (fun e => e.1 == M.1 && (e.2.1 == x && decide (e.2.2.1 = o.2.2.2.2))))
  | .lsub => len == 1 && o.1 == 16
  | .lcmp => len == 1 && o.1 == 17
  | .dup => len == 1 && o.1 == 18
  | .dup2 => len == 1 && o.1 == 19
  | .pop => len == 1 && o.1 == 20
  | .dup_x1 => len == 1 && o.1 == 21
  | .goto x => len == 3 && (o.1 == 22 && decide ((pc : Int) + x = (o.2.1 : Int)))
  | _ => false
def zall : List Prop → Prop
  | [] => True
  | p :: ps => p ∧ zall ps
theorem zPic_size {k : zKT} {h : zHp} {H H0 : Heap} {A : Nat → Prop} {locs : List Loc} (P : zPic k h H) (hB : k.1.1 ≤ H0.size) (S : va_S A H0 H locs) : k.1.1 + h.2.1 ≤ H.size := by
  rcases Nat.eq_zero_or_pos h.2.1 with h0 | h0
  · rw [h0]; exact Nat.le_trans hB S.1
  · have h1 := (P.1 (h.2.1 - 1) _ (zWs_get (by omega))).lt
    simp only at h1
    omega
theorem zlt {a n : Nat} (h1 : a < n) (h2 : n ≤ 98000) : a < 100000 := by omega
end
section
/-! each op is what the machine does: printed by wip/whole/gen_steps.py -/
section
variable {M : zMT} {N : Nat} {Q : Option Value → zHp → Prop} {pc : Nat} {lv : zLv} {st : List Value} {h : zHp}
theorem zs_iconst {n : Int} {x : Int32} (hd : decode M.2.2.1 pc = .ok (.iconst n, 1)) (hx : Int32.ofInt n = x) (kk : zG M N Q (pc + 1) lv (.int x :: st) h) : zG M N Q pc lv (st) h := by
  intro k p l e R s m args below meth c H ls locs cells slots Qf C P S L Z F
  exact lv_iconst C.1 C.2.1 hd hx (kk k p l e R s m args below meth c H ls locs cells slots Qf C P S L Z F)
theorem zs_bipush {n : Int} {x : Int32} (hd : decode M.2.2.1 pc = .ok (.bipush n, 2)) (hx : (Int8.ofInt n).toInt32 = x) (kk : zG M N Q (pc + 2) lv (.int x :: st) h) : zG M N Q pc lv (st) h := by
  intro k p l e R s m args below meth c H ls locs cells slots Qf C P S L Z F
  exact lv_bipush C.1 C.2.1 hd hx (kk k p l e R s m args below meth c H ls locs cells slots Qf C P S L Z F)
theorem zs_sipush {n : Int} {x : Int32} (hd : decode M.2.2.1 pc = .ok (.sipush n, 3)) (hx : (Int16.ofInt n).toInt32 = x) (kk : zG M N Q (pc + 3) lv (.int x :: st) h) : zG M N Q pc lv (st) h := by
  intro k p l e R s m args below meth c H ls locs cells slots Qf C P S L Z F
  exact lv_sipush C.1 C.2.1 hd hx (kk k p l e R s m args below meth c H ls locs cells slots Qf C P S L Z F)
theorem zs_ldc {n : Nat} {x : Int32} (hd : decode M.2.2.1 pc = .ok (.ldc n, 2)) (hx : Cond.constant (zON M.1) n x ∈ zTbl) (kk : zG M N Q (pc + 2) lv (.int x :: st) h) : zG M N Q pc lv st h := by
  intro k p l e R s m args below meth c H ls locs cells slots Qf C P S L Z F
  exact lv_ldc C.1 C.2.1 C.2.2.2.2.1 (C.2.2.2.2.2.1 _ hx) hd (kk k p l e R s m args below meth c H ls locs cells slots Qf C P S L Z F)
theorem zs_ldc_w {n : Nat} {x : Int32} (hd : decode M.2.2.1 pc = .ok (.ldc_w n, 3)) (hx : Cond.constant (zON M.1) n x ∈ zTbl) (kk : zG M N Q (pc + 3) lv (.int x :: st) h) : zG M N Q pc lv st h := by
  intro k p l e R s m args below meth c H ls locs cells slots Qf C P S L Z F
  exact lv_ldcw C.1 C.2.1 C.2.2.2.2.1 (C.2.2.2.2.2.1 _ hx) hd (kk k p l e R s m args below meth c H ls locs cells slots Qf C P S L Z F)
theorem zs_lconst {n : Fin 2} {x : Int64} (hd : decode M.2.2.1 pc = .ok (.lconst n, 1)) (hx : Int64.ofNat (n : Nat) = x) (kk : zG M N Q (pc + 1) lv (.long x :: st) h) : zG M N Q pc lv (st) h := by
  intro k p l e R s m args below meth c H ls locs cells slots Qf C P S L Z F
  exact lv_lconst C.1 C.2.1 hd hx (kk k p l e R s m args below meth c H ls locs cells slots Qf C P S L Z F)
theorem zs_ldc2 {n : Nat} {x : Int64} (hd : decode M.2.2.1 pc = .ok (.ldc2_w n, 3)) (hx : Cond.constantLong (zON M.1) n x ∈ zTbl) (kk : zG M N Q (pc + 3) lv (.long x :: st) h) : zG M N Q pc lv st h := by
  intro k p l e R s m args below meth c H ls locs cells slots Qf C P S L Z F
  exact lv_ldc2 C.1 C.2.1 C.2.2.2.2.1 (C.2.2.2.2.2.1 _ hx) hd (kk k p l e R s m args below meth c H ls locs cells slots Qf C P S L Z F)
theorem zs_iload_n {j : Fin 4} {i : Nat} {x : Int32} (hd : decode M.2.2.1 pc = .ok (.iload_n j, 1)) (hj : (j : Nat) = i) (hv : zld lv i = some (.int x)) (kk : zG M N Q (pc + 1) lv (.int x :: st) h) : zG M N Q pc lv st h := by
  intro k p l e R s m args below meth c H ls locs cells slots Qf C P S L Z F
  exact lv_iload_n C.1 C.2.1 hd hj (zld_has L hv) (kk k p l e R s m args below meth c H ls locs cells slots Qf C P S L Z F)
theorem zs_iload {i : Nat} {x : Int32} (hd : decode M.2.2.1 pc = .ok (.iload i, 2)) (hv : zld lv i = some (.int x)) (kk : zG M N Q (pc + 2) lv (.int x :: st) h) : zG M N Q pc lv st h := by
  intro k p l e R s m args below meth c H ls locs cells slots Qf C P S L Z F
  exact lv_iload C.1 C.2.1 hd (zld_has L hv) (kk k p l e R s m args below meth c H ls locs cells slots Qf C P S L Z F)
theorem zs_aload_n {j : Fin 4} {i : Nat} {x : Nat} (hd : decode M.2.2.1 pc = .ok (.aload_n j, 1)) (hj : (j : Nat) = i) (hv : zld lv i = some (.ref x)) (kk : zG M N Q (pc + 1) lv (.ref x :: st) h) : zG M N Q pc lv st h := by
  intro k p l e R s m args below meth c H ls locs cells slots Qf C P S L Z F
  exact lv_aload_n C.1 C.2.1 hd hj (zld_has L hv) (kk k p l e R s m args below meth c H ls locs cells slots Qf C P S L Z F)
theorem zs_aload {i : Nat} {x : Nat} (hd : decode M.2.2.1 pc = .ok (.aload i, 2)) (hv : zld lv i = some (.ref x)) (kk : zG M N Q (pc + 2) lv (.ref x :: st) h) : zG M N Q pc lv st h := by
  intro k p l e R s m args below meth c H ls locs cells slots Qf C P S L Z F
  exact lv_aload C.1 C.2.1 hd (zld_has L hv) (kk k p l e R s m args below meth c H ls locs cells slots Qf C P S L Z F)
theorem zs_lload_n {j : Fin 4} {i : Nat} {x : Int64} (hd : decode M.2.2.1 pc = .ok (.lload_n j, 1)) (hj : (j : Nat) = i) (hv : zld lv i = some (.long x)) (kk : zG M N Q (pc + 1) lv (.long x :: st) h) : zG M N Q pc lv st h := by
  intro k p l e R s m args below meth c H ls locs cells slots Qf C P S L Z F
  exact lv_lload_n C.1 C.2.1 hd hj (zld_has L hv) (kk k p l e R s m args below meth c H ls locs cells slots Qf C P S L Z F)
theorem zs_lload {i : Nat} {x : Int64} (hd : decode M.2.2.1 pc = .ok (.lload i, 2)) (hv : zld lv i = some (.long x)) (kk : zG M N Q (pc + 2) lv (.long x :: st) h) : zG M N Q pc lv st h := by
  intro k p l e R s m args below meth c H ls locs cells slots Qf C P S L Z F
  exact lv_lload C.1 C.2.1 hd (zld_has L hv) (kk k p l e R s m args below meth c H ls locs cells slots Qf C P S L Z F)
theorem zs_istore_n {j : Fin 4} {i : Nat} {x : Int32} (hd : decode M.2.2.1 pc = .ok (.istore_n j, 1)) (hj : (j : Nat) = i) (hi : i < M.2.2.2.1) (kk : zG M N Q (pc + 1) (zst1 lv i (.int x)) st h) : zG M N Q pc lv (.int x :: st) h := by
  intro k p l e R s m args below meth c H ls locs cells slots Qf C P S L Z F
  exact lv_istore_n C.1 C.2.1 hd hj L hi (zst1_map k lv i (.int x)) (fun ls hl => kk k p l e R s m args below meth c H ls locs cells slots Qf C P S hl Z F)
theorem zs_istore {i : Nat} {x : Int32} (hd : decode M.2.2.1 pc = .ok (.istore i, 2)) (hi : i < M.2.2.2.1) (kk : zG M N Q (pc + 2) (zst1 lv i (.int x)) st h) : zG M N Q pc lv (.int x :: st) h := by
  intro k p l e R s m args below meth c H ls locs cells slots Qf C P S L Z F
  exact lv_istore C.1 C.2.1 hd L hi (zst1_map k lv i (.int x)) (fun ls hl => kk k p l e R s m args below meth c H ls locs cells slots Qf C P S hl Z F)
theorem zs_astore_n {j : Fin 4} {i : Nat} {x : Nat} (hd : decode M.2.2.1 pc = .ok (.astore_n j, 1)) (hj : (j : Nat) = i) (hi : i < M.2.2.2.1) (kk : zG M N Q (pc + 1) (zst1 lv i (.ref x)) st h) : zG M N Q pc lv (.ref x :: st) h := by
  intro k p l e R s m args below meth c H ls locs cells slots Qf C P S L Z F
  exact lv_astore_n C.1 C.2.1 hd hj L hi (zst1_map k lv i (.ref x)) (fun ls hl => kk k p l e R s m args below meth c H ls locs cells slots Qf C P S hl Z F)
theorem zs_astore {i : Nat} {x : Nat} (hd : decode M.2.2.1 pc = .ok (.astore i, 2)) (hi : i < M.2.2.2.1) (kk : zG M N Q (pc + 2) (zst1 lv i (.ref x)) st h) : zG M N Q pc lv (.ref x :: st) h := by
  intro k p l e R s m args below meth c H ls locs cells slots Qf C P S L Z F
  exact lv_astore C.1 C.2.1 hd L hi (zst1_map k lv i (.ref x)) (fun ls hl => kk k p l e R s m args below meth c H ls locs cells slots Qf C P S hl Z F)
theorem zld_at {k : zKT} {lv : zLv} {i : Nat} {v : Value} (hv : zld lv i = some v) : ∃ j : Nat, (lv.map (zvp k))[j]? = some (i, zv k v) := by
  unfold zld at hv
  cases hf : lv.find? (fun q => q.1 == i) with
  | none => rw [hf] at hv; cases hv
  | some q =>
    rw [hf] at hv
    have hm := List.mem_of_find?_eq_some hf
    have hq := List.find?_some hf
    have hq : q.1 = i := by simpa using hq
    cases hv
    obtain ⟨j, hj⟩ := List.getElem?_of_mem hm
    exact ⟨j, by rw [List.getElem?_map, hj]; simp [zvp, hq]⟩
theorem zs_iinc {i : Nat} {n : Int} {x y : Int32} (hd : decode M.2.2.1 pc = .ok (.iinc i n, 3)) (hx : Int32.ofInt n = x) (hi : i < M.2.2.2.1) (hv : zld lv i = some (.int y)) (kk : zG M N Q (pc + 3) (zst1 lv i (.int (y + x))) st h) : zG M N Q pc lv st h := by
  intro k p l e R s m args below meth c H ls locs cells slots Qf C P S L Z F
  subst hx
  obtain ⟨j, hj⟩ := zld_at (k := k) hv
  exact lv_iinc C.1 C.2.1 hd L hj rfl hi (zst1_map k lv i (.int (y + Int32.ofInt n))) (fun ls hl => kk k p l e R s m args below meth c H ls locs cells slots Qf C P S hl Z F)
theorem zs_iadd {x y : Int32} (hd : decode M.2.2.1 pc = .ok (.iadd, 1))  (kk : zG M N Q (pc + 1) lv (.int (x + y) :: st) h) : zG M N Q pc lv (.int y :: .int x :: st) h := by
  intro k p l e R s m args below meth c H ls locs cells slots Qf C P S L Z F
  exact lv_iadd C.1 C.2.1 hd  (kk k p l e R s m args below meth c H ls locs cells slots Qf C P S L Z F)
theorem zs_isub {x y : Int32} (hd : decode M.2.2.1 pc = .ok (.isub, 1))  (kk : zG M N Q (pc + 1) lv (.int (x - y) :: st) h) : zG M N Q pc lv (.int y :: .int x :: st) h := by
  intro k p l e R s m args below meth c H ls locs cells slots Qf C P S L Z F
  exact lv_isub C.1 C.2.1 hd  (kk k p l e R s m args below meth c H ls locs cells slots Qf C P S L Z F)
theorem zs_imul {x y : Int32} (hd : decode M.2.2.1 pc = .ok (.imul, 1))  (kk : zG M N Q (pc + 1) lv (.int (x * y) :: st) h) : zG M N Q pc lv (.int y :: .int x :: st) h := by
  intro k p l e R s m args below meth c H ls locs cells slots Qf C P S L Z F
  exact lv_imul C.1 C.2.1 hd  (kk k p l e R s m args below meth c H ls locs cells slots Qf C P S L Z F)
theorem zs_iand {x y : Int32} (hd : decode M.2.2.1 pc = .ok (.iand, 1))  (kk : zG M N Q (pc + 1) lv (.int (x &&& y) :: st) h) : zG M N Q pc lv (.int y :: .int x :: st) h := by
  intro k p l e R s m args below meth c H ls locs cells slots Qf C P S L Z F
  exact lv_iand C.1 C.2.1 hd  (kk k p l e R s m args below meth c H ls locs cells slots Qf C P S L Z F)
theorem zs_ior {x y : Int32} (hd : decode M.2.2.1 pc = .ok (.ior, 1))  (kk : zG M N Q (pc + 1) lv (.int (x ||| y) :: st) h) : zG M N Q pc lv (.int y :: .int x :: st) h := by
  intro k p l e R s m args below meth c H ls locs cells slots Qf C P S L Z F
  exact lv_ior C.1 C.2.1 hd  (kk k p l e R s m args below meth c H ls locs cells slots Qf C P S L Z F)
theorem zs_ixor {x y : Int32} (hd : decode M.2.2.1 pc = .ok (.ixor, 1))  (kk : zG M N Q (pc + 1) lv (.int (x ^^^ y) :: st) h) : zG M N Q pc lv (.int y :: .int x :: st) h := by
  intro k p l e R s m args below meth c H ls locs cells slots Qf C P S L Z F
  exact lv_ixor C.1 C.2.1 hd  (kk k p l e R s m args below meth c H ls locs cells slots Qf C P S L Z F)
theorem zs_ishl {x y : Int32} (hd : decode M.2.2.1 pc = .ok (.ishl, 1))  (kk : zG M N Q (pc + 1) lv (.int (x <<< (y &&& 31)) :: st) h) : zG M N Q pc lv (.int y :: .int x :: st) h := by
  intro k p l e R s m args below meth c H ls locs cells slots Qf C P S L Z F
  exact lv_ishl C.1 C.2.1 hd  (kk k p l e R s m args below meth c H ls locs cells slots Qf C P S L Z F)
theorem zs_ishr {x y : Int32} (hd : decode M.2.2.1 pc = .ok (.ishr, 1))  (kk : zG M N Q (pc + 1) lv (.int (x >>> (y &&& 31)) :: st) h) : zG M N Q pc lv (.int y :: .int x :: st) h := by
  intro k p l e R s m args below meth c H ls locs cells slots Qf C P S L Z F
  exact lv_ishr C.1 C.2.1 hd  (kk k p l e R s m args below meth c H ls locs cells slots Qf C P S L Z F)
theorem zs_iushr {x y : Int32} (hd : decode M.2.2.1 pc = .ok (.iushr, 1))  (kk : zG M N Q (pc + 1) lv (.int ((x.toUInt32 >>> (y.toUInt32 &&& Int32.toUInt32 31)).toInt32) :: st) h) : zG M N Q pc lv (.int y :: .int x :: st) h := by
  intro k p l e R s m args below meth c H ls locs cells slots Qf C P S L Z F
  exact lv_iushr C.1 C.2.1 hd rfl (kk k p l e R s m args below meth c H ls locs cells slots Qf C P S L Z F)
theorem zs_idiv {x y : Int32} (hd : decode M.2.2.1 pc = .ok (.idiv, 1)) (hy : ¬ y = 0) (kk : zG M N Q (pc + 1) lv (.int (x / y) :: st) h) : zG M N Q pc lv (.int y :: .int x :: st) h := by
  intro k p l e R s m args below meth c H ls locs cells slots Qf C P S L Z F
  exact lv_idiv C.1 C.2.1 hd hy (kk k p l e R s m args below meth c H ls locs cells slots Qf C P S L Z F)
theorem zs_irem {x y : Int32} (hd : decode M.2.2.1 pc = .ok (.irem, 1)) (hy : ¬ y = 0) (kk : zG M N Q (pc + 1) lv (.int (x - x / y * y) :: st) h) : zG M N Q pc lv (.int y :: .int x :: st) h := by
  intro k p l e R s m args below meth c H ls locs cells slots Qf C P S L Z F
  exact lv_irem C.1 C.2.1 hd hy (kk k p l e R s m args below meth c H ls locs cells slots Qf C P S L Z F)
theorem zs_ineg {x : Int32} (hd : decode M.2.2.1 pc = .ok (.ineg, 1))  (kk : zG M N Q (pc + 1) lv (.int (-x) :: st) h) : zG M N Q pc lv (.int x :: st) h := by
  intro k p l e R s m args below meth c H ls locs cells slots Qf C P S L Z F
  exact lv_ineg C.1 C.2.1 hd  (kk k p l e R s m args below meth c H ls locs cells slots Qf C P S L Z F)
theorem zs_i2b {x : Int32} (hd : decode M.2.2.1 pc = .ok (.i2b, 1))  (kk : zG M N Q (pc + 1) lv (.int x.toInt8.toInt32 :: st) h) : zG M N Q pc lv (.int x :: st) h := by
  intro k p l e R s m args below meth c H ls locs cells slots Qf C P S L Z F
  exact lv_i2b C.1 C.2.1 hd rfl (kk k p l e R s m args below meth c H ls locs cells slots Qf C P S L Z F)
theorem zs_i2l {x : Int32} (hd : decode M.2.2.1 pc = .ok (.i2l, 1))  (kk : zG M N Q (pc + 1) lv (.long x.toInt64 :: st) h) : zG M N Q pc lv (.int x :: st) h := by
  intro k p l e R s m args below meth c H ls locs cells slots Qf C P S L Z F
  exact lv_i2l C.1 C.2.1 hd rfl (kk k p l e R s m args below meth c H ls locs cells slots Qf C P S L Z F)
theorem zs_lsub {x y : Int64} (hd : decode M.2.2.1 pc = .ok (.lsub, 1))  (kk : zG M N Q (pc + 1) lv (.long (x - y) :: st) h) : zG M N Q pc lv (.long y :: .long x :: st) h := by
  intro k p l e R s m args below meth c H ls locs cells slots Qf C P S L Z F
  exact lv_lsub C.1 C.2.1 hd  (kk k p l e R s m args below meth c H ls locs cells slots Qf C P S L Z F)
theorem zs_lcmp {x y : Int64} (hd : decode M.2.2.1 pc = .ok (.lcmp, 1))  (kk : zG M N Q (pc + 1) lv (.int (lg_cmp x y) :: st) h) : zG M N Q pc lv (.long y :: .long x :: st) h := by
  intro k p l e R s m args below meth c H ls locs cells slots Qf C P S L Z F
  exact W.lcmp C.1 C.2.1 hd  (kk k p l e R s m args below meth c H ls locs cells slots Qf C P S L Z F)
theorem zs_dup_i {x : Int32} (hd : decode M.2.2.1 pc = .ok (.dup, 1))  (kk : zG M N Q (pc + 1) lv (.int x :: .int x :: st) h) : zG M N Q pc lv (.int x :: st) h := by
  intro k p l e R s m args below meth c H ls locs cells slots Qf C P S L Z F
  exact lv_dup C.1 C.2.1 hd rfl (kk k p l e R s m args below meth c H ls locs cells slots Qf C P S L Z F)
theorem zs_dup_r {x : Nat} (hd : decode M.2.2.1 pc = .ok (.dup, 1))  (kk : zG M N Q (pc + 1) lv (.ref x :: .ref x :: st) h) : zG M N Q pc lv (.ref x :: st) h := by
  intro k p l e R s m args below meth c H ls locs cells slots Qf C P S L Z F
  exact lv_dup C.1 C.2.1 hd rfl (kk k p l e R s m args below meth c H ls locs cells slots Qf C P S L Z F)
theorem zs_dup2 {x : Int32} {y : Nat} (hd : decode M.2.2.1 pc = .ok (.dup2, 1))  (kk : zG M N Q (pc + 1) lv (.int x :: .ref y :: .int x :: .ref y :: st) h) : zG M N Q pc lv (.int x :: .ref y :: st) h := by
  intro k p l e R s m args below meth c H ls locs cells slots Qf C P S L Z F
  exact lv_dup2_11 C.1 C.2.1 hd rfl rfl (kk k p l e R s m args below meth c H ls locs cells slots Qf C P S L Z F)
theorem zs_dup_x1 {x : Int32} {y : Nat} (hd : decode M.2.2.1 pc = .ok (.dup_x1, 1))  (kk : zG M N Q (pc + 1) lv (.int x :: .ref y :: .int x :: st) h) : zG M N Q pc lv (.int x :: .ref y :: st) h := by
  intro k p l e R s m args below meth c H ls locs cells slots Qf C P S L Z F
  exact lv_dup_x1 C.1 C.2.1 hd rfl rfl (kk k p l e R s m args below meth c H ls locs cells slots Qf C P S L Z F)
theorem zs_pop {x : Int32} (hd : decode M.2.2.1 pc = .ok (.pop, 1))  (kk : zG M N Q (pc + 1) lv (st) h) : zG M N Q pc lv (.int x :: st) h := by
  intro k p l e R s m args below meth c H ls locs cells slots Qf C P S L Z F
  exact lv_pop C.1 C.2.1 hd rfl (kk k p l e R s m args below meth c H ls locs cells slots Qf C P S L Z F)
theorem zs_goto {off : Int} {tgt : Nat} (hd : decode M.2.2.1 pc = .ok (.goto off, 3)) (ht : (pc : Int) + off = (tgt : Int)) (kk : zG M N Q tgt lv st h) : zG M N Q pc lv st h := by
  intro k p l e R s m args below meth c H ls locs cells slots Qf C P S L Z F
  exact lv_goto C.1 C.2.1 hd ht (kk k p l e R s m args below meth c H ls locs cells slots Qf C P S L Z F)
end
theorem zCls_get : ∀ c, c < 11 → zCls[c]? = some (zCN c) := by
  intro c hc
  rw [zCN, List.getD_eq_getElem?_getD]
  have : c < zCls.length := hc
  rw [List.getElem?_eq_getElem this]
  rfl
theorem zCls_in0 : ∀ c, c < 11 → ∀ w ∈ u_ws (zCN c).1 (zCN c).2.1 (zCN c).2.2, w ∈ lw_tbl := by
  intro c hc
  match c, hc with
  | 0, _ => exact zin0
  | 1, _ => exact zin1
  | 2, _ => exact zin2
  | 3, _ => exact zin3
  | 4, _ => exact zin4
  | 5, _ => exact zin5
  | 6, _ => exact zin6
  | 7, _ => exact zin7
  | 8, _ => exact zin8
  | 9, _ => exact zin9
  | 10, _ => exact zin10
theorem zCls_in : ∀ c, c < 11 → ∀ w ∈ u_ws (zCN c).1 (zCN c).2.1 (zCN c).2.2, w ∈ zTbl := by
  intro c hc w hw
  refine zTbl_of (zCls_in0 c hc w hw) ?_
  obtain ⟨k, -, rfl⟩ := List.mem_map.mp hw
  unfold u_lay
  split <;> rfl
theorem zCls_ty : ∀ c, c < 11 → ∃ ty : Nat → FieldType, ∀ k, k < (zCN c).2.2 → parseFieldDescriptor ((zCN c).2.1 k).2.2.1 = some (ty k) := by
  intro c hc
  match c, hc with
  | 0, _ => exact ⟨_, zty0⟩
  | 1, _ => exact ⟨_, zty1⟩
  | 2, _ => exact ⟨_, zty2⟩
  | 3, _ => exact ⟨_, zty3⟩
  | 4, _ => exact ⟨_, zty4⟩
  | 5, _ => exact ⟨_, zty5⟩
  | 6, _ => exact ⟨_, zty6⟩
  | 7, _ => exact ⟨_, zty7⟩
  | 8, _ => exact ⟨_, zty8⟩
  | 9, _ => exact ⟨_, zty9⟩
  | 10, _ => exact ⟨_, zty10⟩
theorem zCls_nm : ∀ c, c < 11 → ∀ a, a < (zCN c).2.2 → ∀ b, b < (zCN c).2.2 → a ≠ b → ((zCN c).2.1 a).2.1 ≠ ((zCN c).2.1 b).2.1 := by
  intro c hc
  match c, hc with
  | 0, _ => exact znm0
  | 1, _ => exact znm1
  | 2, _ => exact znm2
  | 3, _ => exact znm3
  | 4, _ => exact znm4
  | 5, _ => exact znm5
  | 6, _ => exact znm6
  | 7, _ => exact znm7
  | 8, _ => exact znm8
  | 9, _ => exact znm9
  | 10, _ => exact znm10
theorem zCls_fk : ∀ c, c < 11 → (zFk c).length = (zCN c).2.2 := by decide +kernel
theorem zCls_fin : ∀ c, c < 11 → ∀ j, j < (zCN c).2.2 → (((zCN c).2.1 j).2.2.2 = true ↔ ¬ (zFk c).getD j 0 = 0) := by decide +kernel
theorem zFL_mem {oc x c j : Nat} (h : zFL.any (fun e => e.1 == oc && (e.2.1 == x && (e.2.2.1 == c && e.2.2.2.1 == j))) = true) : c < 11 ∧ j < (zCN c).2.2 ∧ Cond.fieldLink (zON oc) x ((zCN c).2.1 j).1 ((zCN c).2.1 j).2.1 ((zCN c).2.1 j).2.2.1 ∈ zTbl := by
  obtain ⟨e, he, hq⟩ := List.any_eq_true.mp h
  have h1 := List.all_eq_true.mp zFL_ok e he
  simp only [Bool.and_eq_true, beq_iff_eq, decide_eq_true_eq] at hq h1
  obtain ⟨rfl, rfl, rfl, rfl⟩ := hq
  exact ⟨h1.1.2, h1.2, zTbl_of (List.mem_append_right _ (List.mem_of_getElem? h1.1.1)) rfl⟩
theorem zCI_mem {oc n : Nat} {x : Int32} (h : zCI.any (fun e => e.1 == oc && (e.2.1 == n && decide (e.2.2.1 = x))) = true) : Cond.constant (zON oc) n x ∈ zTbl := by
  obtain ⟨e, he, hq⟩ := List.any_eq_true.mp h
  have h1 := List.all_eq_true.mp zCI_ok e he
  simp only [Bool.and_eq_true, beq_iff_eq, decide_eq_true_eq] at hq h1
  obtain ⟨rfl, rfl, rfl⟩ := hq
  exact zTbl_of (List.mem_append_right _ (List.mem_of_getElem? h1)) rfl
theorem zCL_mem {oc n : Nat} {x : Int32} (h : zCL.any (fun e => e.1 == oc && (e.2.1 == n && decide (e.2.2.1 = x))) = true) : Cond.constantLong (zON oc) n x.toInt64 ∈ zTbl := by
  obtain ⟨e, he, hq⟩ := List.any_eq_true.mp h
  have h1 := List.all_eq_true.mp zCL_ok e he
  simp only [Bool.and_eq_true, beq_iff_eq, decide_eq_true_eq] at hq h1
  obtain ⟨rfl, rfl, rfl⟩ := hq
  exact zTbl_of (List.mem_append_right _ (List.mem_of_getElem? h1)) rfl
theorem zGS_ns : zGS.all (fun e => decide (Cond.fieldLinkNest (zON e.1) e.2.1 "StyledRuns" "MARK_SIGNS" "[I" "StyledRuns" ∈ zNs)) = true := by decide +kernel
theorem zGS_mem {oc n : Nat} (h : zGS.any (fun e => e.1 == oc && e.2.1 == n) = true) : Cond.fieldLinkNest (zON oc) n "StyledRuns" "MARK_SIGNS" "[I" "StyledRuns" ∈ zNs := by
  obtain ⟨e, he, hq⟩ := List.any_eq_true.mp h
  have h1 := List.all_eq_true.mp zGS_ns e he
  simp only [Bool.and_eq_true, beq_iff_eq, decide_eq_true_eq] at hq h1
  obtain ⟨rfl, rfl⟩ := hq
  exact h1
theorem zad_lt {k : zKT} {a : Nat} (h : a < 100000) : zad k a = k.1.1 + a := if_pos h
section
variable {M : zMT} {N : Nat} {Q : Option Value → zHp → Prop} {pc : Nat} {lv : zLv} {st : List Value} {h : zHp}
theorem zs_getfield {x c j o : Nat} {a : Nat} {v : Value} (hd : decode M.2.2.1 pc = .ok (.getfield x, 3)) (hf : zFL.any (fun e => e.1 == M.1 && (e.2.1 == x && (e.2.2.1 == c && e.2.2.2.1 == j))) = true) (ho : zOb h a c)
    (hv : ∀ k : zKT, (if (zFk c).getD j 0 = 0 then Value.int (h.1 a (nI j)) else if h.2.2 a j = true then .ref (k.1.1 + (a + (zFk c).getD j 0)) else .null) = zv k v) (kk : zG M N Q (pc + 3) lv (v :: st) h) : zG M N Q pc lv (.ref a :: st) h := by
  intro k p l e R s m args below meth c0 H ls locs cells slots Qf C P S L Z F
  obtain ⟨hc, hj, hl⟩ := zFL_mem hf
  have ha := zad_lt (k := k) (a := a) (zlt ho.1 P.2.1)
  show W p l e R s m args below meth c0 H locs cells slots Qf (F0 m pc ls (.ref (zad k a) :: st.map (zv k)))
  rw [ha]
  exact va_get (D := k.2.1) (ci := c) (C := (zCN c).1) (T := (zCN c).2.1) (N := (zCN c).2.2) C.1 C.2.1 C.2.2.2.2.2.1 (zCls_in c hc) C.2.2.2.2.1 C.2.2.2.2.2.2.2.2.2.2.1 P.1 a (by rw [zWs_get ho.1, zE_0 ho.2]) (zCls_get c hc) j hj (C.2.2.2.2.2.1 _ hl) (fun _ h9 => h9) (v := zv k v) (by rw [zFs_get (by rw [zCls_fk c hc]; exact hj), hv k]) hd (kk k p l e R s m args below meth c0 H ls locs cells slots Qf C P S L Z F)
theorem zs_putfield {x c j : Nat} {a : Nat} {ty : FieldType} {y : Int32} (hd : decode M.2.2.1 pc = .ok (.putfield x, 3)) (hf : zFL.any (fun e => e.1 == M.1 && (e.2.1 == x && (e.2.2.1 == c && e.2.2.2.1 == j))) = true) (h0 : (zFk c).getD j 0 = 0) (ho : zOb h a c)
    (hty : parseFieldDescriptor ((zCN c).2.1 j).2.2.1 = some ty) (hn : narrow ty (.int y) = .int y) (hfit : fits ty (.int y) = true) (kk : zG M N Q (pc + 3) lv st (zup h.1 a (nI j) y, h.2)) : zG M N Q pc lv (.int y :: .ref a :: st) h := by
  intro k p l e R s m args below meth c0 H ls locs cells slots Qf C P S L Z F
  obtain ⟨hc, hj, hl⟩ := zFL_mem hf
  have hj2 : j < (zFk c).length := by rw [zCls_fk c hc]; exact hj
  have ha := zad_lt (k := k) (a := a) (zlt ho.1 P.2.1)
  show W p l e R s m args below meth c0 H locs cells slots Qf (F0 m pc ls (.int y :: .ref (zad k a) :: st.map (zv k)))
  rw [ha]
  obtain ⟨t0, ht0⟩ := zCls_ty c hc
  have hfin : ((zCN c).2.1 j).2.2.2 = false := by
    cases hq : ((zCN c).2.1 j).2.2.2 with
    | false => rfl
    | true => exact absurd h0 ((zCls_fin c hc j hj).mp hq)
  refine va_put (D := k.2.1) (ci := c) (C := (zCN c).1) (T := (zCN c).2.1) (N := (zCN c).2.2) (v := .int y) (ty := ty) C.1 C.2.1 C.2.2.2.2.2.1 (zCls_in c hc) t0 ht0 (zCls_nm c hc) C.2.2.2.2.1 C.2.2.2.2.2.2.2.2.2.2.1 P.1 zWs_D S a (by rw [zWs_get ho.1, zE_0 ho.2]) (zCls_get c hc) j hj (C.2.2.2.2.2.1 _ hl) (fun _ h9 => h9) hfin hty hn hfit (by rw [zFs_len]; exact hj2) hd (fun H1 locs1 hP1 _ hS1 => ?_)
  have P1 : zPic k (zup h.1 a (nI j) y, h.2) H1 := zPic_up P ho.1 (by rw [zE_0 ho.2, zFs_set hj2 h0]) hP1
  exact kk k p l e R s m args below meth c0 H1 ls locs1 cells slots Qf C P1 hS1 L Z F
end
end
section
/-! arrays, the signs, the script -/
theorem zSh_small : ∀ a, (zSh a).2.2 ≤ 10000 ∧ ((zSh a).1 = 2 → (zSh a).2.1 < 5) ∧ ((zSh a).1 = 1 → (zSh a).2.1 < 3) := by
  intro a
  by_cases ha : a < 411
  · revert a; decide +kernel
  · have h1 : ¬ a < 34 := by omega
    have h2 : ¬ a < 39 := by omega
    have h3 : ¬ a < 311 := by omega
    have h4 : ¬ a < 327 := by omega
    have h5 : ¬ a < 393 := by omega
    unfold zSh
    rw [if_neg h1, if_neg h2, if_neg h3, if_neg h4, if_neg h5, if_neg ha]
    split <;> decide
theorem zvp_in {i : Int32} {n : Nat} (hn : n < 2 ^ 31) (h0 : 0 ≤ i) (h1 : i < nI n) : vp_in i n := by
  rw [vp_in_iff]
  rw [Int32.le_iff_toInt_le] at h0
  rw [Int32.lt_iff_toInt_lt, nI_toInt hn] at h1
  exact ⟨by simpa using h0, h1⟩
theorem zAi_at {h : zHp} {a n : Nat} {i : Int32} (hn : n < 2 ^ 31) (hi : vp_in i n) : zAi h a n i.toNatClampNeg = h.1 a i := by
  obtain ⟨j, hj, rfl⟩ := vp_in_of hi hn
  rw [nI_clamp (by omega)]
  simp [zAi, hj]
theorem zIn_sh {h : zHp} {a t : Nat} {i : Int32} (hi : zIn h a t i) : zSh a = (1, t, (zSh a).2.2) ∧ vp_in i (zSh a).2.2 := by
  obtain ⟨h1, h2, h3, h4, h5⟩ := hi
  refine ⟨?_, zvp_in ?_ h4 h5⟩
  · rw [← h2, ← h3]
  · have := (zSh_small a).1; omega
theorem zbool_nar (x : Int32) : vp_nar .boolean x = x &&& 1 := rfl
section
variable {M : zMT} {N : Nat} {Q : Option Value → zHp → Prop} {pc : Nat} {lv : zLv} {st : List Value} {h : zHp}
theorem zs_iaload {a : Nat} {i : Int32} (hd : decode M.2.2.1 pc = .ok (.iaload, 1)) (hi : zInL h a i) (kk : zG M N Q (pc + 1) lv (.int (h.1 a i) :: st) h) : zG M N Q pc lv (.int i :: .ref a :: st) h := by
  intro k p l e R s m args below meth c H ls locs cells slots Qf C P S L Z F
  have K := kk k p l e R s m args below meth c H ls locs cells slots Qf C P S L Z F
  rcases hi with hi | ⟨rfl, h0, h1⟩ | ⟨rfl, h0, h1⟩
  · obtain ⟨hs, hv⟩ := zIn_sh hi
    have ha := zad_lt (k := k) (a := a) (zlt hi.1 P.2.1)
    show W p l e R s m args below meth c H locs cells slots Qf (F0 m pc ls (.int i :: .ref (zad k a) :: st.map (zv k)))
    rw [ha]
    refine va_iald (D := k.2.1) C.1 C.2.1 C.2.2.2.2.2.2.2.2.2.2.1 P.1 a 0 (by rw [zWs_get hi.1, zE_1 hs]) rfl hv hd ?_
    rw [zAi_at (by have := (zSh_small a).1; omega) hv]
    exact K
  · have hT := C.2.2.2.2.2.2.2.2.2.2.2.2.2.2.1
    have hv : vp_in i 6 := zvp_in (by decide) h0 h1
    refine va_ti (t := k.1.2.1) (v := .int (h.1 100000 i)) C.1 C.2.1 hT S hv ?_ hd K
    obtain ⟨j, hj, rfl⟩ := vp_in_of hv (by decide)
    rw [nI_clamp (by omega), P.2.2.1]
  · have hT := C.2.2.2.2.2.2.2.2.2.2.2.2.2.2.2.1
    have hn := C.2.2.2.2.2.2.2.2.2.2.2.2.2.2.2.2.1
    have hv : vp_in i (k.2.2.2 100001 (-1)).toNatClampNeg := by
      rw [P.2.2.2] at h1
      obtain ⟨n, hn2, he⟩ := nI_of hn
      rw [he] at h1 ⊢
      rw [nI_clamp hn2]
      exact zvp_in hn2 h0 h1
    refine va_ti (t := k.1.2.2) (v := .int (h.1 100001 i)) C.1 C.2.1 hT S hv ?_ hd K
    obtain ⟨n, hn2, he⟩ := nI_of hn
    rw [he, nI_clamp hn2] at hv
    obtain ⟨j, hj, rfl⟩ := vp_in_of hv hn2
    rw [nI_clamp (by omega), P.2.2.2]
theorem zs_baload {a t : Nat} {i : Int32} (hd : decode M.2.2.1 pc = .ok (.baload, 1)) (ht : t = 1 ∨ t = 2) (hi : zIn h a t i) (kk : zG M N Q (pc + 1) lv (.int (h.1 a i) :: st) h) : zG M N Q pc lv (.int i :: .ref a :: st) h := by
  intro k p l e R s m args below meth c H ls locs cells slots Qf C P S L Z F
  have K := kk k p l e R s m args below meth c H ls locs cells slots Qf C P S L Z F
  obtain ⟨hs, hv⟩ := zIn_sh hi
  have ha := zad_lt (k := k) (a := a) (zlt hi.1 P.2.1)
  show W p l e R s m args below meth c H locs cells slots Qf (F0 m pc ls (.int i :: .ref (zad k a) :: st.map (zv k)))
  rw [ha]
  rcases ht with rfl | rfl
  · refine va_bald (D := k.2.1) C.1 C.2.1 C.2.2.2.2.2.2.2.2.2.2.1 P.1 a 1 (by rw [zWs_get hi.1, zE_1 hs]) rfl hv hd ?_
    rw [zAi_at (by have := (zSh_small a).1; omega) hv]
    exact K
  · refine va_zald (D := k.2.1) C.1 C.2.1 C.2.2.2.2.2.2.2.2.2.2.1 P.1 a 2 (by rw [zWs_get hi.1, zE_1 hs]) rfl hv hd ?_
    rw [zAi_at (by have := (zSh_small a).1; omega) hv]
    exact K
theorem zs_iastore {a : Nat} {i x : Int32} (hd : decode M.2.2.1 pc = .ok (.iastore, 1)) (hi : zIn h a 0 i) (kk : zG M N Q (pc + 1) lv st (zup h.1 a i x, h.2)) : zG M N Q pc lv (.int x :: .int i :: .ref a :: st) h := by
  intro k p l e R s m args below meth c H ls locs cells slots Qf C P S L Z F
  obtain ⟨hs, hv⟩ := zIn_sh hi
  have ha := zad_lt (k := k) (a := a) (zlt hi.1 P.2.1)
  have hn : (zSh a).2.2 < 2 ^ 31 := by have := (zSh_small a).1; omega
  show W p l e R s m args below meth c H locs cells slots Qf (F0 m pc ls (.int x :: .int i :: .ref (zad k a) :: st.map (zv k)))
  rw [ha]
  refine va_iast (D := k.2.1) C.1 C.2.1 C.2.2.2.2.2.2.2.2.2.2.1 P.1 zWs_D S a 0 (by rw [zWs_get hi.1, zE_1 hs]) rfl hv hd (fun H1 locs1 hP1 _ hS1 => ?_)
  exact kk k p l e R s m args below meth c H1 ls locs1 cells slots Qf C (zPic_up P hi.1 (by rw [zE_1 hs, zAi_set hn hv]) hP1) hS1 L Z F
theorem zs_bastore {a : Nat} {i x : Int32} (hd : decode M.2.2.1 pc = .ok (.bastore, 1)) (hi : zIn h a 1 i) (kk : zG M N Q (pc + 1) lv st (zup h.1 a i x.toInt8.toInt32, h.2)) : zG M N Q pc lv (.int x :: .int i :: .ref a :: st) h := by
  intro k p l e R s m args below meth c H ls locs cells slots Qf C P S L Z F
  obtain ⟨hs, hv⟩ := zIn_sh hi
  have ha := zad_lt (k := k) (a := a) (zlt hi.1 P.2.1)
  have hn : (zSh a).2.2 < 2 ^ 31 := by have := (zSh_small a).1; omega
  show W p l e R s m args below meth c H locs cells slots Qf (F0 m pc ls (.int x :: .int i :: .ref (zad k a) :: st.map (zv k)))
  rw [ha]
  refine va_bast (D := k.2.1) C.1 C.2.1 C.2.2.2.2.2.2.2.2.2.2.1 P.1 zWs_D S a 1 (by rw [zWs_get hi.1, zE_1 hs]) rfl hv hd (fun H1 locs1 hP1 _ hS1 => ?_)
  exact kk k p l e R s m args below meth c H1 ls locs1 cells slots Qf C (zPic_up P hi.1 (by rw [zE_1 hs, zAi_set hn hv, vp_nar_byte]) hP1) hS1 L Z F
theorem zs_zastore {a : Nat} {i x : Int32} (hd : decode M.2.2.1 pc = .ok (.bastore, 1)) (hi : zIn h a 2 i) (kk : zG M N Q (pc + 1) lv st (zup h.1 a i (x &&& 1), h.2)) : zG M N Q pc lv (.int x :: .int i :: .ref a :: st) h := by
  intro k p l e R s m args below meth c H ls locs cells slots Qf C P S L Z F
  obtain ⟨hs, hv⟩ := zIn_sh hi
  have ha := zad_lt (k := k) (a := a) (zlt hi.1 P.2.1)
  have hn : (zSh a).2.2 < 2 ^ 31 := by have := (zSh_small a).1; omega
  show W p l e R s m args below meth c H locs cells slots Qf (F0 m pc ls (.int x :: .int i :: .ref (zad k a) :: st.map (zv k)))
  rw [ha]
  refine va_zast (D := k.2.1) C.1 C.2.1 C.2.2.2.2.2.2.2.2.2.2.1 P.1 zWs_D S a 2 (by rw [zWs_get hi.1, zE_1 hs]) rfl hv hd (fun H1 locs1 hP1 _ hS1 => ?_)
  exact kk k p l e R s m args below meth c H1 ls locs1 cells slots Qf C (zPic_up P hi.1 (by rw [zE_1 hs, zAi_set hn hv, zbool_nar]) hP1) hS1 L Z F
theorem zTys_r (k : zKT) : ∀ c, c < 5 → ∃ C : String, (zTys k)[zRc c]? = some (k.2.2.1 (zRc c), .object C) := by
  intro c hc
  match c, hc with
  | 0, _ => exact ⟨_, rfl⟩
  | 1, _ => exact ⟨_, rfl⟩
  | 2, _ => exact ⟨_, rfl⟩
  | 3, _ => exact ⟨_, rfl⟩
  | 4, _ => exact ⟨_, rfl⟩
theorem zs_aaload {a : Nat} {i : Int32} (hd : decode M.2.2.1 pc = .ok (.aaload, 1)) (hi : zInR h a i) (kk : zG M N Q (pc + 1) lv (.ref (zel a i) :: st) h) : zG M N Q pc lv (.int i :: .ref a :: st) h := by
  intro k p l e R s m args below meth c H ls locs cells slots Qf C P S L Z F
  have K := kk k p l e R s m args below meth c H ls locs cells slots Qf C P S L Z F
  obtain ⟨h1, h2, h3, h4, h5, h6⟩ := hi
  have hn : (zSh a).2.2 < 2 ^ 31 := by have := (zSh_small a).1; omega
  have hv := zvp_in hn h3 h4
  have hs : zSh a = (2, (zSh a).2.1, (zSh a).2.2) := by rw [← h2]
  have ha := zad_lt (k := k) (a := a) (zlt h1 P.2.1)
  obtain ⟨Cn, hC⟩ := zTys_r k _ ((zSh_small a).2.1 h2)
  show W p l e R s m args below meth c H locs cells slots Qf (F0 m pc ls (.int i :: .ref (zad k a) :: st.map (zv k)))
  rw [ha]
  refine va_aldq (D := k.2.1) C.1 C.2.1 C.2.2.2.2.2.2.2.2.2.2.1 P.1 a (zRc (zSh a).2.1) (by rw [zWs_get h1, zE_2 hs]) hC hv hd ?_
  have hj : i.toNatClampNeg < (zSh a).2.2 := Nat.not_le.mp fun q => hv (Or.inr q)
  have e1 : va_rf (zAr k h a (zSh a).2.1 (zSh a).2.2 i.toNatClampNeg) = zv k (.ref (zel a i)) := by
    show _ = Value.ref (zad k (zel a i))
    rw [zad_lt (show zel a i < 100000 from h6)]
    simp [zAr, hj, h5, va_rf, zel]
  rw [e1]
  exact K
theorem zs_alen {a : Nat} (hd : decode M.2.2.1 pc = .ok (.arraylength, 1)) (hi : (a < h.2.1 ∧ (zSh a).1 = 1 ∧ (zSh a).2.1 < 3) ∨ a = 100000 ∨ a = 100001) (kk : zG M N Q (pc + 1) lv (.int (zln h a) :: st) h) : zG M N Q pc lv (.ref a :: st) h := by
  intro k p l e R s m args below meth c H ls locs cells slots Qf C P S L Z F
  have K := kk k p l e R s m args below meth c H ls locs cells slots Qf C P S L Z F
  rcases hi with ⟨h1, h2, h3⟩ | rfl | rfl
  · have hlt : a < 100000 := zlt h1 P.2.1
    have ha := zad_lt (k := k) (a := a) hlt
    have hs : zSh a = (1, (zSh a).2.1, (zSh a).2.2) := by rw [← h2]
    show W p l e R s m args below meth c H locs cells slots Qf (F0 m pc ls (.ref (zad k a) :: st.map (zv k)))
    rw [ha]
    obtain ⟨ty, hty⟩ : ∃ ty, (zTys k)[(zSh a).2.1]? = some (k.2.2.1 (zSh a).2.1, ty) := by
      match hq : (zSh a).2.1, h3 with
      | 0, _ => exact ⟨_, rfl⟩
      | 1, _ => exact ⟨_, rfl⟩
      | 2, _ => exact ⟨_, rfl⟩
    refine va_alen (D := k.2.1) C.1 C.2.1 C.2.2.2.2.2.2.2.2.2.2.1 P.1 a (zSh a).2.1 (by rw [zWs_get h1, zE_1 hs]) hty (v := zln h a) ?_ hd K
    have : a ≠ 100001 := by omega
    simp only [zln, if_neg this]; rfl
  · exact va_tlen (t := k.1.2.1) C.1 C.2.1 C.2.2.2.2.2.2.2.2.2.2.2.2.2.2.1 S (v := zln h 100000) rfl hd K
  · refine va_tlen (t := k.1.2.2) C.1 C.2.1 C.2.2.2.2.2.2.2.2.2.2.2.2.2.2.2.1 S (v := zln h 100001) ?_ hd K
    have hn := C.2.2.2.2.2.2.2.2.2.2.2.2.2.2.2.2.1
    obtain ⟨n, hn2, he⟩ := nI_of hn
    simp only [zln, if_pos]
    rw [P.2.2.2, he, nI_clamp hn2]
    rfl
theorem zs_getstatic {x : Nat} (hd : decode M.2.2.1 pc = .ok (.getstatic x, 3)) (hf : zGS.any (fun e => e.1 == M.1 && e.2.1 == x) = true) (kk : zG M N Q (pc + 3) lv (.ref 100000 :: st) h) : zG M N Q pc lv st h := by
  intro k p l e R s m args below meth c H ls locs cells slots Qf C P S L Z F
  have K := kk k p l e R s m args below meth c H ls locs cells slots Qf C P S L Z F
  exact va_getsN (v := .ref k.1.2.1) C.1 C.2.1 C.2.2.2.2.2.2.2.2.2.2.2.2.2.1 S C.2.2.2.2.1 (va_Nw.use rfl (C.2.2.2.2.2.2.2.2.2.2.2.2.2.2.2.2.2.1 _ (zGS_mem hf))) (fun _ h9 => h9) hd K
end
end
section
/-! an op, a run of ops: printed by wip/whole/gen_run.py -/
section
variable {M : zMT} {N : Nat} {Q : Option Value → zHp → Prop} {pc : Nat} {lv : zLv} {st : List Value} {h : zHp}
set_option maxHeartbeats 4000000 in
theorem zstep_ok {o : zop} {i : Instr} {len : Nat} {lv' : zLv} {st' : List Value} {h' : zHp} {Ps : List Prop} (hd : decode M.2.2.1 pc = .ok (i, len)) (hm : zmat M i len pc o = true) (hs : zstep o lv st h = some (lv', st', h', Ps)) (hP : zall Ps) (kk : zG M N Q (znext o pc len) lv' st' h') : zG M N Q pc lv st h := by
  obtain ⟨o1, o2, o3, o4, x⟩ := o
  unfold zmat at hm
  split at hm
  next n => 
    simp only [Bool.and_eq_true, beq_iff_eq, decide_eq_true_eq] at hm
    obtain ⟨rfl, rfl, hx⟩ := hm
    simp only [zstep] at hs
    simp only [Option.some.injEq, Prod.mk.injEq] at hs; obtain ⟨rfl, rfl, rfl, rfl⟩ := hs
    exact zs_iconst hd hx kk
  next n => 
    simp only [Bool.and_eq_true, beq_iff_eq, decide_eq_true_eq] at hm
    obtain ⟨rfl, rfl, hx⟩ := hm
    simp only [zstep] at hs
    simp only [Option.some.injEq, Prod.mk.injEq] at hs; obtain ⟨rfl, rfl, rfl, rfl⟩ := hs
    exact zs_bipush hd hx kk
  next n => 
    simp only [Bool.and_eq_true, beq_iff_eq, decide_eq_true_eq] at hm
    obtain ⟨rfl, rfl, hx⟩ := hm
    simp only [zstep] at hs
    simp only [Option.some.injEq, Prod.mk.injEq] at hs; obtain ⟨rfl, rfl, rfl, rfl⟩ := hs
    exact zs_sipush hd hx kk
  next n =>
    rw [Bool.and_eq_true, Bool.and_eq_true] at hm
    obtain ⟨h1, h2, hx⟩ := hm
    obtain rfl := beq_iff_eq.mp h1
    obtain rfl := beq_iff_eq.mp h2
    simp only [zstep] at hs
    simp only [Option.some.injEq, Prod.mk.injEq] at hs; obtain ⟨rfl, rfl, rfl, rfl⟩ := hs
    exact zs_ldc hd (zCI_mem hx) kk
  next n =>
    rw [Bool.and_eq_true, Bool.and_eq_true] at hm
    obtain ⟨h1, h2, hx⟩ := hm
    obtain rfl := beq_iff_eq.mp h1
    obtain rfl := beq_iff_eq.mp h2
    simp only [zstep] at hs
    simp only [Option.some.injEq, Prod.mk.injEq] at hs; obtain ⟨rfl, rfl, rfl, rfl⟩ := hs
    exact zs_ldc_w hd (zCI_mem hx) kk
  next j =>
    simp only [Bool.and_eq_true, beq_iff_eq, decide_eq_true_eq] at hm
    obtain ⟨rfl, rfl, rfl, hj⟩ := hm
    simp only [zstep] at hs
    split at hs <;> first | (cases hs; done) | (simp only [Option.some.injEq, Prod.mk.injEq] at hs; obtain ⟨rfl, rfl, rfl, rfl⟩ := hs; rename_i hv; exact zs_iload_n hd hj hv kk) | (rename_i q _ _ _; exact absurd q (by decide)) | (simp at *; done)
  next j =>
    simp only [Bool.and_eq_true, beq_iff_eq, decide_eq_true_eq] at hm
    obtain ⟨rfl, rfl, rfl, hj⟩ := hm
    simp only [zstep] at hs
    subst hj
    split at hs <;> first | (cases hs; done) | (simp only [Option.some.injEq, Prod.mk.injEq] at hs; obtain ⟨rfl, rfl, rfl, rfl⟩ := hs; rename_i hv; exact zs_iload hd hv kk) | (rename_i q _ _ _; exact absurd q (by decide)) | (simp at *; done)
  next j =>
    simp only [Bool.and_eq_true, beq_iff_eq, decide_eq_true_eq] at hm
    obtain ⟨rfl, rfl, rfl, hj⟩ := hm
    simp only [zstep] at hs
    split at hs <;> first | (cases hs; done) | (simp only [Option.some.injEq, Prod.mk.injEq] at hs; obtain ⟨rfl, rfl, rfl, rfl⟩ := hs; rename_i hv; exact zs_aload_n hd hj hv kk) | (rename_i q _ _ _; exact absurd q (by decide)) | (simp at *; done)
  next j =>
    simp only [Bool.and_eq_true, beq_iff_eq, decide_eq_true_eq] at hm
    obtain ⟨rfl, rfl, rfl, hj⟩ := hm
    simp only [zstep] at hs
    subst hj
    split at hs <;> first | (cases hs; done) | (simp only [Option.some.injEq, Prod.mk.injEq] at hs; obtain ⟨rfl, rfl, rfl, rfl⟩ := hs; rename_i hv; exact zs_aload hd hv kk) | (rename_i q _ _ _; exact absurd q (by decide)) | (simp at *; done)
  next j =>
    simp only [Bool.and_eq_true, beq_iff_eq, decide_eq_true_eq] at hm
    obtain ⟨rfl, rfl, rfl, hj⟩ := hm
    simp only [zstep] at hs
    split at hs <;> first | (cases hs; done) | (simp only [Option.some.injEq, Prod.mk.injEq] at hs; obtain ⟨rfl, rfl, rfl, rfl⟩ := hs; rename_i hv; exact zs_lload_n hd hj hv kk) | (rename_i q _ _ _; exact absurd q (by decide)) | (simp at *; done)
  next j =>
    simp only [Bool.and_eq_true, beq_iff_eq, decide_eq_true_eq] at hm
    obtain ⟨rfl, rfl, rfl, hj⟩ := hm
    simp only [zstep] at hs
    subst hj
    split at hs <;> first | (cases hs; done) | (simp only [Option.some.injEq, Prod.mk.injEq] at hs; obtain ⟨rfl, rfl, rfl, rfl⟩ := hs; rename_i hv; exact zs_lload hd hv kk) | (rename_i q _ _ _; exact absurd q (by decide)) | (simp at *; done)
  next j =>
    simp only [Bool.and_eq_true, beq_iff_eq, decide_eq_true_eq] at hm
    obtain ⟨rfl, rfl, rfl, hj, hl⟩ := hm
    simp only [zstep] at hs
    split at hs <;> first | (cases hs; done) | (simp only [Option.some.injEq, Prod.mk.injEq] at hs; obtain ⟨rfl, rfl, rfl, rfl⟩ := hs; exact zs_istore_n hd hj hl kk) | (simp at *; done)
  next j =>
    simp only [Bool.and_eq_true, beq_iff_eq, decide_eq_true_eq] at hm
    obtain ⟨rfl, rfl, rfl, hj, hl⟩ := hm
    simp only [zstep] at hs
    subst hj
    split at hs <;> first | (cases hs; done) | (simp only [Option.some.injEq, Prod.mk.injEq] at hs; obtain ⟨rfl, rfl, rfl, rfl⟩ := hs; exact zs_istore hd hl kk) | (simp at *; done)
  next j =>
    simp only [Bool.and_eq_true, beq_iff_eq, decide_eq_true_eq] at hm
    obtain ⟨rfl, rfl, rfl, hj, hl⟩ := hm
    simp only [zstep] at hs
    split at hs <;> first | (cases hs; done) | (simp only [Option.some.injEq, Prod.mk.injEq] at hs; obtain ⟨rfl, rfl, rfl, rfl⟩ := hs; exact zs_astore_n hd hj hl kk) | (simp at *; done)
  next j =>
    simp only [Bool.and_eq_true, beq_iff_eq, decide_eq_true_eq] at hm
    obtain ⟨rfl, rfl, rfl, hj, hl⟩ := hm
    simp only [zstep] at hs
    subst hj
    split at hs <;> first | (cases hs; done) | (simp only [Option.some.injEq, Prod.mk.injEq] at hs; obtain ⟨rfl, rfl, rfl, rfl⟩ := hs; exact zs_astore hd hl kk) | (simp at *; done)
  next j n =>
    simp only [Bool.and_eq_true, beq_iff_eq, decide_eq_true_eq] at hm
    obtain ⟨rfl, rfl, hx, hj, hl⟩ := hm
    subst hj
    simp only [zstep] at hs
    split at hs <;> first | (cases hs; done) | (simp only [Option.some.injEq, Prod.mk.injEq] at hs; obtain ⟨rfl, rfl, rfl, rfl⟩ := hs; rename_i hv; exact zs_iinc hd hx hl hv kk)
  next =>
    simp only [Bool.and_eq_true, beq_iff_eq, decide_eq_true_eq] at hm
    obtain ⟨rfl, rfl, rfl⟩ := hm
    simp only [zstep] at hs
    split at hs <;> first | (cases hs; done) | (simp only [Option.some.injEq, Prod.mk.injEq] at hs; obtain ⟨rfl, rfl, rfl, rfl⟩ := hs; exact zs_iadd hd kk)
  next =>
    simp only [Bool.and_eq_true, beq_iff_eq, decide_eq_true_eq] at hm
    obtain ⟨rfl, rfl, rfl⟩ := hm
    simp only [zstep] at hs
    split at hs <;> first | (cases hs; done) | (simp only [Option.some.injEq, Prod.mk.injEq] at hs; obtain ⟨rfl, rfl, rfl, rfl⟩ := hs; exact zs_isub hd kk)
  next =>
    simp only [Bool.and_eq_true, beq_iff_eq, decide_eq_true_eq] at hm
    obtain ⟨rfl, rfl, rfl⟩ := hm
    simp only [zstep] at hs
    split at hs <;> first | (cases hs; done) | (simp only [Option.some.injEq, Prod.mk.injEq] at hs; obtain ⟨rfl, rfl, rfl, rfl⟩ := hs; exact zs_imul hd kk)
  next =>
    simp only [Bool.and_eq_true, beq_iff_eq, decide_eq_true_eq] at hm
    obtain ⟨rfl, rfl, rfl⟩ := hm
    simp only [zstep] at hs
    split at hs <;> first | (cases hs; done) | (simp only [Option.some.injEq, Prod.mk.injEq] at hs; obtain ⟨rfl, rfl, rfl, rfl⟩ := hs; exact zs_iand hd kk)
  next =>
    simp only [Bool.and_eq_true, beq_iff_eq, decide_eq_true_eq] at hm
    obtain ⟨rfl, rfl, rfl⟩ := hm
    simp only [zstep] at hs
    split at hs <;> first | (cases hs; done) | (simp only [Option.some.injEq, Prod.mk.injEq] at hs; obtain ⟨rfl, rfl, rfl, rfl⟩ := hs; exact zs_ior hd kk)
  next =>
    simp only [Bool.and_eq_true, beq_iff_eq, decide_eq_true_eq] at hm
    obtain ⟨rfl, rfl, rfl⟩ := hm
    simp only [zstep] at hs
    split at hs <;> first | (cases hs; done) | (simp only [Option.some.injEq, Prod.mk.injEq] at hs; obtain ⟨rfl, rfl, rfl, rfl⟩ := hs; exact zs_ixor hd kk)
  next =>
    simp only [Bool.and_eq_true, beq_iff_eq, decide_eq_true_eq] at hm
    obtain ⟨rfl, rfl, rfl⟩ := hm
    simp only [zstep] at hs
    split at hs <;> first | (cases hs; done) | (simp only [Option.some.injEq, Prod.mk.injEq] at hs; obtain ⟨rfl, rfl, rfl, rfl⟩ := hs; exact zs_ishl hd kk)
  next =>
    simp only [Bool.and_eq_true, beq_iff_eq, decide_eq_true_eq] at hm
    obtain ⟨rfl, rfl, rfl⟩ := hm
    simp only [zstep] at hs
    split at hs <;> first | (cases hs; done) | (simp only [Option.some.injEq, Prod.mk.injEq] at hs; obtain ⟨rfl, rfl, rfl, rfl⟩ := hs; exact zs_ishr hd kk)
  next =>
    simp only [Bool.and_eq_true, beq_iff_eq, decide_eq_true_eq] at hm
    obtain ⟨rfl, rfl, rfl⟩ := hm
    simp only [zstep] at hs
    split at hs <;> first | (cases hs; done) | (simp only [Option.some.injEq, Prod.mk.injEq] at hs; obtain ⟨rfl, rfl, rfl, rfl⟩ := hs; exact zs_iushr hd kk)
  next =>
    simp only [Bool.and_eq_true, beq_iff_eq, decide_eq_true_eq] at hm
    obtain ⟨rfl, rfl, rfl⟩ := hm
    simp only [zstep] at hs
    split at hs <;> first | (cases hs; done) | (simp only [Option.some.injEq, Prod.mk.injEq] at hs; obtain ⟨rfl, rfl, rfl, rfl⟩ := hs; exact zs_idiv hd hP.1 kk)
  next =>
    simp only [Bool.and_eq_true, beq_iff_eq, decide_eq_true_eq] at hm
    obtain ⟨rfl, rfl, rfl⟩ := hm
    simp only [zstep] at hs
    split at hs <;> first | (cases hs; done) | (simp only [Option.some.injEq, Prod.mk.injEq] at hs; obtain ⟨rfl, rfl, rfl, rfl⟩ := hs; exact zs_irem hd hP.1 kk)
  next x0 =>
    dsimp only at hm
    rw [Bool.and_eq_true, Bool.and_eq_true, Bool.and_eq_true, Bool.and_eq_true] at hm
    obtain ⟨h1, h2, hf, h3, h4⟩ := hm
    obtain rfl := beq_iff_eq.mp h1
    obtain rfl := beq_iff_eq.mp h2
    replace h3 : (zFk o2).getD o3 0 = o4 := of_decide_eq_true h3
    replace h4 : x = nI o3 := of_decide_eq_true h4
    subst h4
    cases o4 with
    | zero =>
      simp only [zstep] at hs
      split at hs <;> first | (cases hs; done) | (simp only [Option.some.injEq, Prod.mk.injEq] at hs; obtain ⟨rfl, rfl, rfl, rfl⟩ := hs; exact zs_getfield (o := 0) hd hf hP.1 (fun k => by rw [if_pos h3]; rfl) kk)
    | succ o5 =>
      simp only [zstep] at hs
      split at hs <;> first | (cases hs; done) | skip
      rename_i a st
      simp only [Option.some.injEq, Prod.mk.injEq] at hs; obtain ⟨rfl, rfl, rfl, rfl⟩ := hs
      obtain ⟨⟨ho, hi⟩, -⟩ := hP
      intro k p l e R s m args below meth c0 H ls locs cells slots Qf C P S L Z F
      by_cases hlt : a + (o5 + 1) < 100000
      · refine zs_getfield (o := 0) (v := .ref (a + (o5 + 1))) hd hf ho (fun k2 => ?_) kk k p l e R s m args below meth c0 H ls locs cells slots Qf C P S L Z F
        rw [if_neg (by rw [h3]; exact Nat.succ_ne_zero _), if_pos hi, h3]
        show _ = Value.ref (zad k2 (a + (o5 + 1)))
        rw [zad_lt hlt]
      · exfalso
        obtain ⟨hc, hj, -⟩ := zFL_mem hf
        have h6 : (zFk o2).getD o3 0 ≤ 400 := by
          have : ∀ c, c < 11 → ∀ j, j < (zCN c).2.2 → (zFk c).getD j 0 ≤ 400 := by decide +kernel
          exact this o2 hc o3 hj
        have h7 := ho.1
        have h8 := P.2.1
        rw [h3] at h6
        exact hlt (Nat.lt_of_lt_of_le (Nat.add_lt_add_of_lt_of_le h7 h6) (by omega))
  next x0 =>
    dsimp only at hm
    rw [Bool.and_eq_true, Bool.and_eq_true, Bool.and_eq_true, Bool.and_eq_true, Bool.and_eq_true] at hm
    obtain ⟨h1, h2, hf, h3, h4, h5⟩ := hm
    obtain rfl := beq_iff_eq.mp h1
    obtain rfl := beq_iff_eq.mp h2
    replace h3 : (zFk o2).getD o3 0 = 0 := of_decide_eq_true h3
    replace h4 : x = nI o3 := of_decide_eq_true h4
    subst h4
    simp only [Bool.or_eq_true, Bool.and_eq_true, beq_iff_eq, decide_eq_true_eq] at h5
    rcases h5 with ⟨h5, rfl⟩ | ⟨h5, rfl⟩
    · simp only [zstep] at hs
      split at hs <;> first | (cases hs; done) | (simp only [Option.some.injEq, Prod.mk.injEq] at hs; obtain ⟨rfl, rfl, rfl, rfl⟩ := hs; exact zs_putfield (ty := .int) hd hf h3 hP.1 (by rw [h5]; decide) rfl rfl kk)
    · simp only [zstep] at hs
      split at hs <;> first | (cases hs; done) | (simp only [Option.some.injEq, Prod.mk.injEq] at hs; obtain ⟨rfl, rfl, rfl, rfl⟩ := hs; exact zs_putfield (ty := .boolean) hd hf h3 hP.1 (by rw [h5]; decide) (by rcases hP.2.1 with rfl | rfl <;> decide) (by rcases hP.2.1 with rfl | rfl <;> decide) kk)
  next =>
    simp only [Bool.and_eq_true, beq_iff_eq, decide_eq_true_eq] at hm
    obtain ⟨rfl, rfl, rfl⟩ := hm
    simp only [zstep] at hs
    split at hs <;> first | (cases hs; done) | (simp only [Option.some.injEq, Prod.mk.injEq] at hs; obtain ⟨rfl, rfl, rfl, rfl⟩ := hs; exact zs_iaload hd hP.1 kk)
  next =>
    simp only [Bool.and_eq_true, Bool.or_eq_true, beq_iff_eq] at hm
    obtain ⟨rfl, rfl, hm⟩ := hm
    rcases hm with rfl | rfl
    · simp only [zstep] at hs
      split at hs <;> first | (cases hs; done) | (simp only [Option.some.injEq, Prod.mk.injEq] at hs; obtain ⟨rfl, rfl, rfl, rfl⟩ := hs; exact zs_baload (t := 1) hd (Or.inl rfl) hP.1 kk)
    · simp only [zstep] at hs
      split at hs <;> first | (cases hs; done) | (simp only [Option.some.injEq, Prod.mk.injEq] at hs; obtain ⟨rfl, rfl, rfl, rfl⟩ := hs; exact zs_baload (t := 2) hd (Or.inr rfl) hP.1 kk)
  next =>
    simp only [Bool.and_eq_true, beq_iff_eq, decide_eq_true_eq] at hm
    obtain ⟨rfl, rfl, rfl⟩ := hm
    simp only [zstep] at hs
    split at hs <;> first | (cases hs; done) | (simp only [Option.some.injEq, Prod.mk.injEq] at hs; obtain ⟨rfl, rfl, rfl, rfl⟩ := hs; exact zs_iastore hd hP.1 kk)
  next =>
    simp only [Bool.and_eq_true, Bool.or_eq_true, beq_iff_eq] at hm
    obtain ⟨rfl, rfl, hm⟩ := hm
    rcases hm with rfl | rfl
    · simp only [zstep] at hs
      split at hs <;> first | (cases hs; done) | (simp only [Option.some.injEq, Prod.mk.injEq] at hs; obtain ⟨rfl, rfl, rfl, rfl⟩ := hs; exact zs_bastore hd hP.1 kk)
    · simp only [zstep] at hs
      split at hs <;> first | (cases hs; done) | (simp only [Option.some.injEq, Prod.mk.injEq] at hs; obtain ⟨rfl, rfl, rfl, rfl⟩ := hs; exact zs_zastore hd hP.1 kk)
  next =>
    simp only [Bool.and_eq_true, beq_iff_eq, decide_eq_true_eq] at hm
    obtain ⟨rfl, rfl⟩ := hm
    simp only [zstep] at hs
    split at hs <;> first | (cases hs; done) | (simp only [Option.some.injEq, Prod.mk.injEq] at hs; obtain ⟨rfl, rfl, rfl, rfl⟩ := hs; exact zs_aaload hd hP.1 kk)
  next =>
    simp only [Bool.and_eq_true, beq_iff_eq, decide_eq_true_eq] at hm
    obtain ⟨rfl, rfl⟩ := hm
    simp only [zstep] at hs
    split at hs <;> first | (cases hs; done) | (simp only [Option.some.injEq, Prod.mk.injEq] at hs; obtain ⟨rfl, rfl, rfl, rfl⟩ := hs; exact zs_alen hd hP.1 kk)
  next n =>
    rw [Bool.and_eq_true, Bool.and_eq_true] at hm
    obtain ⟨h1, h2, hx⟩ := hm
    obtain rfl := beq_iff_eq.mp h1
    obtain rfl := beq_iff_eq.mp h2
    simp only [zstep] at hs
    simp only [Option.some.injEq, Prod.mk.injEq] at hs; obtain ⟨rfl, rfl, rfl, rfl⟩ := hs
    exact zs_getstatic hd hx kk
  next =>
    simp only [Bool.and_eq_true, beq_iff_eq, decide_eq_true_eq] at hm
    obtain ⟨rfl, rfl⟩ := hm
    simp only [zstep] at hs
    split at hs <;> first | (cases hs; done) | (simp only [Option.some.injEq, Prod.mk.injEq] at hs; obtain ⟨rfl, rfl, rfl, rfl⟩ := hs; exact zs_ineg hd kk)
  next =>
    simp only [Bool.and_eq_true, beq_iff_eq, decide_eq_true_eq] at hm
    obtain ⟨rfl, rfl⟩ := hm
    simp only [zstep] at hs
    split at hs <;> first | (cases hs; done) | (simp only [Option.some.injEq, Prod.mk.injEq] at hs; obtain ⟨rfl, rfl, rfl, rfl⟩ := hs; exact zs_i2b hd kk)
  next =>
    simp only [Bool.and_eq_true, beq_iff_eq, decide_eq_true_eq] at hm
    obtain ⟨rfl, rfl⟩ := hm
    simp only [zstep] at hs
    split at hs <;> first | (cases hs; done) | (simp only [Option.some.injEq, Prod.mk.injEq] at hs; obtain ⟨rfl, rfl, rfl, rfl⟩ := hs; exact zs_i2l hd kk)
  next n => 
    simp only [Bool.and_eq_true, beq_iff_eq, decide_eq_true_eq] at hm
    obtain ⟨rfl, rfl, hx⟩ := hm
    simp only [zstep] at hs
    simp only [Option.some.injEq, Prod.mk.injEq] at hs; obtain ⟨rfl, rfl, rfl, rfl⟩ := hs
    exact zs_lconst hd hx kk
  next n =>
    rw [Bool.and_eq_true, Bool.and_eq_true] at hm
    obtain ⟨h1, h2, hx⟩ := hm
    obtain rfl := beq_iff_eq.mp h1
    obtain rfl := beq_iff_eq.mp h2
    simp only [zstep] at hs
    simp only [Option.some.injEq, Prod.mk.injEq] at hs; obtain ⟨rfl, rfl, rfl, rfl⟩ := hs
    exact zs_ldc2 hd (zCL_mem hx) kk
  next =>
    simp only [Bool.and_eq_true, beq_iff_eq, decide_eq_true_eq] at hm
    obtain ⟨rfl, rfl⟩ := hm
    simp only [zstep] at hs
    split at hs <;> first | (cases hs; done) | (simp only [Option.some.injEq, Prod.mk.injEq] at hs; obtain ⟨rfl, rfl, rfl, rfl⟩ := hs; exact zs_lsub hd kk)
  next =>
    simp only [Bool.and_eq_true, beq_iff_eq, decide_eq_true_eq] at hm
    obtain ⟨rfl, rfl⟩ := hm
    simp only [zstep] at hs
    split at hs <;> first | (cases hs; done) | (simp only [Option.some.injEq, Prod.mk.injEq] at hs; obtain ⟨rfl, rfl, rfl, rfl⟩ := hs; exact zs_lcmp hd kk)
  next =>
    simp only [Bool.and_eq_true, beq_iff_eq, decide_eq_true_eq] at hm
    obtain ⟨rfl, rfl⟩ := hm
    simp only [zstep] at hs
    split at hs <;> first | (cases hs; done) | (simp only [Option.some.injEq, Prod.mk.injEq] at hs; obtain ⟨rfl, rfl, rfl, rfl⟩ := hs; first | exact zs_dup_i hd kk | exact zs_dup_r hd kk)
  next =>
    simp only [Bool.and_eq_true, beq_iff_eq, decide_eq_true_eq] at hm
    obtain ⟨rfl, rfl⟩ := hm
    simp only [zstep] at hs
    split at hs <;> first | (cases hs; done) | (simp only [Option.some.injEq, Prod.mk.injEq] at hs; obtain ⟨rfl, rfl, rfl, rfl⟩ := hs; exact zs_dup2 hd kk)
  next =>
    simp only [Bool.and_eq_true, beq_iff_eq, decide_eq_true_eq] at hm
    obtain ⟨rfl, rfl⟩ := hm
    simp only [zstep] at hs
    split at hs <;> first | (cases hs; done) | (simp only [Option.some.injEq, Prod.mk.injEq] at hs; obtain ⟨rfl, rfl, rfl, rfl⟩ := hs; exact zs_pop hd kk)
  next =>
    simp only [Bool.and_eq_true, beq_iff_eq, decide_eq_true_eq] at hm
    obtain ⟨rfl, rfl⟩ := hm
    simp only [zstep] at hs
    split at hs <;> first | (cases hs; done) | (simp only [Option.some.injEq, Prod.mk.injEq] at hs; obtain ⟨rfl, rfl, rfl, rfl⟩ := hs; exact zs_dup_x1 hd kk)
  next x0 => 
    simp only [Bool.and_eq_true, beq_iff_eq, decide_eq_true_eq] at hm
    obtain ⟨rfl, rfl, hx⟩ := hm
    simp only [zstep] at hs
    simp only [Option.some.injEq, Prod.mk.injEq] at hs; obtain ⟨rfl, rfl, rfl, rfl⟩ := hs
    exact zs_goto hd hx kk
  next => cases hm
def zRun : List zop → zLv → List Value → zHp → Option (zLv × List Value × zHp × List Prop)
  | [], lv, st, h => some (lv, st, h, [])
  | o :: os, lv, st, h => match zstep o lv st h with
    | some (lv1, st1, h1, P1) => match zRun os lv1 st1 h1 with
      | some (lv2, st2, h2, P2) => some (lv2, st2, h2, P1 ++ P2)
      | none => none
    | none => none
/-- the ops stand in the code from pc on: where they end -/
def zBk (M : zMT) : Nat → List zop → Option Nat
  | pc, [] => some pc
  | pc, o :: os => match decode M.2.2.1 pc with
    | .ok (i, len) => if zmat M i len pc o = true then zBk M (znext o pc len) os else none
    | _ => none
theorem zall_app {P1 P2 : List Prop} (h : zall (P1 ++ P2)) : zall P1 ∧ zall P2 := by
  induction P1 with
  | nil => exact ⟨trivial, h⟩
  | cons p ps ih => exact ⟨⟨h.1, (ih h.2).1⟩, (ih h.2).2⟩
theorem zG_run {os : List zop} {pc' : Nat} {lv' : zLv} {st' : List Value} {h' : zHp} {Ps : List Prop} (hb : zBk M pc os = some pc') (hr : zRun os lv st h = some (lv', st', h', Ps)) (hP : zall Ps) (kk : zG M N Q pc' lv' st' h') : zG M N Q pc lv st h := by
  induction os generalizing pc lv st h lv' st' h' Ps with
  | nil =>
    simp only [zBk, Option.some.injEq] at hb
    simp only [zRun, Option.some.injEq, Prod.mk.injEq] at hr
    obtain ⟨rfl, rfl, rfl, rfl⟩ := hr
    subst hb
    exact kk
  | cons o os ih =>
    simp only [zBk] at hb
    split at hb
    next i len hd =>
      split at hb
      next hm =>
        simp only [zRun] at hr
        split at hr
        next lv1 st1 h1 P1 hs =>
          split at hr
          next lv2 st2 h2 P2 hr2 =>
            simp only [Option.some.injEq, Prod.mk.injEq] at hr
            obtain ⟨rfl, rfl, rfl, rfl⟩ := hr
            obtain ⟨q1, q2⟩ := zall_app hP
            exact zstep_ok hd hm hs q1 (ih hb hr2 q2 kk)
          next => cases hr
        next => cases hr
      next => cases hb
    next => cases hb
end
end
section
/-! branches, switches, returns, calls -/
section
variable {M : zMT} {N : Nat} {Q : Option Value → zHp → Prop} {pc : Nat} {lv : zLv} {st : List Value} {h : zHp}
variable {os : List zop} {pc1 tgt : Nat} {off : Int} {lv' : zLv} {st' : List Value} {h' : zHp} {Ps : List Prop} {x y : Int32}
theorem zb_ifeq (hb : zBk M pc os = some pc1) (hd : decode M.2.2.1 pc1 = .ok (.ifCond .eq off, 3)) (ht : (pc1 : Int) + off = (tgt : Int)) (hr : zRun os lv st h = some (lv', .int x :: st', h', Ps)) (hP : zall Ps) (kt : x = 0 → zG M N Q tgt lv' st' h') (kf : ¬ (x = 0) → zG M N Q (pc1 + 3) lv' st' h') : zG M N Q pc lv st h := by
  refine zG_run hb hr hP ?_
  intro k p l e R s m args below meth c H ls locs cells slots Qf C P S L Z F
  exact lv_if_eq C.1 C.2.1 hd ht (fun q => kt q k p l e R s m args below meth c H ls locs cells slots Qf C P S L Z F) (fun q => kf q k p l e R s m args below meth c H ls locs cells slots Qf C P S L Z F)
theorem zb_iceq (hb : zBk M pc os = some pc1) (hd : decode M.2.2.1 pc1 = .ok (.if_icmp .eq off, 3)) (ht : (pc1 : Int) + off = (tgt : Int)) (hr : zRun os lv st h = some (lv', .int y :: .int x :: st', h', Ps)) (hP : zall Ps) (kt : x = y → zG M N Q tgt lv' st' h') (kf : ¬ (x = y) → zG M N Q (pc1 + 3) lv' st' h') : zG M N Q pc lv st h := by
  refine zG_run hb hr hP ?_
  intro k p l e R s m args below meth c H ls locs cells slots Qf C P S L Z F
  exact lv_icmp_eq C.1 C.2.1 hd ht (fun q => kt q k p l e R s m args below meth c H ls locs cells slots Qf C P S L Z F) (fun q => kf q k p l e R s m args below meth c H ls locs cells slots Qf C P S L Z F)
theorem zb_ifne (hb : zBk M pc os = some pc1) (hd : decode M.2.2.1 pc1 = .ok (.ifCond .ne off, 3)) (ht : (pc1 : Int) + off = (tgt : Int)) (hr : zRun os lv st h = some (lv', .int x :: st', h', Ps)) (hP : zall Ps) (kt : ¬ x = 0 → zG M N Q tgt lv' st' h') (kf : x = 0 → zG M N Q (pc1 + 3) lv' st' h') : zG M N Q pc lv st h := by
  refine zG_run hb hr hP ?_
  intro k p l e R s m args below meth c H ls locs cells slots Qf C P S L Z F
  exact lv_if_ne C.1 C.2.1 hd ht (fun q => kt q k p l e R s m args below meth c H ls locs cells slots Qf C P S L Z F) (fun q => kf q k p l e R s m args below meth c H ls locs cells slots Qf C P S L Z F)
theorem zb_icne (hb : zBk M pc os = some pc1) (hd : decode M.2.2.1 pc1 = .ok (.if_icmp .ne off, 3)) (ht : (pc1 : Int) + off = (tgt : Int)) (hr : zRun os lv st h = some (lv', .int y :: .int x :: st', h', Ps)) (hP : zall Ps) (kt : ¬ x = y → zG M N Q tgt lv' st' h') (kf : x = y → zG M N Q (pc1 + 3) lv' st' h') : zG M N Q pc lv st h := by
  refine zG_run hb hr hP ?_
  intro k p l e R s m args below meth c H ls locs cells slots Qf C P S L Z F
  exact lv_icmp_ne C.1 C.2.1 hd ht (fun q => kt q k p l e R s m args below meth c H ls locs cells slots Qf C P S L Z F) (fun q => kf q k p l e R s m args below meth c H ls locs cells slots Qf C P S L Z F)
theorem zb_iflt (hb : zBk M pc os = some pc1) (hd : decode M.2.2.1 pc1 = .ok (.ifCond .lt off, 3)) (ht : (pc1 : Int) + off = (tgt : Int)) (hr : zRun os lv st h = some (lv', .int x :: st', h', Ps)) (hP : zall Ps) (kt : x < 0 → zG M N Q tgt lv' st' h') (kf : ¬ (x < 0) → zG M N Q (pc1 + 3) lv' st' h') : zG M N Q pc lv st h := by
  refine zG_run hb hr hP ?_
  intro k p l e R s m args below meth c H ls locs cells slots Qf C P S L Z F
  exact lv_if_lt C.1 C.2.1 hd ht (fun q => kt q k p l e R s m args below meth c H ls locs cells slots Qf C P S L Z F) (fun q => kf q k p l e R s m args below meth c H ls locs cells slots Qf C P S L Z F)
theorem zb_iclt (hb : zBk M pc os = some pc1) (hd : decode M.2.2.1 pc1 = .ok (.if_icmp .lt off, 3)) (ht : (pc1 : Int) + off = (tgt : Int)) (hr : zRun os lv st h = some (lv', .int y :: .int x :: st', h', Ps)) (hP : zall Ps) (kt : x < y → zG M N Q tgt lv' st' h') (kf : ¬ (x < y) → zG M N Q (pc1 + 3) lv' st' h') : zG M N Q pc lv st h := by
  refine zG_run hb hr hP ?_
  intro k p l e R s m args below meth c H ls locs cells slots Qf C P S L Z F
  exact lv_icmp_lt C.1 C.2.1 hd ht (fun q => kt q k p l e R s m args below meth c H ls locs cells slots Qf C P S L Z F) (fun q => kf q k p l e R s m args below meth c H ls locs cells slots Qf C P S L Z F)
theorem zb_ifge (hb : zBk M pc os = some pc1) (hd : decode M.2.2.1 pc1 = .ok (.ifCond .ge off, 3)) (ht : (pc1 : Int) + off = (tgt : Int)) (hr : zRun os lv st h = some (lv', .int x :: st', h', Ps)) (hP : zall Ps) (kt : 0 ≤ x → zG M N Q tgt lv' st' h') (kf : ¬ (0 ≤ x) → zG M N Q (pc1 + 3) lv' st' h') : zG M N Q pc lv st h := by
  refine zG_run hb hr hP ?_
  intro k p l e R s m args below meth c H ls locs cells slots Qf C P S L Z F
  exact lv_if_ge C.1 C.2.1 hd ht (fun q => kt q k p l e R s m args below meth c H ls locs cells slots Qf C P S L Z F) (fun q => kf q k p l e R s m args below meth c H ls locs cells slots Qf C P S L Z F)
theorem zb_icge (hb : zBk M pc os = some pc1) (hd : decode M.2.2.1 pc1 = .ok (.if_icmp .ge off, 3)) (ht : (pc1 : Int) + off = (tgt : Int)) (hr : zRun os lv st h = some (lv', .int y :: .int x :: st', h', Ps)) (hP : zall Ps) (kt : y ≤ x → zG M N Q tgt lv' st' h') (kf : ¬ (y ≤ x) → zG M N Q (pc1 + 3) lv' st' h') : zG M N Q pc lv st h := by
  refine zG_run hb hr hP ?_
  intro k p l e R s m args below meth c H ls locs cells slots Qf C P S L Z F
  exact lv_icmp_ge C.1 C.2.1 hd ht (fun q => kt q k p l e R s m args below meth c H ls locs cells slots Qf C P S L Z F) (fun q => kf q k p l e R s m args below meth c H ls locs cells slots Qf C P S L Z F)
theorem zb_ifgt (hb : zBk M pc os = some pc1) (hd : decode M.2.2.1 pc1 = .ok (.ifCond .gt off, 3)) (ht : (pc1 : Int) + off = (tgt : Int)) (hr : zRun os lv st h = some (lv', .int x :: st', h', Ps)) (hP : zall Ps) (kt : 0 < x → zG M N Q tgt lv' st' h') (kf : ¬ (0 < x) → zG M N Q (pc1 + 3) lv' st' h') : zG M N Q pc lv st h := by
  refine zG_run hb hr hP ?_
  intro k p l e R s m args below meth c H ls locs cells slots Qf C P S L Z F
  exact lv_if_gt C.1 C.2.1 hd ht (fun q => kt q k p l e R s m args below meth c H ls locs cells slots Qf C P S L Z F) (fun q => kf q k p l e R s m args below meth c H ls locs cells slots Qf C P S L Z F)
theorem zb_icgt (hb : zBk M pc os = some pc1) (hd : decode M.2.2.1 pc1 = .ok (.if_icmp .gt off, 3)) (ht : (pc1 : Int) + off = (tgt : Int)) (hr : zRun os lv st h = some (lv', .int y :: .int x :: st', h', Ps)) (hP : zall Ps) (kt : y < x → zG M N Q tgt lv' st' h') (kf : ¬ (y < x) → zG M N Q (pc1 + 3) lv' st' h') : zG M N Q pc lv st h := by
  refine zG_run hb hr hP ?_
  intro k p l e R s m args below meth c H ls locs cells slots Qf C P S L Z F
  exact lv_icmp_gt C.1 C.2.1 hd ht (fun q => kt q k p l e R s m args below meth c H ls locs cells slots Qf C P S L Z F) (fun q => kf q k p l e R s m args below meth c H ls locs cells slots Qf C P S L Z F)
theorem zb_ifle (hb : zBk M pc os = some pc1) (hd : decode M.2.2.1 pc1 = .ok (.ifCond .le off, 3)) (ht : (pc1 : Int) + off = (tgt : Int)) (hr : zRun os lv st h = some (lv', .int x :: st', h', Ps)) (hP : zall Ps) (kt : x ≤ 0 → zG M N Q tgt lv' st' h') (kf : ¬ (x ≤ 0) → zG M N Q (pc1 + 3) lv' st' h') : zG M N Q pc lv st h := by
  refine zG_run hb hr hP ?_
  intro k p l e R s m args below meth c H ls locs cells slots Qf C P S L Z F
  exact lv_if_le C.1 C.2.1 hd ht (fun q => kt q k p l e R s m args below meth c H ls locs cells slots Qf C P S L Z F) (fun q => kf q k p l e R s m args below meth c H ls locs cells slots Qf C P S L Z F)
theorem zb_icle (hb : zBk M pc os = some pc1) (hd : decode M.2.2.1 pc1 = .ok (.if_icmp .le off, 3)) (ht : (pc1 : Int) + off = (tgt : Int)) (hr : zRun os lv st h = some (lv', .int y :: .int x :: st', h', Ps)) (hP : zall Ps) (kt : x ≤ y → zG M N Q tgt lv' st' h') (kf : ¬ (x ≤ y) → zG M N Q (pc1 + 3) lv' st' h') : zG M N Q pc lv st h := by
  refine zG_run hb hr hP ?_
  intro k p l e R s m args below meth c H ls locs cells slots Qf C P S L Z F
  exact lv_icmp_le C.1 C.2.1 hd ht (fun q => kt q k p l e R s m args below meth c H ls locs cells slots Qf C P S L Z F) (fun q => kf q k p l e R s m args below meth c H ls locs cells slots Qf C P S L Z F)
theorem zs_tableIn {dflt lo hi : Int} {offs : Array Int} {len : Nat} (hd : decode M.2.2.1 pc = .ok (.tableswitch dflt lo hi offs, len)) (h1 : ¬ x.toInt < lo) (h2 : ¬ hi < x.toInt) (ho : offs[(x.toInt - lo).toNat]? = some off) (ht : (pc : Int) + off = (tgt : Int)) (kk : zG M N Q tgt lv st h) : zG M N Q pc lv (.int x :: st) h := by
  intro k p l e R s m args below meth c H ls locs cells slots Qf C P S L Z F
  exact lv_tableIn C.1 C.2.1 hd h1 h2 ho ht (kk k p l e R s m args below meth c H ls locs cells slots Qf C P S L Z F)
theorem zs_tableOut {dflt lo hi : Int} {offs : Array Int} {len : Nat} (hd : decode M.2.2.1 pc = .ok (.tableswitch dflt lo hi offs, len)) (h1 : x.toInt < lo ∨ hi < x.toInt) (ht : (pc : Int) + dflt = (tgt : Int)) (kk : zG M N Q tgt lv st h) : zG M N Q pc lv (.int x :: st) h := by
  intro k p l e R s m args below meth c H ls locs cells slots Qf C P S L Z F
  exact lv_tableOut C.1 C.2.1 hd h1 ht (kk k p l e R s m args below meth c H ls locs cells slots Qf C P S L Z F)
theorem zs_lookup {dflt : Int} {ps : Array (Int × Int)} {len : Nat} (hd : decode M.2.2.1 pc = .ok (.lookupswitch dflt ps, len)) (hp : (ps.toList.zip (ps.toList.drop 1)).all (fun (a, next) => a.1 < next.1) = true) (ho : Op.lookupswitch.offset ps.toList dflt x.toInt = off) (ht : (pc : Int) + off = (tgt : Int)) (kk : zG M N Q tgt lv st h) : zG M N Q pc lv (.int x :: st) h := by
  intro k p l e R s m args below meth c H ls locs cells slots Qf C P S L Z F
  exact lv_lookup C.1 C.2.1 hd hp ho ht (kk k p l e R s m args below meth c H ls locs cells slots Qf C P S L Z F)
theorem zs_ret {r : Option Value} (hr : zRet M pc r) (hN : h.2.1 = N) (hq : Q r h) : zG M N Q pc lv r.toList h := by
  intro k p l e R s m args below meth c H ls locs cells slots Qf C P S L Z F
  exact F pc ls H locs cells slots r h hq hN P S Z hr
theorem zb_iret (hb : zBk M pc os = some pc1) (hd : decode M.2.2.1 pc1 = .ok (.ireturn, 1)) (hm : M.2.2.2.2.1 = some .int) (hr : zRun os lv st h = some (lv', [.int x], h', Ps)) (hP : zall Ps) (hN : h'.2.1 = N) (hq : Q (some (.int x)) h') : zG M N Q pc lv st h :=
  zG_run hb hr hP (zs_ret (r := some (.int x)) ⟨hd, .int, hm, rfl⟩ hN hq)
theorem zb_zret (hb : zBk M pc os = some pc1) (hd : decode M.2.2.1 pc1 = .ok (.ireturn, 1)) (hm : M.2.2.2.2.1 = some .boolean) (hr : zRun os lv st h = some (lv', [.int x], h', Ps)) (hP : zall Ps) (hN : h'.2.1 = N) (hx : x = 0 ∨ x = 1) (hq : Q (some (.int x)) h') : zG M N Q pc lv st h :=
  zG_run hb hr hP (zs_ret (r := some (.int x)) ⟨hd, .boolean, hm, by rcases hx with rfl | rfl <;> decide⟩ hN hq)
theorem zb_vret (hb : zBk M pc os = some pc1) (hd : decode M.2.2.1 pc1 = .ok (.return_, 1)) (hm : M.2.2.2.2.1 = none) (hr : zRun os lv st h = some (lv', [], h', Ps)) (hP : zall Ps) (hN : h'.2.1 = N) (hq : Q none h') : zG M N Q pc lv st h :=
  zG_run hb hr hP (zs_ret (r := none) ⟨hd, hm⟩ hN hq)
theorem zb_aret {a : Nat} {n : String} (hb : zBk M pc os = some pc1) (hd : decode M.2.2.1 pc1 = .ok (.areturn, 1)) (hm : M.2.2.2.2.1 = some (.object n)) (hr : zRun os lv st h = some (lv', [.ref a], h', Ps)) (hP : zall Ps) (hN : h'.2.1 = N) (hq : Q (some (.ref a)) h') : zG M N Q pc lv st h :=
  zG_run hb hr hP (zs_ret (r := some (.ref a)) ⟨hd, n, hm⟩ hN hq)
end
end
section
/-! a method's contract out of the judgement; calls -/
theorem zss_mono {a b : Nat} (h : a ≤ b) : zss a ≤ zss b := by
  induction h with
  | refl => exact Nat.le_refl _
  | step _ ih => exact Nat.le_trans ih (Nat.le_add_right _ _)
theorem zSt_move {k : zKT} {s t : State} {H0 H : Heap} {locs : List Loc} (h : zSt k s H0) (hW : s.WarmedH t.vm) (hS : va_S (zB k) H0 H locs) : zSt k t H := by
  obtain ⟨h1, h2, h3, h4, h5, h6, h7, h8, h9⟩ := h
  have hvm := hW.alike
  refine ⟨va_K.moved hvm h1, h2, h3, (va_Z.moved hvm h4).kept hS.2.1, (va_T.moved hvm h5).kept hS.2.1, (va_T.moved hvm h6).kept hS.2.1, h7, fun w hw => ?_, fun C hC => va_AO.moved hvm (h9 C hC)⟩
  have h := h8 w hw
  simp only [zNs, List.mem_cons, List.not_mem_nil, or_false] at hw
  rcases hw with rfl | rfl | rfl | rfl | rfl | rfl | rfl | rfl | rfl | rfl <;> first | exact va_Nw.warmF hW h | exact va_Nw.warmM hW h
theorem zargs_map (k : zKT) (vs : List Value) : ∀ i, lv_args i (vs.map (zv k)) = (lv_args i vs).map (zvp k) := by
  induction vs with
  | nil => intro i; rfl
  | cons v vs ih =>
    intro i
    have e : (zv k v).category = v.category := by cases v <;> rfl
    simp only [List.map_cons, lv_args, e]
    rw [ih]
    rfl
theorem zsl_len (k : zKT) (vs : List Value) : (lg_sl (vs.map (zv k))).length = (lg_sl vs).length := by
  induction vs with
  | nil => rfl
  | cons v vs ih =>
    have e : (zv k v).category = v.category := by cases v <;> rfl
    simp only [lg_sl, List.map_cons, List.flatMap_cons, List.length_append] at ih ⊢
    rw [ih, e]
    congr 1
    split <;> rfl
def zws (M : zMT) : List Cond := .code M.2.1 M.2.2.1 M.2.2.2.1 M.2.2.2.2.1 :: zTbl
/-- a method of the tables: n arguments beside the receiver -/
def zOk (M : zMT) (n : Nat) : Prop := plainFor M.2.1 = true ∧ M.2.1.cls = zON M.1 ∧ Cond.code M.2.1 M.2.2.1 M.2.2.2.1 M.2.2.2.2.1 ∈ zTbl ∧ Cond.initialized M.2.1.cls ∈ zTbl ∧ (M.2.1.cls ≠ "java/lang/invoke/MethodHandle" ∧ M.2.1.cls ≠ "java/lang/invoke/VarHandle" ∧ (parseMethodDescriptor M.2.1.desc).map (fun d => d.parameters.length) = some n)
theorem zws_good {M : zMT} {n : Nat} (h : zOk M n) : GoodIn zTbl (zws M) := by
  intro w hw
  have hm : w ∈ zTbl := by
    rcases List.mem_cons.mp hw with rfl | q
    · exact h.2.2.1
    · exact q
  exact ⟨hm, good_of_word (List.mem_filter.mp hm).2⟩
def zQc (k : zKT) (N : Nat) (Q : Option Value → zHp → Prop) : Array Value → State → Outcome → State → Prop := fun _ st o t => (∃ (r : Option Value) (h' : zHp), o = .returned (r.map (zv k)) ∧ Q r h' ∧ h'.2.1 = N ∧ zPic k h' t.heap) ∧ va_F (zB k) st t
def zrm (M : zMT) (N : Nat) (h : zHp) : Room := { frames := M.2.2.2.2.2.1, cells := N - h.2.1, slots := zss N - zss h.2.1, locals := M.2.2.2.2.2.2 }
def zPc (k : zKT) (vs : List Value) (h : zHp) : Array Value → State → Prop := va_Pc (vs.map (zv k)) (fun U => zSt k U U.heap ∧ zPic k h U.heap ∧ U.heap.size = k.1.1 + h.2.1)
theorem zofW {l : Launch} {y : MethodName} {ws ws' : List Cond} {rm : Room} {Pc : Array Value → State → Prop} {Qc : Array Value → State → Outcome → State → Prop} {mc ms : Nat} {free : Addr → Prop} {cc : ByteArray} {maxL : Nat} {ret : Option FieldType}
    (hy : plainFor y = true) (hw : ws = Cond.code y cc maxL ret :: ws')
    (body : ∀ p e s m args below meth c s₁, BodyLoose p l y (headSpec ws rm) cc maxL ret e s m args below meth c s₁ → c.maxLocals = maxL → Pc args s →
      W p l e (headSpec ws rm).room s m args below meth c s.heap [] 0 0 (MQ below Qc args s mc ms free) (entryFrame m args maxL)) : Met l y ws rm Pc Qc mc ms free := by
  refine MetFree.of_bodySF (code := cc) (maxLocals := maxL) (ret := ret) hy (fun args s m h hn => ?_) (fun p e s m args below meth c s₁ B hml hP _ => ?_)
  · obtain ⟨meth, c, g1, g2, g3, g4, g5, g6, -⟩ := Cond.code_spec hn (atoms_spec (ws := ws) h _ (by rw [hw]; exact List.mem_cons_self))
    exact ⟨meth, c, g1, g2, g3, g4, g5, g6⟩
  · have e0 : s₁.heap = s.heap := by rw [B.state]; rfl
    obtain ⟨t, a1, o, b1, b2, b3, b4⟩ := body p e s m args below meth c s₁ B hml hP s₁ e0 (Stand.of_body B)
    exact ⟨t, o, a1, b1, b2, b3, b4⟩
theorem zMet {M : zMT} {N n : Nat} {Q : Option Value → zHp → Prop} {vs : List Value} {h : zHp} (l : Launch) (k : zKT) (hM : zOk M n) (hvs : (lg_sl vs).length ≤ M.2.2.2.1) (hN : h.2.1 ≤ N) (hN2 : N ≤ 100000) (body : zG M N Q 0 (lv_args 0 vs) [] h) :
    Met l M.2.1 (zws M) (zrm M N h) (zPc k vs h) (zQc k N Q) (N - h.2.1) (zss N - zss h.2.1) (zB k) := by
  refine zofW (cc := M.2.2.1) (maxL := M.2.2.2.1) (ret := M.2.2.2.2.1) hM.1 rfl ?_
  intro p e s m args below meth c s₁ B hml hv
  obtain ⟨rfl, hst, hpic, hsz⟩ := hv
  have hts := atoms_spec (ws := zws M) B.pre
  have hown : s.vm.findClass (zON M.1) = some m.cls := by rw [← hM.2.1]; exact findClass_of_methodNamed B.named
  have hl := lv_entry (vs.map (zv k)) (n := M.2.2.2.1) (by rw [zsl_len]; exact hvs)
  rw [lg_entry_eq]
  generalize (lg_sl (vs.map (zv k)) ++ List.replicate (M.2.2.2.1 - (lg_sl (vs.map (zv k))).length) Slot.unset).toArray = ls at hl ⊢
  rw [zargs_map] at hl
  refine body k p l e _ s m _ below meth c s.heap ls [] 0 0 _ ⟨B.exec, B.bytes, B.returns, hml, hown, fun w hw => hts w (List.mem_cons_of_mem _ hw), B.notSynchronized, (name_of_methodNamed B.named B.method).1, Nat.le_refl _, Nat.le_refl _, hst⟩ hpic va_S.rf hl ?_ ?_
  · refine ⟨by omega, hN, hN2, by omega, ?_, ?_, ?_⟩
    · rw [hsz, Nat.add_sub_cancel_left]; rfl
    · show _ ≤ _ + (N - h.2.1); omega
    · show _ ≤ _ + (zss N - zss h.2.1)
      rw [hsz, Nat.add_sub_cancel_left]; omega
  · intro pc' ls' H' locs' cells' slots' r h' hQ hN' P' S' Z' hret
    obtain ⟨z1, z2, z3, z4, z5, -, -⟩ := Z'
    have e1 : cells' ≤ N - h.2.1 := by omega
    have e2 : slots' ≤ zss N - zss h.2.1 := by
      rw [hsz, Nat.add_sub_cancel_left, hN'] at z5; omega
    refine W.widen e1 e2 ?_
    have hq : ∀ t : State, t.heap = H' → s.WarmedH t.vm → zQc k N Q (vs.map (zv k)).toArray s (.returned (r.map (zv k))) t := fun t ht hW => ⟨⟨r, h', rfl, hQ, hN', by rw [ht]; exact P'⟩, S'.F ht⟩
    have hlocks : meth.locks = false := B.notSynchronized
    match r, hret, hq with
    | none, hret, hq => exact W.vret B.exec B.bytes (B.returns.trans hret.2) hq S'.2.2 hret.1
    | some (.int v), hret, hq =>
      obtain ⟨hd, ty, ht, hn⟩ := hret
      exact W.zret B.exec B.bytes (B.returns.trans ht) hn hq S'.2.2 hd
    | some (.ref a), hret, hq =>
      obtain ⟨hd, nm, ht⟩ := hret
      exact W.aret B.exec B.bytes (B.returns.trans ht) (Or.inl ⟨nm, rfl⟩) (Or.inr ⟨_, rfl⟩) hq S'.2.2 hd
theorem zPc_blind {k : zKT} {vs : List Value} {h : zHp} : FrameBlind (zPc k vs h) := by
  intro a U g mk q
  obtain ⟨q0, qs, qP, qz⟩ := q
  exact ⟨q0, zSt_move (t := U.calling g mk a) qs (State.WarmedH.refl U) va_S.rf, qP, qz⟩
section
variable {p : Program} {l : Launch} {e : Env} {R : Room} {s : State} {m : MethodId} {args : Array Value} {below : List Frame} {meth : Method} {c : Code} {H : Heap} {locs : List Loc} {cells slots : Nat} {Qf : State → Prop}
/-- the rest of the caller behind a call -/
theorem zW_call {k : zKT} {M : zMT} {N N2 : Nat} {Q Q2 : Option Value → zHp → Prop} {pc : Nat} {lv : zLv} {h : zHp} {ls : Array Slot} {st0 rest : List Value} {av : Array Value}
    (C : zCx k M p R s m args meth c) (P : zPic k h H) (S : va_S (zB k) s.heap H locs) (L : lv_has ls M.2.2.2.1 (lv.map (zvp k))) (Z : zRm k h N R s cells slots) (hN : h.2.1 ≤ N2) (hN2 : N2 ≤ N)
    (F : ∀ (pc' : Nat) (ls' : Array Slot) (H' : Heap) (locs' : List Loc) (cells' slots' : Nat) (r : Option Value) (h' : zHp), Q r h' → h'.2.1 = N → zPic k h' H' → va_S (zB k) s.heap H' locs' → zRm k h' N R s cells' slots' → zRet M pc' r → W p l e R s m args below meth c H' locs' cells' slots' Qf (F0 m pc' ls' (r.toList.map (zv k))))
    (hr : va_Run p l e R s m args below meth c H locs cells slots (N2 - h.2.1) (zss N2 - zss h.2.1) (F0 m pc ls st0) (rest.map (zv k)) (zQc k N2 Q2 av) (zB k))
    (kk : ∀ (r : Option Value) (h' : zHp), Q2 r h' → h'.2.1 = N2 → zG M N Q (pc + 3) lv (r.toList ++ rest) h') : W p l e R s m args below meth c H locs cells slots Qf (F0 m pc ls st0) := by
  intro T hT X
  obtain ⟨v, st₀, t, T', L1, h0, X', hL, e1, e2, ⟨⟨r, h', hv, hQ, hn, hp⟩, hF1, hF2⟩, st⟩ := hr T hT X
  have hv : v = r.map (zv k) := by cases hv; rfl
  subst hv
  rw [h0] at hF1 hF2
  have S' : va_S (zB k) s.heap T'.heap (locs ++ L1) := by
    refine ⟨Nat.le_trans S.1 (by rw [e1]; exact hF1), fun q g1 g2 => ?_, fun q hq => ?_⟩
    · rw [e1, hF2 q (Nat.lt_of_lt_of_le g1 S.1) g2]; exact S.2.1 q g1 g2
    · rcases List.mem_append.mp hq with q1 | q1
      · exact S.2.2 q q1
      · exact hL q q1
  have hm := zss_mono hN
  obtain ⟨z1, z2, z3, z4, z5, z6, z7⟩ := Z
  obtain ⟨t2, a1, b1⟩ := kk r h' hQ hn k p l e R s m args below meth c T'.heap ls (locs ++ L1) (cells + (N2 - h.2.1)) (slots + (zss N2 - zss h.2.1)) Qf C (by rw [e1]; exact hp) S' L ⟨z1, by omega, z3, by omega, by rw [hn]; omega, z6, z7⟩ F T' rfl X'
  refine ⟨t2, st t2 ?_, b1⟩
  have e3 : (r.toList ++ rest).map (zv k) = (r.map (zv k)).toList ++ rest.map (zv k) := by
    cases r <;> simp
  rw [e3] at a1
  exact a1
end
def zRo1 (M M2 : zMT) : Prop := M2.2.2.2.2.2.1 + 1 ≤ M.2.2.2.2.2.1 ∧ 8 + (M2.2.2.2.1 + 11) + M2.2.2.2.2.2.2 ≤ M.2.2.2.2.2.2
theorem zcat (k : zKT) (rest : List Value) : ((rest.map (zv k)).map fun v => v.category) = rest.map fun v => v.category := by
  rw [List.map_map]
  apply List.map_congr_left
  intro v _
  cases v <;> rfl
section
variable {M M2 : zMT} {N N2 n : Nat} {Q Q2 : Option Value → zHp → Prop} {pc x a c : Nat} {lv : zLv} {st rest As : List Value} {h : zHp}
theorem zG_callv (hd : decode M.2.2.1 pc = .ok (.invokevirtual x, 3)) (hM : zOk M2 n) (hl : Cond.methodLink (zON M.1) x M2.2.1 ∈ zTbl ∧ Cond.instanceMethod M2.2.1 ∈ zTbl ∧ Cond.selects M2.2.1.cls M2.2.1 M2.2.1 ∈ zTbl) (hR : zRo1 M M2) (hc : c < 11) (hcl : (zCN c).1 = M2.2.1.cls)
    (hst : st = As.reverse ++ .ref a :: rest) (hn : As.length = n) (hrest : (rest.map fun v => v.category).sum ≤ 8) (hvs : (lg_sl (.ref a :: As)).length ≤ M2.2.2.2.1) (hN : h.2.1 ≤ N2) (hN2 : N2 ≤ N) (ho : zOb h a c)
    (body : zG M2 N2 Q2 0 (lv_args 0 (.ref a :: As)) [] h) (kk : ∀ (r : Option Value) (h' : zHp), Q2 r h' → h'.2.1 = N2 → zG M N Q (pc + 3) lv (r.toList ++ rest) h') : zG M N Q pc lv st h := by
  intro k p l e R s m args below meth c0 H ls locs cells slots Qf C P S L Z F T hT X
  have hB := Z.1
  have hsz : H.size = k.1.1 + h.2.1 := Nat.le_antisymm (by rw [← hT, ← Z.2.2.2.1]; exact X.heapSize) (zPic_size P hB S)
  have ha := zad_lt (k := k) (a := a) (zlt ho.1 P.2.1)
  have hmn := zss_mono hN
  have hmn2 := zss_mono hN2
  obtain ⟨z1, z2, z3, z4, z5, z6, z7⟩ := id Z
  refine zW_call (rest := rest) (N2 := N2) (Q2 := Q2) (av := (Value.ref (k.1.1 + a) :: As.map (zv k)).toArray) C P S L Z hN hN2 F ?_ kk T hT X
  refine va_runV (C := M2.2.1.cls) (bytes := M2.2.2.1) (maxL := M2.2.2.2.1) (ret := M2.2.2.2.2.1) (n := n) (As := As.map (zv k)) (b := k.1.1 + a) (nL := M.2.2.2.1) ⟨C.1, C.2.1, C.2.2.2.1, C.2.2.2.2.1, C.2.2.2.2.2.1⟩ (zMet (vs := .ref a :: As) l k hM hvs hN (Nat.le_trans hN2 z3) body)
    ⟨callB_of n C.2.2.2.2.2.1 (zws_good hM) rfl rfl rfl (C.2.2.2.2.2.1 _ hM.2.2.2.1) (C.2.2.2.2.2.1 _ hl.1) hM.2.2.2.2 ⟨Nat.le_trans hR.1 C.2.2.2.2.2.2.2.2.1, Nat.le_trans hR.2 C.2.2.2.2.2.2.2.2.2.1⟩, C.2.2.2.2.2.1 _ hl.2.1, C.2.2.2.2.2.1 _ hl.2.2⟩
    ⟨zPc_blind, by rw [← hcl]; exact va_recv C.2.2.2.2.2.2.2.2.2.2.1 P.1 (zCls_get c hc) (by rw [zWs_get ho.1, zE_0 ho.2]), fun U hU hW => ⟨by show _ = (Value.ref (zad k a) :: As.map (zv k)).toArray; rw [ha], zSt_move C.2.2.2.2.2.2.2.2.2.2 hW (by rw [hU]; exact S), by rw [hU]; exact P, by rw [hU]; exact hsz⟩⟩
    rfl (by rw [List.length_map]; exact hn) L.1 ?_ (lv_room (by rw [zcat]; exact hrest)) hd ⟨by omega, by omega⟩
  show st.map (zv k) = _
  rw [hst, List.map_append, List.map_reverse, List.map_cons]
  show _ ++ Value.ref (zad k a) :: _ = _
  rw [ha]
theorem zG_calls (hd : decode M.2.2.1 pc = .ok (.invokestatic x, 3)) (hM : zOk M2 n) (hl : Cond.methodLink (zON M.1) x M2.2.1 ∈ zTbl ∧ Cond.static M2.2.1 ∈ zTbl) (hR : zRo1 M M2)
    (hst : st = As.reverse ++ rest) (hn : As.length = n) (hrest : (rest.map fun v => v.category).sum ≤ 8) (hvs : (lg_sl As).length ≤ M2.2.2.2.1) (hN : h.2.1 ≤ N2) (hN2 : N2 ≤ N)
    (body : zG M2 N2 Q2 0 (lv_args 0 As) [] h) (kk : ∀ (r : Option Value) (h' : zHp), Q2 r h' → h'.2.1 = N2 → zG M N Q (pc + 3) lv (r.toList ++ rest) h') : zG M N Q pc lv st h := by
  intro k p l e R s m args below meth c0 H ls locs cells slots Qf C P S L Z F T hT X
  have hB := Z.1
  have hsz : H.size = k.1.1 + h.2.1 := Nat.le_antisymm (by rw [← hT, ← Z.2.2.2.1]; exact X.heapSize) (zPic_size P hB S)
  have hmn := zss_mono hN
  have hmn2 := zss_mono hN2
  obtain ⟨z1, z2, z3, z4, z5, z6, z7⟩ := id Z
  refine zW_call (rest := rest) (N2 := N2) (Q2 := Q2) (av := (As.map (zv k)).toArray) C P S L Z hN hN2 F ?_ kk T hT X
  refine va_runS (bytes := M2.2.2.1) (maxL := M2.2.2.2.1) (ret := M2.2.2.2.2.1) (n := n) (As := As.map (zv k)) (nL := M.2.2.2.1) ⟨C.1, C.2.1, C.2.2.2.1, C.2.2.2.2.1, C.2.2.2.2.2.1⟩ (zMet (vs := As) l k hM hvs hN (Nat.le_trans hN2 z3) body)
    ⟨callB_of n C.2.2.2.2.2.1 (zws_good hM) rfl rfl rfl (C.2.2.2.2.2.1 _ hM.2.2.2.1) (C.2.2.2.2.2.1 _ hl.1) hM.2.2.2.2 ⟨Nat.le_trans hR.1 C.2.2.2.2.2.2.2.2.1, Nat.le_trans hR.2 C.2.2.2.2.2.2.2.2.2.1⟩, C.2.2.2.2.2.1 _ hl.2⟩
    ⟨zPc_blind, fun U hU hW => ⟨rfl, zSt_move C.2.2.2.2.2.2.2.2.2.2 hW (by rw [hU]; exact S), by rw [hU]; exact P, by rw [hU]; exact hsz⟩⟩
    rfl (by rw [List.length_map]; exact hn) L.1 ?_ (lv_room (by rw [zcat]; exact hrest)) hd ⟨by omega, by omega⟩
  show st.map (zv k) = _
  rw [hst, List.map_append, List.map_reverse]
theorem zG_callsN {host : String} (hd : decode M.2.2.1 pc = .ok (.invokestatic x, 3)) (hM : zOk M2 n) (hl : Cond.methodLinkNest (zON M.1) x M2.2.1 host ∈ zNs ∧ Cond.static M2.2.1 ∈ zTbl) (hR : zRo1 M M2)
    (hst : st = As.reverse ++ rest) (hn : As.length = n) (hrest : (rest.map fun v => v.category).sum ≤ 8) (hvs : (lg_sl As).length ≤ M2.2.2.2.1) (hN : h.2.1 ≤ N2) (hN2 : N2 ≤ N)
    (body : zG M2 N2 Q2 0 (lv_args 0 As) [] h) (kk : ∀ (r : Option Value) (h' : zHp), Q2 r h' → h'.2.1 = N2 → zG M N Q (pc + 3) lv (r.toList ++ rest) h') : zG M N Q pc lv st h := by
  intro k p l e R s m args below meth c0 H ls locs cells slots Qf C P S L Z F T hT X
  have hB := Z.1
  have hsz : H.size = k.1.1 + h.2.1 := Nat.le_antisymm (by rw [← hT, ← Z.2.2.2.1]; exact X.heapSize) (zPic_size P hB S)
  have hmn := zss_mono hN
  have hmn2 := zss_mono hN2
  obtain ⟨z1, z2, z3, z4, z5, z6, z7⟩ := id Z
  refine zW_call (rest := rest) (N2 := N2) (Q2 := Q2) (av := (As.map (zv k)).toArray) C P S L Z hN hN2 F ?_ kk T hT X
  refine va_runSN (host := host) (bytes := M2.2.2.1) (maxL := M2.2.2.2.1) (ret := M2.2.2.2.2.1) (n := n) (As := As.map (zv k)) (nL := M.2.2.2.1) ⟨C.1, C.2.1, C.2.2.2.1, C.2.2.2.2.1, C.2.2.2.2.2.1⟩ (zMet (vs := As) l k hM hvs hN (Nat.le_trans hN2 z3) body)
    ⟨va_cnB n C.2.2.2.2.2.1 (zws_good hM) rfl rfl rfl (C.2.2.2.2.2.2.2.2.2.2.2.2.2.2.2.2.2.1 _ hl.1) (C.2.2.2.2.2.1 _ hM.2.2.2.1) hM.2.2.2.2 ⟨Nat.le_trans hR.1 C.2.2.2.2.2.2.2.2.1, Nat.le_trans hR.2 C.2.2.2.2.2.2.2.2.2.1⟩, C.2.2.2.2.2.1 _ hl.2, trivial⟩
    ⟨zPc_blind, fun U hU hW => ⟨rfl, zSt_move C.2.2.2.2.2.2.2.2.2.2 hW (by rw [hU]; exact S), by rw [hU]; exact P, by rw [hU]; exact hsz⟩⟩
    rfl (by rw [List.length_map]; exact hn) L.1 ?_ (lv_room (by rw [zcat]; exact hrest)) hd ⟨by omega, by omega⟩
  show st.map (zv k) = _
  rw [hst, List.map_append, List.map_reverse]
end
end
section
/-! tools: weaker ends, names, System.arraycopy, loops -/
section
variable {M M2 : zMT} {N : Nat} {Q Q' : Option Value → zHp → Prop} {pc : Nat} {lv : zLv} {st : List Value} {h : zHp}
theorem zG_mono (hq : ∀ r h', Q r h' → Q' r h') (g : zG M N Q pc lv st h) : zG M N Q' pc lv st h := by
  intro k p l e R s m args below meth c H ls locs cells slots Qf C P S L Z F
  exact g k p l e R s m args below meth c H ls locs cells slots Qf C P S L Z (fun pc' ls' H' locs' cells' slots' r h' hQ => F pc' ls' H' locs' cells' slots' r h' (hq r h' hQ))
/-- the numbers, everything being made -/
abbrev zN (sg : zSig) : zHp := (sg, 411, fun _ _ => true)
theorem zG_nm {sg : zSig} (kk : ∀ sg', sg' = sg → zG M N Q pc lv st (zN sg')) : zG M N Q pc lv st (zN sg) := kk sg rfl
/-- what arraycopy makes -/
def zcp (sg : zSig) (a b : Nat) (sp dp n : Int32) : zSig := fun c => if c = b then (fun j => if dp ≤ j ∧ j < dp + n then sg a (sp + (j - dp)) else sg b j) else sg c
def zCp (h : zHp) (a b : Nat) (sp dp n : Int32) : Prop := a < h.2.1 ∧ b < h.2.1 ∧ (zSh a).1 = 1 ∧ (zSh a).2.1 = 0 ∧ (zSh b).1 = 1 ∧ (zSh b).2.1 = 0 ∧ 0 ≤ sp ∧ 0 ≤ dp ∧ 0 ≤ n ∧ n ≤ nI (zSh a).2.2 ∧ n ≤ nI (zSh b).2.2 ∧ sp ≤ nI (zSh a).2.2 - n ∧ dp ≤ nI (zSh b).2.2 - n
theorem znn {x : Int32} (h : 0 ≤ x) : ∃ j : Nat, j < 2 ^ 31 ∧ x = nI j := nI_of (fun q => by
  rw [Int32.lt_iff_toInt_lt] at q; rw [Int32.le_iff_toInt_le] at h; omega)
theorem zs_acopy {x a b : Nat} {sp dp n : Int32} (hd : decode M.2.2.1 pc = .ok (.invokestatic x, 3)) (hl : Cond.methodLink (zON M.1) x arraycopyName ∈ zTbl ∧ Cond.native arraycopyName ∈ zTbl ∧ Cond.static arraycopyName ∈ zTbl ∧ Cond.initialized "java/lang/System" ∈ zTbl) (hR : 1 ≤ M.2.2.2.2.2.1 ∧ 26 ≤ M.2.2.2.2.2.2) (hrest : (st.map fun v => v.category).sum ≤ 8)
    (hc : zCp h a b sp dp n) (kk : zG M N Q (pc + 3) lv st (zcp h.1 a b sp dp n, h.2)) : zG M N Q pc lv (.int n :: .int dp :: .ref b :: .int sp :: .ref a :: st) h := by
  intro k p l e R s m args below meth c H ls locs cells slots Qf C P S L Z F
  obtain ⟨ha, hb, s1, s2, s3, s4, h1, h2, h3, h4, h5, h6, h7⟩ := hc
  have sa : zSh a = (1, 0, (zSh a).2.2) := by rw [← s1, ← s2]
  have sb : zSh b = (1, 0, (zSh b).2.2) := by rw [← s3, ← s4]
  have na := (zSh_small a).1
  have nb := (zSh_small b).1
  have ea := zad_lt (k := k) (a := a) (zlt ha P.2.1)
  have eb := zad_lt (k := k) (a := b) (zlt hb P.2.1)
  generalize hA : (zSh a).2.2 = A at *
  generalize hBn : (zSh b).2.2 = B at *
  obtain ⟨sp', hs', rfl⟩ := znn h1
  obtain ⟨dp', hd', rfl⟩ := znn h2
  obtain ⟨n', hn', rfl⟩ := znn h3
  have h4' : n' ≤ A := (nI_leI hn' (by omega)).mp h4
  have h5' : n' ≤ B := (nI_leI hn' (by omega)).mp h5
  rw [pk_sub h4'] at h6
  rw [pk_sub h5'] at h7
  have h6' : sp' ≤ A - n' := (nI_leI hs' (by omega)).mp h6
  have h7' : dp' ≤ B - n' := (nI_leI hd' (by omega)).mp h7
  have cs : (nI sp').toNatClampNeg = sp' := nI_clamp hs'
  have cd : (nI dp').toNatClampNeg = dp' := nI_clamp hd'
  have cn : (nI n').toNatClampNeg = n' := nI_clamp hn'
  show W p l e R s m args below meth c H locs cells slots Qf (F0 m pc ls (.int (nI n') :: .int (nI dp') :: .ref (zad k b) :: .int (nI sp') :: .ref (zad k a) :: st.map (zv k)))
  rw [ea, eb]
  refine va_copyi (D := k.2.1) (c0 := k.2.2.1 0) (c1 := k.2.2.1 0) (ty := .int) C.1 C.2.1 (C.2.2.2.1.trans L.1.symm) C.2.2.2.2.1 (C.2.2.2.2.2.1 _ hl.1) (C.2.2.2.2.2.1 _ hl.2.1) (C.2.2.2.2.2.1 _ hl.2.2.1) (C.2.2.2.2.2.1 _ hl.2.2.2) C.2.2.2.2.2.2.2.2.2.2.1 P.1 zWs_D S a b 0 0 (by rw [zWs_get ha, zE_1 sa]) (by rw [zWs_get hb, zE_1 sb]) rfl rfl rfl (nI_pos hs') (nI_pos hd') (nI_pos hn') (by rw [cs, cn]; omega) (by rw [cd, cn]; omega) (fun _ _ => rfl) (Nat.le_trans hR.1 C.2.2.2.2.2.2.2.2.1) ?_ hd (fun H1 locs1 hP1 _ hS1 => ?_)
  · rw [zcat]
    have := Nat.le_trans hR.2 C.2.2.2.2.2.2.2.2.2.1
    have e5 : nativeFrameWords "java/lang/System" "arraycopy" 5 = 7 := by decide
    rw [e5]; omega
  · refine kk k p l e R s m args below meth c H1 ls locs1 cells slots Qf C ?_ hS1 L Z F
    rw [cs, cd, cn] at hP1
    refine ⟨?_, P.2.1, ?_, ?_⟩
    · rw [zWs_set (h' := (zcp h.1 a b (nI sp') (nI dp') (nI n'), h.2)) hb rfl ?_ (fun q hq => zE_ne (by simp [zcp, hq]) rfl)] at hP1
      · exact hP1
      · rw [zE_1 sb]
        congr 4
        funext j
        simp only [va_cpy, zAi, zcp, if_pos]
        by_cases hj : j < B
        · rw [if_pos hj, if_pos hj]
          by_cases hjd : dp' ≤ j ∧ j < dp' + n'
          · rw [if_pos hjd, if_pos (by omega : sp' + (j - dp') < A), if_pos ⟨nI_le hjd.1 (by omega), by rw [nI_add]; exact nI_lt hjd.2 (by omega)⟩, pk_sub hjd.1, nI_add]
          · rw [if_neg hjd, if_neg]
            intro q
            apply hjd
            rw [nI_add] at q
            exact ⟨(nI_leI (by omega) (by omega)).mp q.1, (nI_ltI (by omega) (by omega)).mp q.2⟩
        · rw [if_neg hj, if_neg hj, if_neg (by omega)]
    · have : (100000 : Nat) ≠ b := by have := zlt hb P.2.1; omega
      show zcp h.1 a b _ _ _ 100000 = _
      simp only [zcp, if_neg this]; exact P.2.2.1
    · have : (100001 : Nat) ≠ b := by have := zlt hb P.2.1; omega
      show zcp h.1 a b _ _ _ 100001 = _
      simp only [zcp, if_neg this]; exact P.2.2.2
end
/-! loops: by a measure -/
theorem zlp1 {A : Type} (G I : A → Prop) (mu : A → Nat) (hs : ∀ a, I a → (∀ a', I a' → mu a' < mu a → G a') → G a) : ∀ a, I a → G a := by
  have key : ∀ n a, mu a < n → I a → G a := by
    intro n
    induction n with
    | zero => intro a h; omega
    | succ n ih => intro a h hi; exact hs a hi (fun a' hi' hm => ih a' (by omega) hi')
  exact fun a hi => key (mu a + 1) a (Nat.lt_succ_self _) hi
theorem zlp2 {A B : Type} (G I : A → B → Prop) (mu : A → B → Nat) (hs : ∀ a b, I a b → (∀ a' b', I a' b' → mu a' b' < mu a b → G a' b') → G a b) : ∀ a b, I a b → G a b :=
  fun a b h => zlp1 (fun q : A × B => G q.1 q.2) (fun q => I q.1 q.2) (fun q => mu q.1 q.2) (fun q hi k => hs q.1 q.2 hi (fun a' b' h1 h2 => k (a', b') h1 h2)) (a, b) h
theorem zlp3 {A B C : Type} (G I : A → B → C → Prop) (mu : A → B → C → Nat) (hs : ∀ a b c, I a b c → (∀ a' b' c', I a' b' c' → mu a' b' c' < mu a b c → G a' b' c') → G a b c) : ∀ a b c, I a b c → G a b c :=
  fun a b c h => zlp1 (fun q : A × B × C => G q.1 q.2.1 q.2.2) (fun q => I q.1 q.2.1 q.2.2) (fun q => mu q.1 q.2.1 q.2.2) (fun q hi k => hs q.1 q.2.1 q.2.2 hi (fun a' b' c' h1 h2 => k (a', b', c') h1 h2)) (a, b, c) h
theorem zlp4 {A B C D : Type} (G I : A → B → C → D → Prop) (mu : A → B → C → D → Nat) (hs : ∀ a b c d, I a b c d → (∀ a' b' c' d', I a' b' c' d' → mu a' b' c' d' < mu a b c d → G a' b' c' d') → G a b c d) : ∀ a b c d, I a b c d → G a b c d :=
  fun a b c d h => zlp1 (fun q : A × B × C × D => G q.1 q.2.1 q.2.2.1 q.2.2.2) (fun q => I q.1 q.2.1 q.2.2.1 q.2.2.2) (fun q => mu q.1 q.2.1 q.2.2.1 q.2.2.2) (fun q hi k => hs q.1 q.2.1 q.2.2.1 q.2.2.2 hi (fun a' b' c' d' h1 h2 => k (a', b', c', d') h1 h2)) (a, b, c, d) h
theorem zlp5 {A B C D E : Type} (G I : A → B → C → D → E → Prop) (mu : A → B → C → D → E → Nat) (hs : ∀ a b c d e, I a b c d e → (∀ a' b' c' d' e', I a' b' c' d' e' → mu a' b' c' d' e' < mu a b c d e → G a' b' c' d' e') → G a b c d e) : ∀ a b c d e, I a b c d e → G a b c d e :=
  fun a b c d e h => zlp1 (fun q : A × B × C × D × E => G q.1 q.2.1 q.2.2.1 q.2.2.2.1 q.2.2.2.2) (fun q => I q.1 q.2.1 q.2.2.1 q.2.2.2.1 q.2.2.2.2) (fun q => mu q.1 q.2.1 q.2.2.1 q.2.2.2.1 q.2.2.2.2) (fun q hi k => hs q.1 q.2.1 q.2.2.1 q.2.2.2.1 q.2.2.2.2 hi (fun a' b' c' d' e' h1 h2 => k (a', b', c', d', e') h1 h2)) (a, b, c, d, e) h
/-- how far up to e -/
def zmu (e i : Int32) : Nat := (e.toInt - i.toInt).toNat
theorem zi1 {i e : Int32} (h : i < e) : (i + 1).toInt = i.toInt + 1 := by
  rw [Int32.lt_iff_toInt_lt] at h
  have h1 := Int32.toInt_lt e
  have h2 := Int32.le_toInt i
  rw [Int32.toInt_add]
  have : (1 : Int32).toInt = 1 := by decide
  rw [this]
  rw [Int.bmod_eq_of_le] <;> omega
theorem zmu_up {i e : Int32} (h : i < e) : zmu e (i + 1) < zmu e i := by
  have h1 := zi1 h
  rw [Int32.lt_iff_toInt_lt] at h
  unfold zmu
  omega
theorem zi1m {i e : Int32} (h : e < i) : (i - 1).toInt = i.toInt - 1 := by
  rw [Int32.lt_iff_toInt_lt] at h
  have h1 := Int32.toInt_lt i
  have h2 := Int32.le_toInt e
  rw [Int32.toInt_sub]
  have : (1 : Int32).toInt = 1 := by decide
  rw [this]
  rw [Int.bmod_eq_of_le] <;> omega
theorem zmu_down {i e : Int32} (h : e < i) : zmu (i - 1) e < zmu i e := by
  have h1 := zi1m h
  rw [Int32.lt_iff_toInt_lt] at h
  unfold zmu
  omega
/-- iteration: a0, then f 0, f 1 .. f (n - 1) -/
def zitN {A : Type} (f : Int32 → A → A) (a : A) : Nat → A
  | 0 => a
  | n + 1 => f (nI n) (zitN f a n)
def zit {A : Type} (f : Int32 → A → A) (a : A) (n : Int32) : A := zitN f a n.toNatClampNeg
theorem zit_0 {A : Type} (f : Int32 → A → A) (a : A) : zit f a 0 = a := rfl
theorem zit_s {A : Type} (f : Int32 → A → A) (a : A) {i e : Int32} (h0 : 0 ≤ i) (h1 : i < e) : zit f a (i + 1) = f i (zit f a i) := by
  obtain ⟨j, hj, rfl⟩ := znn h0
  have h2 : j + 1 < 2 ^ 31 := by
    rw [Int32.lt_iff_toInt_lt, nI_toInt hj] at h1
    have := Int32.toInt_lt e
    omega
  unfold zit
  rw [nI_1, nI_clamp h2, nI_clamp hj]
  rfl
end
section
/-! the methods of the tables: printed by wip/whole/gen_methods.py -/
theorem zi_code {y : MethodName} {b : ByteArray} {n : Nat} {r : Option FieldType} (i : Nat) (h : tables_1[i]? = some (Cond.code y b n r)) : Cond.code y b n r ∈ zTbl := zTbl_of (List.mem_append_right _ (List.mem_of_getElem? h)) rfl
theorem zi_init {c : String} (i : Nat) (h : tables_1[i]? = some (Cond.initialized c)) : Cond.initialized c ∈ zTbl := zTbl_of (List.mem_append_right _ (List.mem_of_getElem? h)) rfl
theorem zi_ml {o : String} {x : Nat} {y : MethodName} (i : Nat) (h : tables_1[i]? = some (Cond.methodLink o x y)) : Cond.methodLink o x y ∈ zTbl := zTbl_of (List.mem_append_right _ (List.mem_of_getElem? h)) rfl
theorem zi_im {y : MethodName} (i : Nat) (h : tables_1[i]? = some (Cond.instanceMethod y)) : Cond.instanceMethod y ∈ zTbl := zTbl_of (List.mem_append_right _ (List.mem_of_getElem? h)) rfl
theorem zi_st {y : MethodName} (i : Nat) (h : tables_1[i]? = some (Cond.static y)) : Cond.static y ∈ zTbl := zTbl_of (List.mem_append_right _ (List.mem_of_getElem? h)) rfl
theorem zi_na {y : MethodName} (i : Nat) (h : tables_1[i]? = some (Cond.native y)) : Cond.native y ∈ zTbl := zTbl_of (List.mem_append_right _ (List.mem_of_getElem? h)) rfl
theorem zi_se {c : String} {x y : MethodName} (i : Nat) (h : tables_1[i]? = some (Cond.selects c x y)) : Cond.selects c x y ∈ zTbl := zTbl_of (List.mem_append_right _ (List.mem_of_getElem? h)) rfl
theorem zi_sp {c : String} {x y : MethodName} (i : Nat) (h : lw_tbl[i]? = some (Cond.selects c x y)) : Cond.selects c x y ∈ zTbl := zTbl_of (List.mem_of_getElem? h) rfl
def mAct_init : zMT := (0, ⟨"StyledRuns$Act", "<init>", "()V"⟩, prog_2_method_1_code, 1, none, 1, 20)
set_option maxRecDepth 100000 in
theorem okAct_init : zOk mAct_init 0 := ⟨plainFor_of_name (by decide +kernel), rfl, zi_code 179 rfl, zi_init 7 (by decide +kernel), by decide +kernel⟩
def mAct_become : zMT := (0, ⟨"StyledRuns$Act", "become", "(IIII)V"⟩, prog_2_method_2_code, 5, none, 0, 0)
set_option maxRecDepth 100000 in
theorem okAct_become : zOk mAct_become 4 := ⟨plainFor_of_name (by decide +kernel), rfl, zi_code 388 rfl, zi_init 7 (by decide +kernel), by decide +kernel⟩
def mAct_follows : zMT := (0, ⟨"StyledRuns$Act", "follows", "(II)I"⟩, prog_2_method_3_code, 3, (some .int), 4, 91)
set_option maxRecDepth 100000 in
theorem okAct_follows : zOk mAct_follows 2 := ⟨plainFor_of_name (by decide +kernel), rfl, zi_code 774 rfl, zi_init 7 (by decide +kernel), by decide +kernel⟩
def mAnc_init : zMT := (1, ⟨"StyledRuns$Anchor", "<init>", "()V"⟩, prog_3_method_1_code, 1, none, 1, 20)
set_option maxRecDepth 100000 in
theorem okAnc_init : zOk mAnc_init 0 := ⟨plainFor_of_name (by decide +kernel), rfl, zi_code 89 rfl, zi_init 4 (by decide +kernel), by decide +kernel⟩
def mAnc_become : zMT := (1, ⟨"StyledRuns$Anchor", "become", "(LStyledRuns$Anchor;)V"⟩, prog_3_method_2_code, 2, none, 0, 0)
set_option maxRecDepth 100000 in
theorem okAnc_become : zOk mAnc_become 1 := ⟨plainFor_of_name (by decide +kernel), rfl, zi_code 384 rfl, zi_init 4 (by decide +kernel), by decide +kernel⟩
def mAnc_lettersGo : zMT := (1, ⟨"StyledRuns$Anchor", "lettersGo", "(II)V"⟩, prog_3_method_3_code, 3, none, 2, 43)
set_option maxRecDepth 100000 in
theorem okAnc_lettersGo : zOk mAnc_lettersGo 2 := ⟨plainFor_of_name (by decide +kernel), rfl, zi_code 433 rfl, zi_init 4 (by decide +kernel), by decide +kernel⟩
def mHis_init : zMT := (2, ⟨"StyledRuns$History", "<init>", "()V"⟩, prog_4_method_1_code, 2, none, 3, 61)
set_option maxRecDepth 100000 in
theorem okHis_init : zOk mHis_init 0 := ⟨plainFor_of_name (by decide +kernel), rfl, zi_code 169 rfl, zi_init 6 (by decide +kernel), by decide +kernel⟩
def mHis_keep : zMT := (2, ⟨"StyledRuns$History", "keep", "(LStyledRuns$Sheet;IIII)V"⟩, prog_4_method_2_code, 6, none, 2, 48)
set_option maxRecDepth 100000 in
theorem okHis_keep : zOk mHis_keep 5 := ⟨plainFor_of_name (by decide +kernel), rfl, zi_code 369 rfl, zi_init 6 (by decide +kernel), by decide +kernel⟩
def mHis_latest : zMT := (2, ⟨"StyledRuns$History", "latest", "(I)I"⟩, prog_4_method_4_code, 2, (some .int), 1, 22)
set_option maxRecDepth 100000 in
theorem okHis_latest : zOk mHis_latest 1 := ⟨plainFor_of_name (by decide +kernel), rfl, zi_code 652 rfl, zi_init 6 (by decide +kernel), by decide +kernel⟩
def mHis_placeThrough : zMT := (2, ⟨"StyledRuns$History", "placeThrough", "(III)I"⟩, prog_4_method_5_code, 7, (some .int), 5, 113)
set_option maxRecDepth 100000 in
theorem okHis_placeThrough : zOk mHis_placeThrough 3 := ⟨plainFor_of_name (by decide +kernel), rfl, zi_code 769 rfl, zi_init 6 (by decide +kernel), by decide +kernel⟩
def mHis_takeBack : zMT := (2, ⟨"StyledRuns$History", "takeBack", "(LStyledRuns$Sheet;)I"⟩, prog_4_method_3_code, 2, (some .int), 2, 48)
set_option maxRecDepth 100000 in
theorem okHis_takeBack : zOk mHis_takeBack 1 := ⟨plainFor_of_name (by decide +kernel), rfl, zi_code 648 rfl, zi_init 6 (by decide +kernel), by decide +kernel⟩
def mLoo_init : zMT := (3, ⟨"StyledRuns$Looks", "<init>", "()V"⟩, prog_5_method_1_code, 1, none, 1, 20)
set_option maxRecDepth 100000 in
theorem okLoo_init : zOk mLoo_init 0 := ⟨plainFor_of_name (by decide +kernel), rfl, zi_code 213 rfl, zi_init 8 (by decide +kernel), by decide +kernel⟩
def mLoo_beginsRun : zMT := (3, ⟨"StyledRuns$Looks", "beginsRun", "(I)Z"⟩, prog_5_method_5_code, 2, (some .boolean), 0, 0)
set_option maxRecDepth 100000 in
theorem okLoo_beginsRun : zOk mLoo_beginsRun 1 := ⟨plainFor_of_name (by decide +kernel), rfl, zi_code 611 rfl, zi_init 8 (by decide +kernel), by decide +kernel⟩
def mLoo_brush : zMT := (3, ⟨"StyledRuns$Looks", "brush", "(LStyledRuns$Span;)V"⟩, prog_5_method_3_code, 4, none, 2, 49)
set_option maxRecDepth 100000 in
theorem okLoo_brush : zOk mLoo_brush 1 := ⟨plainFor_of_name (by decide +kernel), rfl, zi_code 542 rfl, zi_init 8 (by decide +kernel), by decide +kernel⟩
def mLoo_endOfRun : zMT := (3, ⟨"StyledRuns$Looks", "endOfRun", "(I)I"⟩, prog_5_method_8_code, 3, (some .int), 1, 21)
set_option maxRecDepth 100000 in
theorem okLoo_endOfRun : zOk mLoo_endOfRun 1 := ⟨plainFor_of_name (by decide +kernel), rfl, zi_code 692 rfl, zi_init 8 (by decide +kernel), by decide +kernel⟩
def mLoo_firstOfRun : zMT := (3, ⟨"StyledRuns$Looks", "firstOfRun", "(I)I"⟩, prog_5_method_7_code, 4, (some .int), 1, 21)
set_option maxRecDepth 100000 in
theorem okLoo_firstOfRun : zOk mLoo_firstOfRun 1 := ⟨plainFor_of_name (by decide +kernel), rfl, zi_code 687 rfl, zi_init 8 (by decide +kernel), by decide +kernel⟩
def mLoo_howManyRuns : zMT := (3, ⟨"StyledRuns$Looks", "howManyRuns", "()I"⟩, prog_5_method_6_code, 3, (some .int), 1, 21)
set_option maxRecDepth 100000 in
theorem okLoo_howManyRuns : zOk mLoo_howManyRuns 0 := ⟨plainFor_of_name (by decide +kernel), rfl, zi_code 729 rfl, zi_init 8 (by decide +kernel), by decide +kernel⟩
def mLoo_isLike : zMT := (3, ⟨"StyledRuns$Looks", "isLike", "(LStyledRuns$Looks;)Z"⟩, prog_5_method_4_code, 3, (some .boolean), 0, 0)
set_option maxRecDepth 100000 in
theorem okLoo_isLike : zOk mLoo_isLike 1 := ⟨plainFor_of_name (by decide +kernel), rfl, zi_code 721 rfl, zi_init 8 (by decide +kernel), by decide +kernel⟩
def mLoo_longestLength : zMT := (3, ⟨"StyledRuns$Looks", "longestLength", "()I"⟩, prog_5_method_9_code, 4, (some .int), 1, 21)
set_option maxRecDepth 100000 in
theorem okLoo_longestLength : zOk mLoo_longestLength 0 := ⟨plainFor_of_name (by decide +kernel), rfl, zi_code 820 rfl, zi_init 8 (by decide +kernel), by decide +kernel⟩
def mLoo_longestRun : zMT := (3, ⟨"StyledRuns$Looks", "longestRun", "()I"⟩, prog_5_method_10_code, 6, (some .int), 2, 44)
set_option maxRecDepth 100000 in
theorem okLoo_longestRun : zOk mLoo_longestRun 0 := ⟨plainFor_of_name (by decide +kernel), rfl, zi_code 824 rfl, zi_init 8 (by decide +kernel), by decide +kernel⟩
def mLoo_see : zMT := (3, ⟨"StyledRuns$Looks", "see", "(LStyledRuns$Sheet;III)V"⟩, prog_5_method_2_code, 9, none, 3, 72)
set_option maxRecDepth 100000 in
theorem okLoo_see : zOk mLoo_see 4 := ⟨plainFor_of_name (by decide +kernel), rfl, zi_code 537 rfl, zi_init 8 (by decide +kernel), by decide +kernel⟩
def mLoo_standsAhead : zMT := (3, ⟨"StyledRuns$Looks", "standsAhead", "(II)Z"⟩, prog_5_method_12_code, 4, (some .boolean), 0, 0)
set_option maxRecDepth 100000 in
theorem okLoo_standsAhead : zOk mLoo_standsAhead 2 := ⟨plainFor_of_name (by decide +kernel), rfl, zi_code 833 rfl, zi_init 8 (by decide +kernel), by decide +kernel⟩
def mLoo_unlikeStyles : zMT := (3, ⟨"StyledRuns$Looks", "unlikeStyles", "()I"⟩, prog_5_method_11_code, 3, (some .int), 1, 23)
set_option maxRecDepth 100000 in
theorem okLoo_unlikeStyles : zOk mLoo_unlikeStyles 0 := ⟨plainFor_of_name (by decide +kernel), rfl, zi_code 829 rfl, zi_init 8 (by decide +kernel), by decide +kernel⟩
def mRea_init : zMT := (4, ⟨"StyledRuns$Reader", "<init>", "()V"⟩, prog_7_method_1_code, 1, none, 1, 20)
set_option maxRecDepth 100000 in
theorem okRea_init : zOk mRea_init 0 := ⟨plainFor_of_name (by decide +kernel), rfl, zi_code 229 rfl, zi_init 9 (by decide +kernel), by decide +kernel⟩
def mRea_afterLetter : zMT := (4, ⟨"StyledRuns$Reader", "afterLetter", "(LStyledRuns$Tape;I)I"⟩, prog_7_method_3_code, 3, (some .int), 1, 21)
set_option maxRecDepth 100000 in
theorem okRea_afterLetter : zOk mRea_afterLetter 2 := ⟨plainFor_of_name (by decide +kernel), rfl, zi_code 590 rfl, zi_init 9 (by decide +kernel), by decide +kernel⟩
def mRea_afterMark : zMT := (4, ⟨"StyledRuns$Reader", "afterMark", "(LStyledRuns$Tape;I)I"⟩, prog_7_method_4_code, 7, (some .int), 3, 66)
set_option maxRecDepth 100000 in
theorem okRea_afterMark : zOk mRea_afterMark 2 := ⟨plainFor_of_name (by decide +kernel), rfl, zi_code 570 rfl, zi_init 9 (by decide +kernel), by decide +kernel⟩
def mRea_closeLatest : zMT := (4, ⟨"StyledRuns$Reader", "closeLatest", "(I)Z"⟩, prog_7_method_6_code, 2, (some .boolean), 0, 0)
set_option maxRecDepth 100000 in
theorem okRea_closeLatest : zOk mRea_closeLatest 1 := ⟨plainFor_of_name (by decide +kernel), rfl, zi_code 579 rfl, zi_init 9 (by decide +kernel), by decide +kernel⟩
def mRea_kindOf : zMT := (4, ⟨"StyledRuns$Reader", "kindOf", "(I)I"⟩, prog_7_method_7_code, 2, (some .int), 0, 0)
set_option maxRecDepth 100000 in
theorem okRea_kindOf : zOk mRea_kindOf 1 := ⟨plainFor_of_name (by decide +kernel), rfl, zi_code 573 rfl, zi_init 9 (by decide +kernel), by decide +kernel⟩
def mRea_openMark : zMT := (4, ⟨"StyledRuns$Reader", "openMark", "(II)Z"⟩, prog_7_method_5_code, 3, (some .boolean), 2, 44)
set_option maxRecDepth 100000 in
theorem okRea_openMark : zOk mRea_openMark 2 := ⟨plainFor_of_name (by decide +kernel), rfl, zi_code 583 rfl, zi_init 9 (by decide +kernel), by decide +kernel⟩
def mRea_parse : zMT := (4, ⟨"StyledRuns$Reader", "parse", "(LStyledRuns$Tape;)V"⟩, prog_7_method_2_code, 4, none, 4, 92)
set_option maxRecDepth 100000 in
theorem okRea_parse : zOk mRea_parse 1 := ⟨plainFor_of_name (by decide +kernel), rfl, zi_code 565 rfl, zi_init 9 (by decide +kernel), by decide +kernel⟩
def mShe_init : zMT := (5, ⟨"StyledRuns$Sheet", "<init>", "()V"⟩, prog_8_method_1_code, 2, none, 2, 40)
set_option maxRecDepth 100000 in
theorem okShe_init : zOk mShe_init 0 := ⟨plainFor_of_name (by decide +kernel), rfl, zi_code 28 rfl, zi_init 2 (by decide +kernel), by decide +kernel⟩
def mShe_become : zMT := (5, ⟨"StyledRuns$Sheet", "become", "(LStyledRuns$Sheet;)V"⟩, prog_8_method_2_code, 3, none, 1, 26)
set_option maxRecDepth 100000 in
theorem okShe_become : zOk mShe_become 1 := ⟨plainFor_of_name (by decide +kernel), rfl, zi_code 373 rfl, zi_init 2 (by decide +kernel), by decide +kernel⟩
def mShe_changeSides : zMT := (5, ⟨"StyledRuns$Sheet", "changeSides", "([IIII)V"⟩, prog_8_method_16_code, 4, none, 1, 25)
set_option maxRecDepth 100000 in
theorem okShe_changeSides : zOk mShe_changeSides 4 := ⟨plainFor_of_name (by decide +kernel), rfl, zi_code 449 rfl, zi_init 2 (by decide +kernel), by decide +kernel⟩
def mShe_hasAnchor : zMT := (5, ⟨"StyledRuns$Sheet", "hasAnchor", "(I)Z"⟩, prog_8_method_8_code, 2, (some .boolean), 0, 0)
set_option maxRecDepth 100000 in
theorem okShe_hasAnchor : zOk mShe_hasAnchor 1 := ⟨plainFor_of_name (by decide +kernel), rfl, zi_code 557 rfl, zi_init 2 (by decide +kernel), by decide +kernel⟩
def mShe_hasLetter : zMT := (5, ⟨"StyledRuns$Sheet", "hasLetter", "(I)Z"⟩, prog_8_method_4_code, 2, (some .boolean), 0, 0)
set_option maxRecDepth 100000 in
theorem okShe_hasLetter : zOk mShe_hasLetter 1 := ⟨plainFor_of_name (by decide +kernel), rfl, zi_code 672 rfl, zi_init 2 (by decide +kernel), by decide +kernel⟩
def mShe_hasPlace : zMT := (5, ⟨"StyledRuns$Sheet", "hasPlace", "(I)Z"⟩, prog_8_method_5_code, 2, (some .boolean), 0, 0)
set_option maxRecDepth 100000 in
theorem okShe_hasPlace : zOk mShe_hasPlace 1 := ⟨plainFor_of_name (by decide +kernel), rfl, zi_code 346 rfl, zi_init 2 (by decide +kernel), by decide +kernel⟩
def mShe_hasSpan : zMT := (5, ⟨"StyledRuns$Sheet", "hasSpan", "(I)Z"⟩, prog_8_method_7_code, 2, (some .boolean), 0, 0)
set_option maxRecDepth 100000 in
theorem okShe_hasSpan : zOk mShe_hasSpan 1 := ⟨plainFor_of_name (by decide +kernel), rfl, zi_code 490 rfl, zi_init 2 (by decide +kernel), by decide +kernel⟩
def mShe_isRange : zMT := (5, ⟨"StyledRuns$Sheet", "isRange", "(II)Z"⟩, prog_8_method_6_code, 3, (some .boolean), 0, 0)
set_option maxRecDepth 100000 in
theorem okShe_isRange : zOk mShe_isRange 2 := ⟨plainFor_of_name (by decide +kernel), rfl, zi_code 416 rfl, zi_init 2 (by decide +kernel), by decide +kernel⟩
def mShe_lettersGo : zMT := (5, ⟨"StyledRuns$Sheet", "lettersGo", "(II)V"⟩, prog_8_method_14_code, 4, none, 3, 65)
set_option maxRecDepth 100000 in
theorem okShe_lettersGo : zOk mShe_lettersGo 2 := ⟨plainFor_of_name (by decide +kernel), rfl, zi_code 420 rfl, zi_init 2 (by decide +kernel), by decide +kernel⟩
def mShe_lettersMove : zMT := (5, ⟨"StyledRuns$Sheet", "lettersMove", "(III)I"⟩, prog_8_method_15_code, 6, (some .int), 4, 91)
set_option maxRecDepth 100000 in
theorem okShe_lettersMove : zOk mShe_lettersMove 3 := ⟨plainFor_of_name (by decide +kernel), rfl, zi_code 446 rfl, zi_init 2 (by decide +kernel), by decide +kernel⟩
def mShe_lostOfAll : zMT := (5, ⟨"StyledRuns$Sheet", "lostOfAll", "()I"⟩, prog_8_method_11_code, 3, (some .int), 0, 0)
set_option maxRecDepth 100000 in
theorem okShe_lostOfAll : zOk mShe_lostOfAll 0 := ⟨plainFor_of_name (by decide +kernel), rfl, zi_code 843 rfl, zi_init 2 (by decide +kernel), by decide +kernel⟩
def mShe_mostSpansOverLetter : zMT := (5, ⟨"StyledRuns$Sheet", "mostSpansOverLetter", "()I"⟩, prog_8_method_12_code, 5, (some .int), 1, 21)
set_option maxRecDepth 100000 in
theorem okShe_mostSpansOverLetter : zOk mShe_mostSpansOverLetter 0 := ⟨plainFor_of_name (by decide +kernel), rfl, zi_code 837 rfl, zi_init 2 (by decide +kernel), by decide +kernel⟩
def mShe_put : zMT := (5, ⟨"StyledRuns$Sheet", "put", "(ILStyledRuns$Tape;)V"⟩, prog_8_method_13_code, 6, none, 2, 45)
set_option maxRecDepth 100000 in
theorem okShe_put : zOk mShe_put 2 := ⟨plainFor_of_name (by decide +kernel), rfl, zi_code 395 rfl, zi_init 2 (by decide +kernel), by decide +kernel⟩
def mShe_standingAnchors : zMT := (5, ⟨"StyledRuns$Sheet", "standingAnchors", "()I"⟩, prog_8_method_10_code, 3, (some .int), 0, 0)
set_option maxRecDepth 100000 in
theorem okShe_standingAnchors : zOk mShe_standingAnchors 0 := ⟨plainFor_of_name (by decide +kernel), rfl, zi_code 816 rfl, zi_init 2 (by decide +kernel), by decide +kernel⟩
def mShe_standingSpans : zMT := (5, ⟨"StyledRuns$Sheet", "standingSpans", "()I"⟩, prog_8_method_9_code, 3, (some .int), 0, 0)
set_option maxRecDepth 100000 in
theorem okShe_standingSpans : zOk mShe_standingSpans 0 := ⟨plainFor_of_name (by decide +kernel), rfl, zi_code 494 rfl, zi_init 2 (by decide +kernel), by decide +kernel⟩
def mShe_startAnew : zMT := (5, ⟨"StyledRuns$Sheet", "startAnew", "(LStyledRuns$Reader;)V"⟩, prog_8_method_3_code, 2, none, 1, 26)
set_option maxRecDepth 100000 in
theorem okShe_startAnew : zOk mShe_startAnew 1 := ⟨plainFor_of_name (by decide +kernel), rfl, zi_code 595 rfl, zi_init 2 (by decide +kernel), by decide +kernel⟩
def mShe_turn : zMT := (5, ⟨"StyledRuns$Sheet", "turn", "([III)V"⟩, prog_8_method_17_code, 6, none, 0, 0)
set_option maxRecDepth 100000 in
theorem okShe_turn : zOk mShe_turn 3 := ⟨plainFor_of_name (by decide +kernel), rfl, zi_code 452 rfl, zi_init 2 (by decide +kernel), by decide +kernel⟩
def mSpa_init : zMT := (6, ⟨"StyledRuns$Span", "<init>", "()V"⟩, prog_9_method_1_code, 1, none, 1, 20)
set_option maxRecDepth 100000 in
theorem okSpa_init : zOk mSpa_init 0 := ⟨plainFor_of_name (by decide +kernel), rfl, zi_code 37 rfl, zi_init 3 (by decide +kernel), by decide +kernel⟩
def mSpa_become : zMT := (6, ⟨"StyledRuns$Span", "become", "(LStyledRuns$Span;)V"⟩, prog_9_method_2_code, 2, none, 0, 0)
set_option maxRecDepth 100000 in
theorem okSpa_become : zOk mSpa_become 1 := ⟨plainFor_of_name (by decide +kernel), rfl, zi_code 380 rfl, zi_init 3 (by decide +kernel), by decide +kernel⟩
def mSpa_covers : zMT := (6, ⟨"StyledRuns$Span", "covers", "(LStyledRuns$Span;)Z"⟩, prog_9_method_5_code, 2, (some .boolean), 0, 0)
set_option maxRecDepth 100000 in
theorem okSpa_covers : zOk mSpa_covers 1 := ⟨plainFor_of_name (by decide +kernel), rfl, zi_code 808 rfl, zi_init 3 (by decide +kernel), by decide +kernel⟩
def mSpa_crosses : zMT := (6, ⟨"StyledRuns$Span", "crosses", "(LStyledRuns$Span;)Z"⟩, prog_9_method_6_code, 3, (some .boolean), 1, 21)
set_option maxRecDepth 100000 in
theorem okSpa_crosses : zOk mSpa_crosses 1 := ⟨plainFor_of_name (by decide +kernel), rfl, zi_code 804 rfl, zi_init 3 (by decide +kernel), by decide +kernel⟩
def mSpa_lettersCome : zMT := (6, ⟨"StyledRuns$Span", "lettersCome", "(II)V"⟩, prog_9_method_7_code, 3, none, 1, 23)
set_option maxRecDepth 100000 in
theorem okSpa_lettersCome : zOk mSpa_lettersCome 2 := ⟨plainFor_of_name (by decide +kernel), rfl, zi_code 400 rfl, zi_init 3 (by decide +kernel), by decide +kernel⟩
def mSpa_lettersGo : zMT := (6, ⟨"StyledRuns$Span", "lettersGo", "(II)V"⟩, prog_9_method_8_code, 3, none, 2, 43)
set_option maxRecDepth 100000 in
theorem okSpa_lettersGo : zOk mSpa_lettersGo 2 := ⟨plainFor_of_name (by decide +kernel), rfl, zi_code 425 rfl, zi_init 3 (by decide +kernel), by decide +kernel⟩
def mSpa_lettersMove : zMT := (6, ⟨"StyledRuns$Span", "lettersMove", "(III)Z"⟩, prog_9_method_9_code, 5, (some .boolean), 3, 67)
set_option maxRecDepth 100000 in
theorem okSpa_lettersMove : zOk mSpa_lettersMove 3 := ⟨plainFor_of_name (by decide +kernel), rfl, zi_code 456 rfl, zi_init 3 (by decide +kernel), by decide +kernel⟩
def mSpa_liesOver : zMT := (6, ⟨"StyledRuns$Span", "liesOver", "(I)Z"⟩, prog_9_method_3_code, 2, (some .boolean), 0, 0)
set_option maxRecDepth 100000 in
theorem okSpa_liesOver : zOk mSpa_liesOver 1 := ⟨plainFor_of_name (by decide +kernel), rfl, zi_code 700 rfl, zi_init 3 (by decide +kernel), by decide +kernel⟩
def mSpa_speaksOf : zMT := (6, ⟨"StyledRuns$Span", "speaksOf", "(I)Z"⟩, prog_9_method_4_code, 2, (some .boolean), 0, 0)
set_option maxRecDepth 100000 in
theorem okSpa_speaksOf : zOk mSpa_speaksOf 1 := ⟨plainFor_of_name (by decide +kernel), rfl, zi_code 708 rfl, zi_init 3 (by decide +kernel), by decide +kernel⟩
def mTap_init : zMT := (7, ⟨"StyledRuns$Tape", "<init>", "()V"⟩, prog_11_method_1_code, 1, none, 1, 20)
set_option maxRecDepth 100000 in
theorem okTap_init : zOk mTap_init 0 := ⟨plainFor_of_name (by decide +kernel), rfl, zi_code 151 rfl, zi_init 5 (by decide +kernel), by decide +kernel⟩
def mTap_addFour : zMT := (7, ⟨"StyledRuns$Tape", "addFour", "(I)V"⟩, prog_11_method_3_code, 2, none, 0, 0)
set_option maxRecDepth 100000 in
theorem okTap_addFour : zOk mTap_addFour 1 := ⟨plainFor_of_name (by decide +kernel), rfl, zi_code 326 rfl, zi_init 5 (by decide +kernel), by decide +kernel⟩
def mTap_areLetters : zMT := (7, ⟨"StyledRuns$Tape", "areLetters", "()Z"⟩, prog_11_method_5_code, 2, (some .boolean), 1, 20)
set_option maxRecDepth 100000 in
theorem okTap_areLetters : zOk mTap_areLetters 0 := ⟨plainFor_of_name (by decide +kernel), rfl, zi_code 350 rfl, zi_init 5 (by decide +kernel), by decide +kernel⟩
def mTap_at : zMT := (7, ⟨"StyledRuns$Tape", "at", "(I)I"⟩, prog_11_method_2_code, 2, (some .int), 0, 0)
set_option maxRecDepth 100000 in
theorem okTap_at : zOk mTap_at 1 := ⟨plainFor_of_name (by decide +kernel), rfl, zi_code 338 rfl, zi_init 5 (by decide +kernel), by decide +kernel⟩
def mTap_become : zMT := (7, ⟨"StyledRuns$Tape", "become", "([II)V"⟩, prog_11_method_4_code, 3, none, 1, 26)
set_option maxRecDepth 100000 in
theorem okTap_become : zOk mTap_become 2 := ⟨plainFor_of_name (by decide +kernel), rfl, zi_code 638 rfl, zi_init 5 (by decide +kernel), by decide +kernel⟩
def mTap_isLetter : zMT := (7, ⟨"StyledRuns$Tape", "isLetter", "(I)Z"⟩, prog_11_method_6_code, 1, (some .boolean), 0, 0)
set_option maxRecDepth 100000 in
theorem okTap_isLetter : zOk mTap_isLetter 1 := ⟨plainFor_of_name (by decide +kernel), rfl, zi_code 353 rfl, zi_init 5 (by decide +kernel), by decide +kernel⟩
def mWri_init : zMT := (8, ⟨"StyledRuns$Writer", "<init>", "()V"⟩, prog_12_method_1_code, 1, none, 1, 20)
set_option maxRecDepth 100000 in
theorem okWri_init : zOk mWri_init 0 := ⟨plainFor_of_name (by decide +kernel), rfl, zi_code 261 rfl, zi_init 10 (by decide +kernel), by decide +kernel⟩
def mWri_add : zMT := (8, ⟨"StyledRuns$Writer", "add", "(I)V"⟩, prog_12_method_3_code, 2, none, 0, 0)
set_option maxRecDepth 100000 in
theorem okWri_add : zOk mWri_add 1 := ⟨plainFor_of_name (by decide +kernel), rfl, zi_code 626 rfl, zi_init 10 (by decide +kernel), by decide +kernel⟩
def mWri_closeDownTo : zMT := (8, ⟨"StyledRuns$Writer", "closeDownTo", "(I)V"⟩, prog_12_method_5_code, 2, none, 1, 21)
set_option maxRecDepth 100000 in
theorem okWri_closeDownTo : zOk mWri_closeDownTo 1 := ⟨plainFor_of_name (by decide +kernel), rfl, zi_code 622 rfl, zi_init 10 (by decide +kernel), by decide +kernel⟩
def mWri_compose : zMT := (8, ⟨"StyledRuns$Writer", "compose", "(LStyledRuns$Sheet;LStyledRuns$Looks;)I"⟩, prog_12_method_2_code, 4, (some .int), 3, 64)
set_option maxRecDepth 100000 in
theorem okWri_compose : zOk mWri_compose 2 := ⟨plainFor_of_name (by decide +kernel), rfl, zi_code 607 rfl, zi_init 10 (by decide +kernel), by decide +kernel⟩
def mWri_firstUnfit : zMT := (8, ⟨"StyledRuns$Writer", "firstUnfit", "(I)I"⟩, prog_12_method_4_code, 3, (some .int), 2, 41)
set_option maxRecDepth 100000 in
theorem okWri_firstUnfit : zOk mWri_firstUnfit 1 := ⟨plainFor_of_name (by decide +kernel), rfl, zi_code 615 rfl, zi_init 10 (by decide +kernel), by decide +kernel⟩
def mWri_isOpen : zMT := (8, ⟨"StyledRuns$Writer", "isOpen", "(I)Z"⟩, prog_12_method_7_code, 3, (some .boolean), 0, 0)
set_option maxRecDepth 100000 in
theorem okWri_isOpen : zOk mWri_isOpen 1 := ⟨plainFor_of_name (by decide +kernel), rfl, zi_code 634 rfl, zi_init 10 (by decide +kernel), by decide +kernel⟩
def mWri_openLacking : zMT := (8, ⟨"StyledRuns$Writer", "openLacking", "(I)V"⟩, prog_12_method_6_code, 4, none, 2, 41)
set_option maxRecDepth 100000 in
theorem okWri_openLacking : zOk mWri_openLacking 1 := ⟨plainFor_of_name (by decide +kernel), rfl, zi_code 630 rfl, zi_init 10 (by decide +kernel), by decide +kernel⟩
def mSR_init : zMT := (9, ⟨"StyledRuns", "<init>", "()V"⟩, prog_1_method_1_code, 2, none, 4, 82)
set_option maxRecDepth 100000 in
theorem okSR_init : zOk mSR_init 0 := ⟨plainFor_of_name (by decide +kernel), rfl, zi_code 20 rfl, zi_init 1 (by decide +kernel), by decide +kernel⟩
def mSR_anchor : zMT := (9, ⟨"StyledRuns", "anchor", "(II)I"⟩, prog_1_method_29_code, 3, (some .int), 1, 21)
set_option maxRecDepth 100000 in
theorem okSR_anchor : zOk mSR_anchor 2 := ⟨plainFor_of_name (by decide +kernel), rfl, zi_code 733 rfl, zi_init 1 (by decide +kernel), by decide +kernel⟩
def mSR_back : zMT := (9, ⟨"StyledRuns", "back", "(I)I"⟩, prog_1_method_22_code, 2, (some .int), 2, 48)
set_option maxRecDepth 100000 in
theorem okSR_back : zOk mSR_back 1 := ⟨plainFor_of_name (by decide +kernel), rfl, zi_code 664 rfl, zi_init 1 (by decide +kernel), by decide +kernel⟩
def mSR_begin : zMT := (9, ⟨"StyledRuns", "begin", "(IIII)V"⟩, prog_1_method_43_code, 5, none, 3, 73)
set_option maxRecDepth 100000 in
theorem okSR_begin : zOk mSR_begin 4 := ⟨plainFor_of_name (by decide +kernel), rfl, zi_code 365 rfl, zi_init 1 (by decide +kernel), by decide +kernel⟩
def mSR_best : zMT := (9, ⟨"StyledRuns", "best", "(II)I"⟩, prog_1_method_37_code, 7, (some .int), 5, 122)
set_option maxRecDepth 100000 in
theorem okSR_best : zOk mSR_best 2 := ⟨plainFor_of_name (by decide +kernel), rfl, zi_code 796 rfl, zi_init 1 (by decide +kernel), by decide +kernel⟩
def mSR_count : zMT := (9, ⟨"StyledRuns", "count", "(I)I"⟩, prog_1_method_39_code, 2, (some .int), 5, 120)
set_option maxRecDepth 100000 in
theorem okSR_count : zOk mSR_count 1 := ⟨plainFor_of_name (by decide +kernel), rfl, zi_code 812 rfl, zi_init 1 (by decide +kernel), by decide +kernel⟩
def mSR_crossed : zMT := (9, ⟨"StyledRuns", "crossed", "()I"⟩, prog_1_method_38_code, 4, (some .int), 2, 43)
set_option maxRecDepth 100000 in
theorem okSR_crossed : zOk mSR_crossed 0 := ⟨plainFor_of_name (by decide +kernel), rfl, zi_code 800 rfl, zi_init 1 (by decide +kernel), by decide +kernel⟩
def mSR_cut : zMT := (9, ⟨"StyledRuns", "cut", "(II)I"⟩, prog_1_method_6_code, 3, (some .int), 4, 97)
set_option maxRecDepth 100000 in
theorem okSR_cut : zOk mSR_cut 2 := ⟨plainFor_of_name (by decide +kernel), rfl, zi_code 412 rfl, zi_init 1 (by decide +kernel), by decide +kernel⟩
def mSR_end : zMT := (9, ⟨"StyledRuns", "end", "(I)I"⟩, prog_1_method_3_code, 2, (some .int), 0, 0)
set_option maxRecDepth 100000 in
theorem okSR_end : zOk mSR_end 1 := ⟨plainFor_of_name (by decide +kernel), rfl, zi_code 330 rfl, zi_init 1 (by decide +kernel), by decide +kernel⟩
def mSR_fast : zMT := (9, ⟨"StyledRuns", "fast", "()I"⟩, prog_1_method_14_code, 4, (some .int), 5, 120)
set_option maxRecDepth 100000 in
theorem okSR_fast : zOk mSR_fast 0 := ⟨plainFor_of_name (by decide +kernel), rfl, zi_code 529 rfl, zi_init 1 (by decide +kernel), by decide +kernel⟩
def mSR_fault : zMT := (9, ⟨"StyledRuns", "fault", "()I"⟩, prog_1_method_18_code, 1, (some .int), 0, 0)
set_option maxRecDepth 100000 in
theorem okSR_fault : zOk mSR_fault 0 := ⟨plainFor_of_name (by decide +kernel), rfl, zi_code 599 rfl, zi_init 1 (by decide +kernel), by decide +kernel⟩
def mSR_feed : zMT := (9, ⟨"StyledRuns", "feed", "(IIIII)I"⟩, prog_1_method_2_code, 6, (some .int), 1, 21)
set_option maxRecDepth 100000 in
theorem okSR_feed : zOk mSR_feed 5 := ⟨plainFor_of_name (by decide +kernel), rfl, zi_code 322 rfl, zi_init 1 (by decide +kernel), by decide +kernel⟩
def mSR_find : zMT := (9, ⟨"StyledRuns", "find", "(I)I"⟩, prog_1_method_30_code, 2, (some .int), 6, 152)
set_option maxRecDepth 100000 in
theorem okSR_find : zOk mSR_find 1 := ⟨plainFor_of_name (by decide +kernel), rfl, zi_code 737 rfl, zi_init 1 (by decide +kernel), by decide +kernel⟩
def mSR_findBy : zMT := (9, ⟨"StyledRuns", "findBy", "(IIIIII)I"⟩, prog_1_method_31_code, 8, (some .int), 6, 152)
set_option maxRecDepth 100000 in
theorem okSR_findBy : zOk mSR_findBy 6 := ⟨plainFor_of_name (by decide +kernel), rfl, zi_code 748 rfl, zi_init 1 (by decide +kernel), by decide +kernel⟩
def mSR_firstStand : zMT := (9, ⟨"StyledRuns", "firstStand", "(IIIIII)I"⟩, prog_1_method_53_code, 13, (some .int), 5, 120)
set_option maxRecDepth 100000 in
theorem okSR_firstStand : zOk mSR_firstStand 6 := ⟨plainFor_of_name (by decide +kernel), rfl, zi_code 741 rfl, zi_init 1 (by decide +kernel), by decide +kernel⟩
def mSR_follow : zMT := (9, ⟨"StyledRuns", "follow", "(IIIIZ)I"⟩, prog_1_method_33_code, 7, (some .int), 2, 43)
set_option maxRecDepth 100000 in
theorem okSR_follow : zOk mSR_follow 5 := ⟨plainFor_of_name (by decide +kernel), rfl, zi_code 759 rfl, zi_init 1 (by decide +kernel), by decide +kernel⟩
def mSR_granted : zMT := (9, ⟨"StyledRuns", "granted", "(I)I"⟩, prog_1_method_42_code, 2, (some .int), 0, 0)
set_option maxRecDepth 100000 in
theorem okSR_granted : zOk mSR_granted 1 := ⟨plainFor_of_name (by decide +kernel), rfl, zi_code 408 rfl, zi_init 1 (by decide +kernel), by decide +kernel⟩
def mSR_idle : zMT := (9, ⟨"StyledRuns", "idle", "()I"⟩, prog_1_method_35_code, 3, (some .int), 6, 141)
set_option maxRecDepth 100000 in
theorem okSR_idle : zOk mSR_idle 0 := ⟨plainFor_of_name (by decide +kernel), rfl, zi_code 784 rfl, zi_init 1 (by decide +kernel), by decide +kernel⟩
def mSR_image : zMT := (9, ⟨"StyledRuns", "image", "(I)I"⟩, prog_1_method_21_code, 2, (some .int), 2, 48)
set_option maxRecDepth 100000 in
theorem okSR_image : zOk mSR_image 1 := ⟨plainFor_of_name (by decide +kernel), rfl, zi_code 659 rfl, zi_init 1 (by decide +kernel), by decide +kernel⟩
def mSR_isBrush : zMT := (9, ⟨"StyledRuns", "isBrush", "(IIII)Z"⟩, prog_1_method_48_code, 5, (some .boolean), 2, 41)
set_option maxRecDepth 100000 in
theorem okSR_isBrush : zOk mSR_isBrush 4 := ⟨plainFor_of_name (by decide +kernel), rfl, zi_code 479 rfl, zi_init 1 (by decide +kernel), by decide +kernel⟩
def mSR_isColorOrNone : zMT := (9, ⟨"StyledRuns", "isColorOrNone", "(I)Z"⟩, prog_1_method_49_code, 1, (some .boolean), 1, 21)
set_option maxRecDepth 100000 in
theorem okSR_isColorOrNone : zOk mSR_isColorOrNone 1 := ⟨plainFor_of_name (by decide +kernel), rfl, zi_code 482 rfl, zi_init 1 (by decide +kernel), by decide +kernel⟩
def mSR_isFilter : zMT := (9, ⟨"StyledRuns", "isFilter", "(III)Z"⟩, prog_1_method_47_code, 3, (some .boolean), 2, 41)
set_option maxRecDepth 100000 in
theorem okSR_isFilter : zOk mSR_isFilter 3 := ⟨plainFor_of_name (by decide +kernel), rfl, zi_code 751 rfl, zi_init 1 (by decide +kernel), by decide +kernel⟩
def mSR_isIdle : zMT := (9, ⟨"StyledRuns", "isIdle", "(I)Z"⟩, prog_1_method_50_code, 2, (some .boolean), 5, 120)
set_option maxRecDepth 100000 in
theorem okSR_isIdle : zOk mSR_isIdle 1 := ⟨plainFor_of_name (by decide +kernel), rfl, zi_code 717 rfl, zi_init 1 (by decide +kernel), by decide +kernel⟩
def mSR_isWithin : zMT := (9, ⟨"StyledRuns", "isWithin", "(II)Z"⟩, prog_1_method_46_code, 2, (some .boolean), 0, 0)
set_option maxRecDepth 100000 in
theorem okSR_isWithin : zOk mSR_isWithin 2 := ⟨plainFor_of_name (by decide +kernel), rfl, zi_code 476 rfl, zi_init 1 (by decide +kernel), by decide +kernel⟩
def mSR_lay : zMT := (9, ⟨"StyledRuns", "lay", "(IIIIIIII)I"⟩, prog_1_method_9_code, 12, (some .int), 4, 97)
set_option maxRecDepth 100000 in
theorem okSR_lay : zOk mSR_lay 8 := ⟨plainFor_of_name (by decide +kernel), rfl, zi_code 473 rfl, zi_init 1 (by decide +kernel), by decide +kernel⟩
def mSR_letter : zMT := (9, ⟨"StyledRuns", "letter", "(I)I"⟩, prog_1_method_23_code, 2, (some .int), 1, 21)
set_option maxRecDepth 100000 in
theorem okSR_letter : zOk mSR_letter 1 := ⟨plainFor_of_name (by decide +kernel), rfl, zi_code 668 rfl, zi_init 1 (by decide +kernel), by decide +kernel⟩
def mSR_lift : zMT := (9, ⟨"StyledRuns", "lift", "(I)I"⟩, prog_1_method_10_code, 2, (some .int), 4, 97)
set_option maxRecDepth 100000 in
theorem okSR_lift : zOk mSR_lift 1 := ⟨plainFor_of_name (by decide +kernel), rfl, zi_code 486 rfl, zi_init 1 (by decide +kernel), by decide +kernel⟩
def mSR_looksNow : zMT := (9, ⟨"StyledRuns", "looksNow", "()LStyledRuns$Looks;"⟩, prog_1_method_44_code, 1, (some (.object "StyledRuns$Looks")), 4, 100)
set_option maxRecDepth 100000 in
theorem okSR_looksNow : zOk mSR_looksNow 0 := ⟨plainFor_of_name (by decide +kernel), rfl, zi_code 533 rfl, zi_init 1 (by decide +kernel), by decide +kernel⟩
def mSR_move : zMT := (9, ⟨"StyledRuns", "move", "(III)I"⟩, prog_1_method_8_code, 4, (some .int), 5, 116)
set_option maxRecDepth 100000 in
theorem okSR_move : zOk mSR_move 3 := ⟨plainFor_of_name (by decide +kernel), rfl, zi_code 442 rfl, zi_init 1 (by decide +kernel), by decide +kernel⟩
def mSR_paint : zMT := (9, ⟨"StyledRuns", "paint", "(IIIIII)I"⟩, prog_1_method_13_code, 10, (some .int), 4, 97)
set_option maxRecDepth 100000 in
theorem okSR_paint : zOk mSR_paint 6 := ⟨plainFor_of_name (by decide +kernel), rfl, zi_code 506 rfl, zi_init 1 (by decide +kernel), by decide +kernel⟩
def mSR_pin : zMT := (9, ⟨"StyledRuns", "pin", "(II)I"⟩, prog_1_method_15_code, 5, (some .int), 4, 97)
set_option maxRecDepth 100000 in
theorem okSR_pin : zOk mSR_pin 2 := ⟨plainFor_of_name (by decide +kernel), rfl, zi_code 549 rfl, zi_init 1 (by decide +kernel), by decide +kernel⟩
def mSR_raised : zMT := (9, ⟨"StyledRuns", "raised", "(II)I"⟩, prog_1_method_36_code, 4, (some .int), 5, 122)
set_option maxRecDepth 100000 in
theorem okSR_raised : zOk mSR_raised 2 := ⟨plainFor_of_name (by decide +kernel), rfl, zi_code 788 rfl, zi_init 1 (by decide +kernel), by decide +kernel⟩
def mSR_read : zMT := (9, ⟨"StyledRuns", "read", "()I"⟩, prog_1_method_17_code, 1, (some .int), 5, 115)
set_option maxRecDepth 100000 in
theorem okSR_read : zOk mSR_read 0 := ⟨plainFor_of_name (by decide +kernel), rfl, zi_code 561 rfl, zi_init 1 (by decide +kernel), by decide +kernel⟩
def mSR_refused : zMT := (9, ⟨"StyledRuns", "refused", "(I)I"⟩, prog_1_method_41_code, 2, (some .int), 0, 0)
set_option maxRecDepth 100000 in
theorem okSR_refused : zOk mSR_refused 1 := ⟨plainFor_of_name (by decide +kernel), rfl, zi_code 357 rfl, zi_init 1 (by decide +kernel), by decide +kernel⟩
def mSR_run : zMT := (9, ⟨"StyledRuns", "run", "(II)I"⟩, prog_1_method_25_code, 5, (some .int), 5, 120)
set_option maxRecDepth 100000 in
theorem okSR_run : zOk mSR_run 2 := ⟨plainFor_of_name (by decide +kernel), rfl, zi_code 683 rfl, zi_init 1 (by decide +kernel), by decide +kernel⟩
def mSR_runsIfRaised : zMT := (9, ⟨"StyledRuns", "runsIfRaised", "(II)I"⟩, prog_1_method_52_code, 3, (some .int), 4, 100)
set_option maxRecDepth 100000 in
theorem okSR_runsIfRaised : zOk mSR_runsIfRaised 2 := ⟨plainFor_of_name (by decide +kernel), rfl, zi_code 792 rfl, zi_init 1 (by decide +kernel), by decide +kernel⟩
def mSR_runsWithout : zMT := (9, ⟨"StyledRuns", "runsWithout", "(I)I"⟩, prog_1_method_51_code, 2, (some .int), 4, 100)
set_option maxRecDepth 100000 in
theorem okSR_runsWithout : zOk mSR_runsWithout 1 := ⟨plainFor_of_name (by decide +kernel), rfl, zi_code 725 rfl, zi_init 1 (by decide +kernel), by decide +kernel⟩
def mSR_set : zMT := (9, ⟨"StyledRuns", "set", "(III)I"⟩, prog_1_method_11_code, 8, (some .int), 4, 97)
set_option maxRecDepth 100000 in
theorem okSR_set : zOk mSR_set 3 := ⟨plainFor_of_name (by decide +kernel), rfl, zi_code 498 rfl, zi_init 1 (by decide +kernel), by decide +kernel⟩
def mSR_span : zMT := (9, ⟨"StyledRuns", "span", "(II)I"⟩, prog_1_method_28_code, 4, (some .int), 6, 141)
set_option maxRecDepth 100000 in
theorem okSR_span : zOk mSR_span 2 := ⟨plainFor_of_name (by decide +kernel), rfl, zi_code 712 rfl, zi_init 1 (by decide +kernel), by decide +kernel⟩
def mSR_stack : zMT := (9, ⟨"StyledRuns", "stack", "(II)I"⟩, prog_1_method_26_code, 7, (some .int), 1, 21)
set_option maxRecDepth 100000 in
theorem okSR_stack : zOk mSR_stack 2 := ⟨plainFor_of_name (by decide +kernel), rfl, zi_code 696 rfl, zi_init 1 (by decide +kernel), by decide +kernel⟩
def mSR_status : zMT := (9, ⟨"StyledRuns", "status", "()I"⟩, prog_1_method_40_code, 1, (some .int), 0, 0)
set_option maxRecDepth 100000 in
theorem okSR_status : zOk mSR_status 0 := ⟨plainFor_of_name (by decide +kernel), rfl, zi_code 847 rfl, zi_init 1 (by decide +kernel), by decide +kernel⟩
def mSR_stretch : zMT := (9, ⟨"StyledRuns", "stretch", "(III)I"⟩, prog_1_method_12_code, 4, (some .int), 4, 97)
set_option maxRecDepth 100000 in
theorem okSR_stretch : zOk mSR_stretch 3 := ⟨plainFor_of_name (by decide +kernel), rfl, zi_code 502 rfl, zi_init 1 (by decide +kernel), by decide +kernel⟩
def mSR_style : zMT := (9, ⟨"StyledRuns", "style", "(II)I"⟩, prog_1_method_24_code, 3, (some .int), 5, 120)
set_option maxRecDepth 100000 in
theorem okSR_style : zOk mSR_style 2 := ⟨plainFor_of_name (by decide +kernel), rfl, zi_code 676 rfl, zi_init 1 (by decide +kernel), by decide +kernel⟩
def mSR_styled : zMT := (9, ⟨"StyledRuns", "styled", "(IIIII)I"⟩, prog_1_method_32_code, 11, (some .int), 5, 120)
set_option maxRecDepth 100000 in
theorem okSR_styled : zOk mSR_styled 5 := ⟨plainFor_of_name (by decide +kernel), rfl, zi_code 755 rfl, zi_init 1 (by decide +kernel), by decide +kernel⟩
def mSR_swap : zMT := (9, ⟨"StyledRuns", "swap", "(II)I"⟩, prog_1_method_7_code, 5, (some .int), 4, 97)
set_option maxRecDepth 100000 in
theorem okSR_swap : zOk mSR_swap 2 := ⟨plainFor_of_name (by decide +kernel), rfl, zi_code 438 rfl, zi_init 1 (by decide +kernel), by decide +kernel⟩
def mSR_tape : zMT := (9, ⟨"StyledRuns", "tape", "(I)I"⟩, prog_1_method_4_code, 2, (some .int), 1, 21)
set_option maxRecDepth 100000 in
theorem okSR_tape : zOk mSR_tape 1 := ⟨plainFor_of_name (by decide +kernel), rfl, zi_code 334 rfl, zi_init 1 (by decide +kernel), by decide +kernel⟩
def mSR_tells : zMT := (9, ⟨"StyledRuns", "tells", "(II)I"⟩, prog_1_method_27_code, 7, (some .int), 1, 21)
set_option maxRecDepth 100000 in
theorem okSR_tells : zOk mSR_tells 2 := ⟨plainFor_of_name (by decide +kernel), rfl, zi_code 704 rfl, zi_init 1 (by decide +kernel), by decide +kernel⟩
def mSR_through : zMT := (9, ⟨"StyledRuns", "through", "(III)I"⟩, prog_1_method_34_code, 5, (some .int), 6, 139)
set_option maxRecDepth 100000 in
theorem okSR_through : zOk mSR_through 3 := ⟨plainFor_of_name (by decide +kernel), rfl, zi_code 765 rfl, zi_init 1 (by decide +kernel), by decide +kernel⟩
def mSR_type : zMT := (9, ⟨"StyledRuns", "type", "(I)I"⟩, prog_1_method_5_code, 3, (some .int), 4, 97)
set_option maxRecDepth 100000 in
theorem okSR_type : zOk mSR_type 1 := ⟨plainFor_of_name (by decide +kernel), rfl, zi_code 342 rfl, zi_init 1 (by decide +kernel), by decide +kernel⟩
def mSR_undo : zMT := (9, ⟨"StyledRuns", "undo", "()I"⟩, prog_1_method_20_code, 1, (some .int), 3, 69)
set_option maxRecDepth 100000 in
theorem okSR_undo : zOk mSR_undo 0 := ⟨plainFor_of_name (by decide +kernel), rfl, zi_code 644 rfl, zi_init 1 (by decide +kernel), by decide +kernel⟩
def mSR_unpin : zMT := (9, ⟨"StyledRuns", "unpin", "(I)I"⟩, prog_1_method_16_code, 2, (some .int), 4, 97)
set_option maxRecDepth 100000 in
theorem okSR_unpin : zOk mSR_unpin 1 := ⟨plainFor_of_name (by decide +kernel), rfl, zi_code 553 rfl, zi_init 1 (by decide +kernel), by decide +kernel⟩
def mSR_whyNoRoomForTape : zMT := (9, ⟨"StyledRuns", "whyNoRoomForTape", "()I"⟩, prog_1_method_45_code, 1, (some .int), 0, 0)
set_option maxRecDepth 100000 in
theorem okSR_whyNoRoomForTape : zOk mSR_whyNoRoomForTape 0 := ⟨plainFor_of_name (by decide +kernel), rfl, zi_code 361 rfl, zi_init 1 (by decide +kernel), by decide +kernel⟩
def mSR_write : zMT := (9, ⟨"StyledRuns", "write", "()I"⟩, prog_1_method_19_code, 2, (some .int), 5, 120)
set_option maxRecDepth 100000 in
theorem okSR_write : zOk mSR_write 0 := ⟨plainFor_of_name (by decide +kernel), rfl, zi_code 603 rfl, zi_init 1 (by decide +kernel), by decide +kernel⟩
def mMo_init : zMT := (10, ⟨"StyledRunsModel", "<init>", "()V"⟩, prog_14_method_1_code, 1, none, 1, 20)
set_option maxRecDepth 100000 in
theorem okMo_init : zOk mMo_init 0 := ⟨plainFor_of_name (by decide +kernel), rfl, zi_code 852 rfl, zi_init 11 (by decide +kernel), by decide +kernel⟩
def mMo_anchor : zMT := (10, ⟨"StyledRunsModel", "anchor", "(II)I"⟩, prog_14_method_76_code, 3, (some .int), 2, 46)
set_option maxRecDepth 100000 in
theorem okMo_anchor : zOk mMo_anchor 2 := ⟨plainFor_of_name (by decide +kernel), rfl, zi_code 1246 rfl, zi_init 11 (by decide +kernel), by decide +kernel⟩
def mMo_anchorAt : zMT := (10, ⟨"StyledRunsModel", "anchorAt", "(I)I"⟩, prog_14_method_14_code, 1, (some .int), 0, 0)
set_option maxRecDepth 100000 in
theorem okMo_anchorAt : zOk mMo_anchorAt 1 := ⟨plainFor_of_name (by decide +kernel), rfl, zi_code 1028 rfl, zi_init 11 (by decide +kernel), by decide +kernel⟩
def mMo_areLetters : zMT := (10, ⟨"StyledRunsModel", "areLetters", "()Z"⟩, prog_14_method_29_code, 3, (some .boolean), 2, 45)
set_option maxRecDepth 100000 in
theorem okMo_areLetters : zOk mMo_areLetters 0 := ⟨plainFor_of_name (by decide +kernel), rfl, zi_code 1002 rfl, zi_init 11 (by decide +kernel), by decide +kernel⟩
def mMo_back : zMT := (10, ⟨"StyledRunsModel", "back", "(I)I"⟩, prog_14_method_11_code, 2, (some .int), 1, 25)
set_option maxRecDepth 100000 in
theorem okMo_back : zOk mMo_back 1 := ⟨plainFor_of_name (by decide +kernel), rfl, zi_code 974 rfl, zi_init 11 (by decide +kernel), by decide +kernel⟩
def mMo_backward : zMT := (10, ⟨"StyledRunsModel", "backward", "(III)I"⟩, prog_14_method_22_code, 3, (some .int), 0, 0)
set_option maxRecDepth 100000 in
theorem okMo_backward : zOk mMo_backward 3 := ⟨plainFor_of_name (by decide +kernel), rfl, zi_code 1050 rfl, zi_init 11 (by decide +kernel), by decide +kernel⟩
def mMo_behind : zMT := (10, ⟨"StyledRunsModel", "behind", "(III)I"⟩, prog_14_method_83_code, 8, (some .int), 1, 23)
set_option maxRecDepth 100000 in
theorem okMo_behind : zOk mMo_behind 3 := ⟨plainFor_of_name (by decide +kernel), rfl, zi_code 1280 rfl, zi_init 11 (by decide +kernel), by decide +kernel⟩
def mMo_best : zMT := (10, ⟨"StyledRunsModel", "best", "(II)I"⟩, prog_14_method_88_code, 7, (some .int), 6, 138)
set_option maxRecDepth 100000 in
theorem okMo_best : zOk mMo_best 2 := ⟨plainFor_of_name (by decide +kernel), rfl, zi_code 1296 rfl, zi_init 11 (by decide +kernel), by decide +kernel⟩
def mMo_byteAt : zMT := (10, ⟨"StyledRunsModel", "byteAt", "(I)I"⟩, prog_14_method_51_code, 2, (some .int), 0, 0)
set_option maxRecDepth 100000 in
theorem okMo_byteAt : zOk mMo_byteAt 1 := ⟨plainFor_of_name (by decide +kernel), rfl, zi_code 1139 rfl, zi_init 11 (by decide +kernel), by decide +kernel⟩
def mMo_closes : zMT := (10, ⟨"StyledRunsModel", "closes", "()V"⟩, prog_14_method_62_code, 1, none, 1, 21)
set_option maxRecDepth 100000 in
theorem okMo_closes : zOk mMo_closes 0 := ⟨plainFor_of_name (by decide +kernel), rfl, zi_code 1182 rfl, zi_init 11 (by decide +kernel), by decide +kernel⟩
def mMo_comeFrom : zMT := (10, ⟨"StyledRunsModel", "comeFrom", "(I)V"⟩, prog_14_method_31_code, 5, none, 1, 20)
set_option maxRecDepth 100000 in
theorem okMo_comeFrom : zOk mMo_comeFrom 1 := ⟨plainFor_of_name (by decide +kernel), rfl, zi_code 1032 rfl, zi_init 11 (by decide +kernel), by decide +kernel⟩
def mMo_comes : zMT := (10, ⟨"StyledRunsModel", "comes", "(I)V"⟩, prog_14_method_25_code, 3, none, 0, 0)
set_option maxRecDepth 100000 in
theorem okMo_comes : zOk mMo_comes 1 := ⟨plainFor_of_name (by decide +kernel), rfl, zi_code 982 rfl, zi_init 11 (by decide +kernel), by decide +kernel⟩
def mMo_copy : zMT := (10, ⟨"StyledRunsModel", "copy", "([II[II)V"⟩, prog_14_method_6_code, 5, none, 0, 0)
set_option maxRecDepth 100000 in
theorem okMo_copy : zOk mMo_copy 4 := ⟨plainFor_of_name (by decide +kernel), rfl, zi_code 959 rfl, zi_init 11 (by decide +kernel), by decide +kernel⟩
def mMo_count : zMT := (10, ⟨"StyledRunsModel", "count", "(I)I"⟩, prog_14_method_95_code, 2, (some .int), 6, 139)
set_option maxRecDepth 100000 in
theorem okMo_count : zOk mMo_count 1 := ⟨plainFor_of_name (by decide +kernel), rfl, zi_code 1308 rfl, zi_init 11 (by decide +kernel), by decide +kernel⟩
def mMo_crossed : zMT := (10, ⟨"StyledRunsModel", "crossed", "()I"⟩, prog_14_method_90_code, 6, (some .int), 1, 22)
set_option maxRecDepth 100000 in
theorem okMo_crossed : zOk mMo_crossed 0 := ⟨plainFor_of_name (by decide +kernel), rfl, zi_code 1300 rfl, zi_init 11 (by decide +kernel), by decide +kernel⟩
def mMo_cut : zMT := (10, ⟨"StyledRunsModel", "cut", "(II)I"⟩, prog_14_method_33_code, 3, (some .int), 3, 68)
set_option maxRecDepth 100000 in
theorem okMo_cut : zOk mMo_cut 2 := ⟨plainFor_of_name (by decide +kernel), rfl, zi_code 1054 rfl, zi_init 11 (by decide +kernel), by decide +kernel⟩
def mMo_end : zMT := (10, ⟨"StyledRunsModel", "end", "(I)I"⟩, prog_14_method_27_code, 2, (some .int), 1, 25)
set_option maxRecDepth 100000 in
theorem okMo_end : zOk mMo_end 1 := ⟨plainFor_of_name (by decide +kernel), rfl, zi_code 986 rfl, zi_init 11 (by decide +kernel), by decide +kernel⟩
def mMo_fast : zMT := (10, ⟨"StyledRunsModel", "fast", "()I"⟩, prog_14_method_48_code, 3, (some .int), 3, 68)
set_option maxRecDepth 100000 in
theorem okMo_fast : zOk mMo_fast 0 := ⟨plainFor_of_name (by decide +kernel), rfl, zi_code 1115 rfl, zi_init 11 (by decide +kernel), by decide +kernel⟩
def mMo_fault : zMT := (10, ⟨"StyledRunsModel", "fault", "()I"⟩, prog_14_method_57_code, 1, (some .int), 0, 0)
set_option maxRecDepth 100000 in
theorem okMo_fault : zOk mMo_fault 0 := ⟨plainFor_of_name (by decide +kernel), rfl, zi_code 1158 rfl, zi_init 11 (by decide +kernel), by decide +kernel⟩
def mMo_feed : zMT := (10, ⟨"StyledRunsModel", "feed", "(IIIII)I"⟩, prog_14_method_26_code, 6, (some .int), 1, 22)
set_option maxRecDepth 100000 in
theorem okMo_feed : zOk mMo_feed 5 := ⟨plainFor_of_name (by decide +kernel), rfl, zi_code 978 rfl, zi_init 11 (by decide +kernel), by decide +kernel⟩
def mMo_find : zMT := (10, ⟨"StyledRunsModel", "find", "(I)I"⟩, prog_14_method_78_code, 3, (some .int), 2, 46)
set_option maxRecDepth 100000 in
theorem okMo_find : zOk mMo_find 1 := ⟨plainFor_of_name (by decide +kernel), rfl, zi_code 1251 rfl, zi_init 11 (by decide +kernel), by decide +kernel⟩
def mMo_findBy : zMT := (10, ⟨"StyledRunsModel", "findBy", "(IIIIII)I"⟩, prog_14_method_80_code, 10, (some .int), 4, 92)
set_option maxRecDepth 100000 in
theorem okMo_findBy : zOk mMo_findBy 6 := ⟨plainFor_of_name (by decide +kernel), rfl, zi_code 1259 rfl, zi_init 11 (by decide +kernel), by decide +kernel⟩
def mMo_flagOf : zMT := (10, ⟨"StyledRunsModel", "flagOf", "(I)I"⟩, prog_14_method_53_code, 1, (some .int), 0, 0)
set_option maxRecDepth 100000 in
theorem okMo_flagOf : zOk mMo_flagOf 1 := ⟨plainFor_of_name (by decide +kernel), rfl, zi_code 1146 rfl, zi_init 11 (by decide +kernel), by decide +kernel⟩
def mMo_follow : zMT := (10, ⟨"StyledRunsModel", "follow", "(IIIIZ)I"⟩, prog_14_method_82_code, 6, (some .int), 3, 68)
set_option maxRecDepth 100000 in
theorem okMo_follow : zOk mMo_follow 5 := ⟨plainFor_of_name (by decide +kernel), rfl, zi_code 1271 rfl, zi_init 11 (by decide +kernel), by decide +kernel⟩
def mMo_has : zMT := (10, ⟨"StyledRunsModel", "has", "(I)Z"⟩, prog_14_method_59_code, 2, (some .boolean), 1, 20)
set_option maxRecDepth 100000 in
theorem okMo_has : zOk mMo_has 1 := ⟨plainFor_of_name (by decide +kernel), rfl, zi_code 1178 rfl, zi_init 11 (by decide +kernel), by decide +kernel⟩
def mMo_hasAll : zMT := (10, ⟨"StyledRunsModel", "hasAll", "()Z"⟩, prog_14_method_60_code, 3, (some .boolean), 2, 41)
set_option maxRecDepth 100000 in
theorem okMo_hasAll : zOk mMo_hasAll 0 := ⟨plainFor_of_name (by decide +kernel), rfl, zi_code 1174 rfl, zi_init 11 (by decide +kernel), by decide +kernel⟩
def mMo_highest : zMT := (10, ⟨"StyledRunsModel", "highest", "()I"⟩, prog_14_method_93_code, 5, (some .int), 2, 43)
set_option maxRecDepth 100000 in
theorem okMo_highest : zOk mMo_highest 0 := ⟨plainFor_of_name (by decide +kernel), rfl, zi_code 1324 rfl, zi_init 11 (by decide +kernel), by decide +kernel⟩
def mMo_idle : zMT := (10, ⟨"StyledRunsModel", "idle", "()I"⟩, prog_14_method_85_code, 3, (some .int), 5, 113)
set_option maxRecDepth 100000 in
theorem okMo_idle : zOk mMo_idle 0 := ⟨plainFor_of_name (by decide +kernel), rfl, zi_code 1284 rfl, zi_init 11 (by decide +kernel), by decide +kernel⟩
def mMo_image : zMT := (10, ⟨"StyledRunsModel", "image", "(I)I"⟩, prog_14_method_10_code, 2, (some .int), 1, 25)
set_option maxRecDepth 100000 in
theorem okMo_image : zOk mMo_image 1 := ⟨plainFor_of_name (by decide +kernel), rfl, zi_code 967 rfl, zi_init 11 (by decide +kernel), by decide +kernel⟩
def mMo_in : zMT := (10, ⟨"StyledRunsModel", "in", "(JJJ)Z"⟩, prog_14_method_3_code, 6, (some .boolean), 0, 0)
set_option maxRecDepth 100000 in
theorem okMo_in : zOk mMo_in 3 := ⟨plainFor_of_name (by decide +kernel), rfl, zi_code 970 rfl, zi_init 11 (by decide +kernel), by decide +kernel⟩
def mMo_isAnchor : zMT := (10, ⟨"StyledRunsModel", "isAnchor", "(I)Z"⟩, prog_14_method_18_code, 2, (some .boolean), 1, 25)
set_option maxRecDepth 100000 in
theorem okMo_isAnchor : zOk mMo_isAnchor 1 := ⟨plainFor_of_name (by decide +kernel), rfl, zi_code 1066 rfl, zi_init 11 (by decide +kernel), by decide +kernel⟩
def mMo_isByte : zMT := (10, ⟨"StyledRunsModel", "isByte", "(I)Z"⟩, prog_14_method_20_code, 1, (some .boolean), 1, 25)
set_option maxRecDepth 100000 in
theorem okMo_isByte : zOk mMo_isByte 1 := ⟨plainFor_of_name (by decide +kernel), rfl, zi_code 1005 rfl, zi_init 11 (by decide +kernel), by decide +kernel⟩
def mMo_isIdle : zMT := (10, ⟨"StyledRunsModel", "isIdle", "(I)Z"⟩, prog_14_method_74_code, 4, (some .boolean), 4, 90)
set_option maxRecDepth 100000 in
theorem okMo_isIdle : zOk mMo_isIdle 1 := ⟨plainFor_of_name (by decide +kernel), rfl, zi_code 1242 rfl, zi_init 11 (by decide +kernel), by decide +kernel⟩
def mMo_isLetter : zMT := (10, ⟨"StyledRunsModel", "isLetter", "(I)Z"⟩, prog_14_method_15_code, 2, (some .boolean), 1, 25)
set_option maxRecDepth 100000 in
theorem okMo_isLetter : zOk mMo_isLetter 1 := ⟨plainFor_of_name (by decide +kernel), rfl, zi_code 1202 rfl, zi_init 11 (by decide +kernel), by decide +kernel⟩
def mMo_isLook : zMT := (10, ⟨"StyledRunsModel", "isLook", "(IIII)Z"⟩, prog_14_method_35_code, 4, (some .boolean), 1, 25)
set_option maxRecDepth 100000 in
theorem okMo_isLook : zOk mMo_isLook 4 := ⟨plainFor_of_name (by decide +kernel), rfl, zi_code 1074 rfl, zi_init 11 (by decide +kernel), by decide +kernel⟩
def mMo_isOpen : zMT := (10, ⟨"StyledRunsModel", "isOpen", "(I)Z"⟩, prog_14_method_61_code, 4, (some .boolean), 0, 0)
set_option maxRecDepth 100000 in
theorem okMo_isOpen : zOk mMo_isOpen 1 := ⟨plainFor_of_name (by decide +kernel), rfl, zi_code 1194 rfl, zi_init 11 (by decide +kernel), by decide +kernel⟩
def mMo_isOver : zMT := (10, ⟨"StyledRunsModel", "isOver", "(II)Z"⟩, prog_14_method_43_code, 4, (some .boolean), 1, 20)
set_option maxRecDepth 100000 in
theorem okMo_isOver : zOk mMo_isOver 2 := ⟨plainFor_of_name (by decide +kernel), rfl, zi_code 1123 rfl, zi_init 11 (by decide +kernel), by decide +kernel⟩
def mMo_isPlace : zMT := (10, ⟨"StyledRunsModel", "isPlace", "(I)Z"⟩, prog_14_method_16_code, 2, (some .boolean), 1, 25)
set_option maxRecDepth 100000 in
theorem okMo_isPlace : zOk mMo_isPlace 1 := ⟨plainFor_of_name (by decide +kernel), rfl, zi_code 998 rfl, zi_init 11 (by decide +kernel), by decide +kernel⟩
def mMo_isRange : zMT := (10, ⟨"StyledRunsModel", "isRange", "(II)Z"⟩, prog_14_method_19_code, 3, (some .boolean), 2, 46)
set_option maxRecDepth 100000 in
theorem okMo_isRange : zOk mMo_isRange 2 := ⟨plainFor_of_name (by decide +kernel), rfl, zi_code 1043 rfl, zi_init 11 (by decide +kernel), by decide +kernel⟩
def mMo_isSo : zMT := (10, ⟨"StyledRunsModel", "isSo", "(IIII)Z"⟩, prog_14_method_79_code, 5, (some .boolean), 3, 68)
set_option maxRecDepth 100000 in
theorem okMo_isSo : zOk mMo_isSo 4 := ⟨plainFor_of_name (by decide +kernel), rfl, zi_code 1263 rfl, zi_init 11 (by decide +kernel), by decide +kernel⟩
def mMo_isSpan : zMT := (10, ⟨"StyledRunsModel", "isSpan", "(I)Z"⟩, prog_14_method_17_code, 2, (some .boolean), 1, 25)
set_option maxRecDepth 100000 in
theorem okMo_isSpan : zOk mMo_isSpan 1 := ⟨plainFor_of_name (by decide +kernel), rfl, zi_code 1062 rfl, zi_init 11 (by decide +kernel), by decide +kernel⟩
def mMo_isWithin : zMT := (10, ⟨"StyledRunsModel", "isWithin", "(II)Z"⟩, prog_14_method_89_code, 3, (some .boolean), 0, 0)
set_option maxRecDepth 100000 in
theorem okMo_isWithin : zOk mMo_isWithin 2 := ⟨plainFor_of_name (by decide +kernel), rfl, zi_code 1304 rfl, zi_init 11 (by decide +kernel), by decide +kernel⟩
def mMo_lay : zMT := (10, ⟨"StyledRunsModel", "lay", "(IIIIIIII)I"⟩, prog_14_method_36_code, 11, (some .int), 3, 68)
set_option maxRecDepth 100000 in
theorem okMo_lay : zOk mMo_lay 8 := ⟨plainFor_of_name (by decide +kernel), rfl, zi_code 1070 rfl, zi_init 11 (by decide +kernel), by decide +kernel⟩
def mMo_layPaint : zMT := (10, ⟨"StyledRunsModel", "layPaint", "(I)I"⟩, prog_14_method_46_code, 4, (some .int), 1, 20)
set_option maxRecDepth 100000 in
theorem okMo_layPaint : zOk mMo_layPaint 1 := ⟨plainFor_of_name (by decide +kernel), rfl, zi_code 1111 rfl, zi_init 11 (by decide +kernel), by decide +kernel⟩
def mMo_layRuns : zMT := (10, ⟨"StyledRunsModel", "layRuns", "(I)V"⟩, prog_14_method_69_code, 5, none, 4, 90)
set_option maxRecDepth 100000 in
theorem okMo_layRuns : zOk mMo_layRuns 1 := ⟨plainFor_of_name (by decide +kernel), rfl, zi_code 1220 rfl, zi_init 11 (by decide +kernel), by decide +kernel⟩
def mMo_letter : zMT := (10, ⟨"StyledRunsModel", "letter", "(I)I"⟩, prog_14_method_67_code, 2, (some .int), 2, 46)
set_option maxRecDepth 100000 in
theorem okMo_letter : zOk mMo_letter 1 := ⟨plainFor_of_name (by decide +kernel), rfl, zi_code 1198 rfl, zi_init 11 (by decide +kernel), by decide +kernel⟩
def mMo_letterAt : zMT := (10, ⟨"StyledRunsModel", "letterAt", "(I)I"⟩, prog_14_method_12_code, 1, (some .int), 0, 0)
set_option maxRecDepth 100000 in
theorem okMo_letterAt : zOk mMo_letterAt 1 := ⟨plainFor_of_name (by decide +kernel), rfl, zi_code 1035 rfl, zi_init 11 (by decide +kernel), by decide +kernel⟩
def mMo_lift : zMT := (10, ⟨"StyledRunsModel", "lift", "(I)I"⟩, prog_14_method_38_code, 2, (some .int), 2, 46)
set_option maxRecDepth 100000 in
theorem okMo_lift : zOk mMo_lift 1 := ⟨plainFor_of_name (by decide +kernel), rfl, zi_code 1083 rfl, zi_init 11 (by decide +kernel), by decide +kernel⟩
def mMo_longest : zMT := (10, ⟨"StyledRunsModel", "longest", "(Z)I"⟩, prog_14_method_91_code, 6, (some .int), 5, 114)
set_option maxRecDepth 100000 in
theorem okMo_longest : zOk mMo_longest 1 := ⟨plainFor_of_name (by decide +kernel), rfl, zi_code 1316 rfl, zi_init 11 (by decide +kernel), by decide +kernel⟩
def mMo_look : zMT := (10, ⟨"StyledRunsModel", "look", "(IIII)V"⟩, prog_14_method_42_code, 5, none, 0, 0)
set_option maxRecDepth 100000 in
theorem okMo_look : zOk mMo_look 4 := ⟨plainFor_of_name (by decide +kernel), rfl, zi_code 1107 rfl, zi_init 11 (by decide +kernel), by decide +kernel⟩
def mMo_makeRoom : zMT := (10, ⟨"StyledRunsModel", "makeRoom", "(IIZ)V"⟩, prog_14_method_23_code, 6, none, 1, 23)
set_option maxRecDepth 100000 in
theorem okMo_makeRoom : zOk mMo_makeRoom 3 := ⟨plainFor_of_name (by decide +kernel), rfl, zi_code 1019 rfl, zi_init 11 (by decide +kernel), by decide +kernel⟩
def mMo_marks : zMT := (10, ⟨"StyledRunsModel", "marks", "()V"⟩, prog_14_method_64_code, 2, none, 3, 63)
set_option maxRecDepth 100000 in
theorem okMo_marks : zOk mMo_marks 0 := ⟨plainFor_of_name (by decide +kernel), rfl, zi_code 1170 rfl, zi_init 11 (by decide +kernel), by decide +kernel⟩
def mMo_move : zMT := (10, ⟨"StyledRunsModel", "move", "(III)I"⟩, prog_14_method_34_code, 9, (some .int), 3, 68)
set_option maxRecDepth 100000 in
theorem okMo_move : zOk mMo_move 3 := ⟨plainFor_of_name (by decide +kernel), rfl, zi_code 1058 rfl, zi_init 11 (by decide +kernel), by decide +kernel⟩
def mMo_noteAct : zMT := (10, ⟨"StyledRunsModel", "noteAct", "(III)V"⟩, prog_14_method_8_code, 5, none, 0, 0)
set_option maxRecDepth 100000 in
theorem okMo_noteAct : zOk mMo_noteAct 3 := ⟨plainFor_of_name (by decide +kernel), rfl, zi_code 1015 rfl, zi_init 11 (by decide +kernel), by decide +kernel⟩
def mMo_ofAnchors : zMT := (10, ⟨"StyledRunsModel", "ofAnchors", "(I)I"⟩, prog_14_method_94_code, 4, (some .int), 1, 20)
set_option maxRecDepth 100000 in
theorem okMo_ofAnchors : zOk mMo_ofAnchors 1 := ⟨plainFor_of_name (by decide +kernel), rfl, zi_code 1312 rfl, zi_init 11 (by decide +kernel), by decide +kernel⟩
def mMo_onward : zMT := (10, ⟨"StyledRunsModel", "onward", "(IIII)I"⟩, prog_14_method_21_code, 4, (some .int), 0, 0)
set_option maxRecDepth 100000 in
theorem okMo_onward : zOk mMo_onward 4 := ⟨plainFor_of_name (by decide +kernel), rfl, zi_code 1025 rfl, zi_init 11 (by decide +kernel), by decide +kernel⟩
def mMo_opens : zMT := (10, ⟨"StyledRunsModel", "opens", "(II)V"⟩, prog_14_method_63_code, 3, none, 1, 23)
set_option maxRecDepth 100000 in
theorem okMo_opens : zOk mMo_opens 2 := ⟨plainFor_of_name (by decide +kernel), rfl, zi_code 1190 rfl, zi_init 11 (by decide +kernel), by decide +kernel⟩
def mMo_paint : zMT := (10, ⟨"StyledRunsModel", "paint", "(IIIIII)I"⟩, prog_14_method_47_code, 9, (some .int), 3, 68)
set_option maxRecDepth 100000 in
theorem okMo_paint : zOk mMo_paint 6 := ⟨plainFor_of_name (by decide +kernel), rfl, zi_code 1099 rfl, zi_init 11 (by decide +kernel), by decide +kernel⟩
def mMo_pin : zMT := (10, ⟨"StyledRunsModel", "pin", "(II)I"⟩, prog_14_method_49_code, 5, (some .int), 2, 46)
set_option maxRecDepth 100000 in
theorem okMo_pin : zOk mMo_pin 2 := ⟨plainFor_of_name (by decide +kernel), rfl, zi_code 1127 rfl, zi_init 11 (by decide +kernel), by decide +kernel⟩
def mMo_put : zMT := (10, ⟨"StyledRunsModel", "put", "(I)V"⟩, prog_14_method_58_code, 2, none, 0, 0)
set_option maxRecDepth 100000 in
theorem okMo_put : zOk mMo_put 1 := ⟨plainFor_of_name (by decide +kernel), rfl, zi_code 1186 rfl, zi_init 11 (by decide +kernel), by decide +kernel⟩
def mMo_raised : zMT := (10, ⟨"StyledRunsModel", "raised", "(II)I"⟩, prog_14_method_87_code, 3, (some .int), 6, 138)
set_option maxRecDepth 100000 in
theorem okMo_raised : zOk mMo_raised 2 := ⟨plainFor_of_name (by decide +kernel), rfl, zi_code 1288 rfl, zi_init 11 (by decide +kernel), by decide +kernel⟩
def mMo_read : zMT := (10, ⟨"StyledRunsModel", "read", "()I"⟩, prog_14_method_56_code, 2, (some .int), 3, 67)
set_option maxRecDepth 100000 in
theorem okMo_read : zOk mMo_read 0 := ⟨plainFor_of_name (by decide +kernel), rfl, zi_code 1135 rfl, zi_init 11 (by decide +kernel), by decide +kernel⟩
def mMo_readLetter : zMT := (10, ⟨"StyledRunsModel", "readLetter", "(I)V"⟩, prog_14_method_55_code, 3, none, 2, 45)
set_option maxRecDepth 100000 in
theorem okMo_readLetter : zOk mMo_readLetter 1 := ⟨plainFor_of_name (by decide +kernel), rfl, zi_code 1154 rfl, zi_init 11 (by decide +kernel), by decide +kernel⟩
def mMo_readMark : zMT := (10, ⟨"StyledRunsModel", "readMark", "()V"⟩, prog_14_method_54_code, 5, none, 1, 25)
set_option maxRecDepth 100000 in
theorem okMo_readMark : zOk mMo_readMark 0 := ⟨plainFor_of_name (by decide +kernel), rfl, zi_code 1143 rfl, zi_init 11 (by decide +kernel), by decide +kernel⟩
def mMo_refuse : zMT := (10, ⟨"StyledRunsModel", "refuse", "(I)I"⟩, prog_14_method_5_code, 2, (some .int), 0, 0)
set_option maxRecDepth 100000 in
theorem okMo_refuse : zOk mMo_refuse 1 := ⟨plainFor_of_name (by decide +kernel), rfl, zi_code 956 rfl, zi_init 11 (by decide +kernel), by decide +kernel⟩
def mMo_remember : zMT := (10, ⟨"StyledRunsModel", "remember", "(I)V"⟩, prog_14_method_7_code, 3, none, 1, 24)
set_option maxRecDepth 100000 in
theorem okMo_remember : zOk mMo_remember 1 := ⟨plainFor_of_name (by decide +kernel), rfl, zi_code 1011 rfl, zi_init 11 (by decide +kernel), by decide +kernel⟩
def mMo_run : zMT := (10, ⟨"StyledRunsModel", "run", "(II)I"⟩, prog_14_method_70_code, 3, (some .int), 5, 114)
set_option maxRecDepth 100000 in
theorem okMo_run : zOk mMo_run 2 := ⟨plainFor_of_name (by decide +kernel), rfl, zi_code 1216 rfl, zi_init 11 (by decide +kernel), by decide +kernel⟩
def mMo_runsBy : zMT := (10, ⟨"StyledRunsModel", "runsBy", "(II)I"⟩, prog_14_method_86_code, 5, (some .int), 5, 114)
set_option maxRecDepth 100000 in
theorem okMo_runsBy : zOk mMo_runsBy 2 := ⟨plainFor_of_name (by decide +kernel), rfl, zi_code 1292 rfl, zi_init 11 (by decide +kernel), by decide +kernel⟩
def mMo_set : zMT := (10, ⟨"StyledRunsModel", "set", "(III)I"⟩, prog_14_method_39_code, 6, (some .int), 2, 46)
set_option maxRecDepth 100000 in
theorem okMo_set : zOk mMo_set 3 := ⟨plainFor_of_name (by decide +kernel), rfl, zi_code 1091 rfl, zi_init 11 (by decide +kernel), by decide +kernel⟩
def mMo_span : zMT := (10, ⟨"StyledRunsModel", "span", "(II)I"⟩, prog_14_method_75_code, 4, (some .int), 5, 114)
set_option maxRecDepth 100000 in
theorem okMo_span : zOk mMo_span 2 := ⟨plainFor_of_name (by decide +kernel), rfl, zi_code 1237 rfl, zi_init 11 (by decide +kernel), by decide +kernel⟩
def mMo_spanAt : zMT := (10, ⟨"StyledRunsModel", "spanAt", "(I)I"⟩, prog_14_method_13_code, 1, (some .int), 0, 0)
set_option maxRecDepth 100000 in
theorem okMo_spanAt : zOk mMo_spanAt 1 := ⟨plainFor_of_name (by decide +kernel), rfl, zi_code 1022 rfl, zi_init 11 (by decide +kernel), by decide +kernel⟩
def mMo_spans : zMT := (10, ⟨"StyledRunsModel", "spans", "()I"⟩, prog_14_method_37_code, 3, (some .int), 1, 20)
set_option maxRecDepth 100000 in
theorem okMo_spans : zOk mMo_spans 0 := ⟨plainFor_of_name (by decide +kernel), rfl, zi_code 1087 rfl, zi_init 11 (by decide +kernel), by decide +kernel⟩
def mMo_stack : zMT := (10, ⟨"StyledRunsModel", "stack", "(II)I"⟩, prog_14_method_71_code, 6, (some .int), 2, 46)
set_option maxRecDepth 100000 in
theorem okMo_stack : zOk mMo_stack 2 := ⟨plainFor_of_name (by decide +kernel), rfl, zi_code 1225 rfl, zi_init 11 (by decide +kernel), by decide +kernel⟩
def mMo_stands : zMT := (10, ⟨"StyledRunsModel", "stands", "(I)Z"⟩, prog_14_method_77_code, 4, (some .boolean), 1, 20)
set_option maxRecDepth 100000 in
theorem okMo_stands : zOk mMo_stands 1 := ⟨plainFor_of_name (by decide +kernel), rfl, zi_code 1255 rfl, zi_init 11 (by decide +kernel), by decide +kernel⟩
def mMo_status : zMT := (10, ⟨"StyledRunsModel", "status", "()I"⟩, prog_14_method_96_code, 1, (some .int), 0, 0)
set_option maxRecDepth 100000 in
theorem okMo_status : zOk mMo_status 0 := ⟨plainFor_of_name (by decide +kernel), rfl, zi_code 1328 rfl, zi_init 11 (by decide +kernel), by decide +kernel⟩
def mMo_stretch : zMT := (10, ⟨"StyledRunsModel", "stretch", "(III)I"⟩, prog_14_method_40_code, 4, (some .int), 3, 68)
set_option maxRecDepth 100000 in
theorem okMo_stretch : zOk mMo_stretch 3 := ⟨plainFor_of_name (by decide +kernel), rfl, zi_code 1095 rfl, zi_init 11 (by decide +kernel), by decide +kernel⟩
def mMo_style : zMT := (10, ⟨"StyledRunsModel", "style", "(II)I"⟩, prog_14_method_68_code, 4, (some .int), 4, 90)
set_option maxRecDepth 100000 in
theorem okMo_style : zOk mMo_style 2 := ⟨plainFor_of_name (by decide +kernel), rfl, zi_code 1206 rfl, zi_init 11 (by decide +kernel), by decide +kernel⟩
def mMo_styleOf : zMT := (10, ⟨"StyledRunsModel", "styleOf", "(II)I"⟩, prog_14_method_45_code, 3, (some .int), 3, 68)
set_option maxRecDepth 100000 in
theorem okMo_styleOf : zOk mMo_styleOf 2 := ⟨plainFor_of_name (by decide +kernel), rfl, zi_code 1212 rfl, zi_init 11 (by decide +kernel), by decide +kernel⟩
def mMo_styled : zMT := (10, ⟨"StyledRunsModel", "styled", "(IIIII)I"⟩, prog_14_method_81_code, 11, (some .int), 4, 92)
set_option maxRecDepth 100000 in
theorem okMo_styled : zOk mMo_styled 5 := ⟨plainFor_of_name (by decide +kernel), rfl, zi_code 1267 rfl, zi_init 11 (by decide +kernel), by decide +kernel⟩
def mMo_swap : zMT := (10, ⟨"StyledRunsModel", "swap", "(II)I"⟩, prog_14_method_32_code, 3, (some .int), 3, 68)
set_option maxRecDepth 100000 in
theorem okMo_swap : zOk mMo_swap 2 := ⟨plainFor_of_name (by decide +kernel), rfl, zi_code 1039 rfl, zi_init 11 (by decide +kernel), by decide +kernel⟩
def mMo_takeOut : zMT := (10, ⟨"StyledRunsModel", "takeOut", "(IIZ)V"⟩, prog_14_method_24_code, 6, none, 1, 22)
set_option maxRecDepth 100000 in
theorem okMo_takeOut : zOk mMo_takeOut 3 := ⟨plainFor_of_name (by decide +kernel), rfl, zi_code 1047 rfl, zi_init 11 (by decide +kernel), by decide +kernel⟩
def mMo_takePaint : zMT := (10, ⟨"StyledRunsModel", "takePaint", "(I)V"⟩, prog_14_method_41_code, 3, none, 1, 20)
set_option maxRecDepth 100000 in
theorem okMo_takePaint : zOk mMo_takePaint 1 := ⟨plainFor_of_name (by decide +kernel), rfl, zi_code 1103 rfl, zi_init 11 (by decide +kernel), by decide +kernel⟩
def mMo_takeStyle : zMT := (10, ⟨"StyledRunsModel", "takeStyle", "(II)V"⟩, prog_14_method_44_code, 6, none, 2, 43)
set_option maxRecDepth 100000 in
theorem okMo_takeStyle : zOk mMo_takeStyle 2 := ⟨plainFor_of_name (by decide +kernel), rfl, zi_code 1119 rfl, zi_init 11 (by decide +kernel), by decide +kernel⟩
def mMo_tape : zMT := (10, ⟨"StyledRunsModel", "tape", "(I)I"⟩, prog_14_method_28_code, 2, (some .int), 1, 25)
set_option maxRecDepth 100000 in
theorem okMo_tape : zOk mMo_tape 1 := ⟨plainFor_of_name (by decide +kernel), rfl, zi_code 990 rfl, zi_init 11 (by decide +kernel), by decide +kernel⟩
def mMo_tell : zMT := (10, ⟨"StyledRunsModel", "tell", "(I)I"⟩, prog_14_method_4_code, 2, (some .int), 0, 0)
set_option maxRecDepth 100000 in
theorem okMo_tell : zOk mMo_tell 1 := ⟨plainFor_of_name (by decide +kernel), rfl, zi_code 963 rfl, zi_init 11 (by decide +kernel), by decide +kernel⟩
def mMo_tells : zMT := (10, ⟨"StyledRunsModel", "tells", "(II)I"⟩, prog_14_method_73_code, 6, (some .int), 2, 46)
set_option maxRecDepth 100000 in
theorem okMo_tells : zOk mMo_tells 2 := ⟨plainFor_of_name (by decide +kernel), rfl, zi_code 1229 rfl, zi_init 11 (by decide +kernel), by decide +kernel⟩
def mMo_tellsOf : zMT := (10, ⟨"StyledRunsModel", "tellsOf", "(II)Z"⟩, prog_14_method_72_code, 4, (some .boolean), 1, 20)
set_option maxRecDepth 100000 in
theorem okMo_tellsOf : zOk mMo_tellsOf 2 := ⟨plainFor_of_name (by decide +kernel), rfl, zi_code 1233 rfl, zi_init 11 (by decide +kernel), by decide +kernel⟩
def mMo_through : zMT := (10, ⟨"StyledRunsModel", "through", "(III)I"⟩, prog_14_method_84_code, 6, (some .int), 2, 50)
set_option maxRecDepth 100000 in
theorem okMo_through : zOk mMo_through 3 := ⟨plainFor_of_name (by decide +kernel), rfl, zi_code 1276 rfl, zi_init 11 (by decide +kernel), by decide +kernel⟩
def mMo_type : zMT := (10, ⟨"StyledRunsModel", "type", "(I)I"⟩, prog_14_method_30_code, 2, (some .int), 3, 67)
set_option maxRecDepth 100000 in
theorem okMo_type : zOk mMo_type 1 := ⟨plainFor_of_name (by decide +kernel), rfl, zi_code 994 rfl, zi_init 11 (by decide +kernel), by decide +kernel⟩
def mMo_undo : zMT := (10, ⟨"StyledRunsModel", "undo", "()I"⟩, prog_14_method_9_code, 1, (some .int), 1, 24)
set_option maxRecDepth 100000 in
theorem okMo_undo : zOk mMo_undo 0 := ⟨plainFor_of_name (by decide +kernel), rfl, zi_code 952 rfl, zi_init 11 (by decide +kernel), by decide +kernel⟩
def mMo_unlike : zMT := (10, ⟨"StyledRunsModel", "unlike", "()I"⟩, prog_14_method_92_code, 5, (some .int), 4, 90)
set_option maxRecDepth 100000 in
theorem okMo_unlike : zOk mMo_unlike 0 := ⟨plainFor_of_name (by decide +kernel), rfl, zi_code 1320 rfl, zi_init 11 (by decide +kernel), by decide +kernel⟩
def mMo_unpin : zMT := (10, ⟨"StyledRunsModel", "unpin", "(I)I"⟩, prog_14_method_50_code, 2, (some .int), 2, 46)
set_option maxRecDepth 100000 in
theorem okMo_unpin : zOk mMo_unpin 1 := ⟨plainFor_of_name (by decide +kernel), rfl, zi_code 1131 rfl, zi_init 11 (by decide +kernel), by decide +kernel⟩
def mMo_write : zMT := (10, ⟨"StyledRunsModel", "write", "()I"⟩, prog_14_method_66_code, 2, (some .int), 5, 105)
set_option maxRecDepth 100000 in
theorem okMo_write : zOk mMo_write 0 := ⟨plainFor_of_name (by decide +kernel), rfl, zi_code 1162 rfl, zi_init 11 (by decide +kernel), by decide +kernel⟩
def mMo_writes : zMT := (10, ⟨"StyledRunsModel", "writes", "()V"⟩, prog_14_method_65_code, 2, none, 4, 84)
set_option maxRecDepth 100000 in
theorem okMo_writes : zOk mMo_writes 0 := ⟨plainFor_of_name (by decide +kernel), rfl, zi_code 1166 rfl, zi_init 11 (by decide +kernel), by decide +kernel⟩
def mMo_wrong : zMT := (10, ⟨"StyledRunsModel", "wrong", "(I)V"⟩, prog_14_method_52_code, 2, none, 0, 0)
set_option maxRecDepth 100000 in
theorem okMo_wrong : zOk mMo_wrong 1 := ⟨plainFor_of_name (by decide +kernel), rfl, zi_code 1150 rfl, zi_init 11 (by decide +kernel), by decide +kernel⟩
def mPla_afterComing : zMT := (11, ⟨"StyledRuns$Place", "afterComing", "(IIII)I"⟩, prog_6_method_2_code, 4, (some .int), 0, 0)
set_option maxRecDepth 100000 in
theorem okPla_afterComing : zOk mPla_afterComing 4 := ⟨plainFor_of_name (by decide +kernel), rfl, zi_code 403 rfl, zi_init 14 (by decide +kernel), by decide +kernel⟩
def mPla_afterGoing : zMT := (11, ⟨"StyledRuns$Place", "afterGoing", "(III)I"⟩, prog_6_method_3_code, 3, (some .int), 1, 21)
set_option maxRecDepth 100000 in
theorem okPla_afterGoing : zOk mPla_afterGoing 3 := ⟨plainFor_of_name (by decide +kernel), rfl, zi_code 428 rfl, zi_init 14 (by decide +kernel), by decide +kernel⟩
def mPla_afterMove : zMT := (11, ⟨"StyledRuns$Place", "afterMove", "(IIIII)I"⟩, prog_6_method_6_code, 5, (some .int), 3, 67)
set_option maxRecDepth 100000 in
theorem okPla_afterMove : zOk mPla_afterMove 5 := ⟨plainFor_of_name (by decide +kernel), rfl, zi_code 468 rfl, zi_init 14 (by decide +kernel), by decide +kernel⟩
def mPla_afterSwap : zMT := (11, ⟨"StyledRuns$Place", "afterSwap", "(IIIII)I"⟩, prog_6_method_7_code, 7, (some .int), 2, 43)
set_option maxRecDepth 100000 in
theorem okPla_afterSwap : zOk mPla_afterSwap 5 := ⟨plainFor_of_name (by decide +kernel), rfl, zi_code 780 rfl, zi_init 14 (by decide +kernel), by decide +kernel⟩
def mPla_landing : zMT := (11, ⟨"StyledRuns$Place", "landing", "(III)I"⟩, prog_6_method_4_code, 3, (some .int), 0, 0)
set_option maxRecDepth 100000 in
theorem okPla_landing : zOk mPla_landing 3 := ⟨plainFor_of_name (by decide +kernel), rfl, zi_code 459 rfl, zi_init 14 (by decide +kernel), by decide +kernel⟩
def mPla_leftByMove : zMT := (11, ⟨"StyledRuns$Place", "leftByMove", "(IIIII)I"⟩, prog_6_method_5_code, 5, (some .int), 2, 43)
set_option maxRecDepth 100000 in
theorem okPla_leftByMove : zOk mPla_leftByMove 5 := ⟨plainFor_of_name (by decide +kernel), rfl, zi_code 462 rfl, zi_init 14 (by decide +kernel), by decide +kernel⟩
def mSty_brushed : zMT := (12, ⟨"StyledRuns$Style", "brushed", "(IIIII)I"⟩, prog_10_method_6_code, 8, (some .int), 1, 22)
set_option maxRecDepth 100000 in
theorem okSty_brushed : zOk mSty_brushed 5 := ⟨plainFor_of_name (by decide +kernel), rfl, zi_code 509 rfl, zi_init 15 (by decide +kernel), by decide +kernel⟩
def mSty_colorOf : zMT := (12, ⟨"StyledRuns$Style", "colorOf", "(I)I"⟩, prog_10_method_4_code, 1, (some .int), 0, 0)
set_option maxRecDepth 100000 in
theorem okSty_colorOf : zOk mSty_colorOf 1 := ⟨plainFor_of_name (by decide +kernel), rfl, zi_code 515 rfl, zi_init 15 (by decide +kernel), by decide +kernel⟩
def mSty_flagsOf : zMT := (12, ⟨"StyledRuns$Style", "flagsOf", "(I)I"⟩, prog_10_method_3_code, 1, (some .int), 0, 0)
set_option maxRecDepth 100000 in
theorem okSty_flagsOf : zOk mSty_flagsOf 1 := ⟨plainFor_of_name (by decide +kernel), rfl, zi_code 512 rfl, zi_init 15 (by decide +kernel), by decide +kernel⟩
def mSty_markValue : zMT := (12, ⟨"StyledRuns$Style", "markValue", "(II)I"⟩, prog_10_method_8_code, 2, (some .int), 1, 20)
set_option maxRecDepth 100000 in
theorem okSty_markValue : zOk mSty_markValue 2 := ⟨plainFor_of_name (by decide +kernel), rfl, zi_code 618 rfl, zi_init 15 (by decide +kernel), by decide +kernel⟩
def mSty_marked : zMT := (12, ⟨"StyledRuns$Style", "marked", "(III)I"⟩, prog_10_method_7_code, 3, (some .int), 1, 22)
set_option maxRecDepth 100000 in
theorem okSty_marked : zOk mSty_marked 3 := ⟨plainFor_of_name (by decide +kernel), rfl, zi_code 586 rfl, zi_init 15 (by decide +kernel), by decide +kernel⟩
def mSty_of : zMT := (12, ⟨"StyledRuns$Style", "of", "(III)I"⟩, prog_10_method_2_code, 3, (some .int), 0, 0)
set_option maxRecDepth 100000 in
theorem okSty_of : zOk mSty_of 3 := ⟨plainFor_of_name (by decide +kernel), rfl, zi_code 525 rfl, zi_init 15 (by decide +kernel), by decide +kernel⟩
def mSty_sizeOf : zMT := (12, ⟨"StyledRuns$Style", "sizeOf", "(I)I"⟩, prog_10_method_5_code, 1, (some .int), 0, 0)
set_option maxRecDepth 100000 in
theorem okSty_sizeOf : zOk mSty_sizeOf 1 := ⟨plainFor_of_name (by decide +kernel), rfl, zi_code 518 rfl, zi_init 15 (by decide +kernel), by decide +kernel⟩
def mSty_suits : zMT := (12, ⟨"StyledRuns$Style", "suits", "(IIII)Z"⟩, prog_10_method_9_code, 5, (some .boolean), 1, 20)
set_option maxRecDepth 100000 in
theorem okSty_suits : zOk mSty_suits 4 := ⟨plainFor_of_name (by decide +kernel), rfl, zi_code 744 rfl, zi_init 15 (by decide +kernel), by decide +kernel⟩
def mLaw_law : zMT := (13, ⟨"StyledRunsLaw", "law", "([I)Z"⟩, code, 4, (some .boolean), 7, 179)
def mMa_floorMod : zMT := (14, ⟨"java/lang/Math", "floorMod", "(II)I"⟩, prog_15_method_50_code, 3, (some .int), 0, 0)
set_option maxRecDepth 100000 in
theorem okMa_floorMod : zOk mMa_floorMod 2 := ⟨by decide +kernel, rfl, zi_code 655 rfl, zi_init 13 (by decide +kernel), by decide +kernel⟩
def mMa_max : zMT := (14, ⟨"java/lang/Math", "max", "(II)I"⟩, prog_15_method_65_code, 2, (some .int), 0, 0)
set_option maxRecDepth 100000 in
theorem okMa_max : zOk mMa_max 2 := ⟨by decide +kernel, rfl, zi_code 522 rfl, zi_init 13 (by decide +kernel), by decide +kernel⟩
def mMa_min : zMT := (14, ⟨"java/lang/Math", "min", "(II)I"⟩, prog_15_method_69_code, 2, (some .int), 0, 0)
set_option maxRecDepth 100000 in
theorem okMa_min : zOk mMa_min 2 := ⟨by decide +kernel, rfl, zi_code 391 rfl, zi_init 13 (by decide +kernel), by decide +kernel⟩
theorem lk9_9 : Cond.methodLink (zON 9) 9 mShe_init.2.1 ∈ zTbl ∧ Cond.instanceMethod mShe_init.2.1 ∈ zTbl := ⟨zi_ml 26 (by decide +kernel), zi_im 27 (by decide +kernel)⟩
theorem lk9_18 : Cond.methodLinkNest (zON 9) 18 mTap_init.2.1 "StyledRuns" ∈ zNs ∧ Cond.instanceMethod mTap_init.2.1 ∈ zTbl := ⟨by decide +kernel, zi_im 150 (by decide +kernel)⟩
theorem lk9_25 : Cond.methodLink (zON 9) 25 mHis_init.2.1 ∈ zTbl ∧ Cond.instanceMethod mHis_init.2.1 ∈ zTbl := ⟨zi_ml 167 (by decide +kernel), zi_im 168 (by decide +kernel)⟩
theorem lk9_40 : Cond.methodLinkNest (zON 9) 40 mLoo_init.2.1 "StyledRuns" ∈ zNs ∧ Cond.instanceMethod mLoo_init.2.1 ∈ zTbl := ⟨by decide +kernel, zi_im 212 (by decide +kernel)⟩
theorem lk9_50 : Cond.methodLinkNest (zON 9) 50 mRea_init.2.1 "StyledRuns" ∈ zNs ∧ Cond.instanceMethod mRea_init.2.1 ∈ zTbl := ⟨by decide +kernel, zi_im 228 (by decide +kernel)⟩
theorem lk9_57 : Cond.methodLinkNest (zON 9) 57 mWri_init.2.1 "StyledRuns" ∈ zNs ∧ Cond.instanceMethod mWri_init.2.1 ∈ zTbl := ⟨by decide +kernel, zi_im 260 (by decide +kernel)⟩
theorem lk9_77 : Cond.methodLink (zON 9) 77 mTap_addFour.2.1 ∈ zTbl ∧ Cond.instanceMethod mTap_addFour.2.1 ∈ zTbl ∧ Cond.selects mTap_addFour.2.1.cls mTap_addFour.2.1 mTap_addFour.2.1 ∈ zTbl := ⟨zi_ml 323 (by decide +kernel), zi_im 324 (by decide +kernel), zi_se 325 (by decide +kernel)⟩
theorem lk9_81 : Cond.methodLink (zON 9) 81 mTap_at.2.1 ∈ zTbl ∧ Cond.instanceMethod mTap_at.2.1 ∈ zTbl ∧ Cond.selects mTap_at.2.1.cls mTap_at.2.1 mTap_at.2.1 ∈ zTbl := ⟨zi_ml 335 (by decide +kernel), zi_im 336 (by decide +kernel), zi_se 337 (by decide +kernel)⟩
theorem lk9_85 : Cond.methodLink (zON 9) 85 mShe_hasPlace.2.1 ∈ zTbl ∧ Cond.instanceMethod mShe_hasPlace.2.1 ∈ zTbl ∧ Cond.selects mShe_hasPlace.2.1.cls mShe_hasPlace.2.1 mShe_hasPlace.2.1 ∈ zTbl := ⟨zi_ml 343 (by decide +kernel), zi_im 344 (by decide +kernel), zi_se 345 (by decide +kernel)⟩
theorem lk9_89 : Cond.methodLink (zON 9) 89 mTap_areLetters.2.1 ∈ zTbl ∧ Cond.instanceMethod mTap_areLetters.2.1 ∈ zTbl ∧ Cond.selects mTap_areLetters.2.1.cls mTap_areLetters.2.1 mTap_areLetters.2.1 ∈ zTbl := ⟨zi_ml 347 (by decide +kernel), zi_im 348 (by decide +kernel), zi_se 349 (by decide +kernel)⟩
theorem lk9_93 : Cond.methodLink (zON 9) 93 mSR_refused.2.1 ∈ zTbl ∧ Cond.instanceMethod mSR_refused.2.1 ∈ zTbl ∧ Cond.selects mSR_refused.2.1.cls mSR_refused.2.1 mSR_refused.2.1 ∈ zTbl := ⟨zi_ml 354 (by decide +kernel), zi_im 356 (by decide +kernel), zi_sp 0 (by decide +kernel)⟩
theorem lk9_96 : Cond.methodLink (zON 9) 96 mSR_whyNoRoomForTape.2.1 ∈ zTbl ∧ Cond.instanceMethod mSR_whyNoRoomForTape.2.1 ∈ zTbl ∧ Cond.selects mSR_whyNoRoomForTape.2.1.cls mSR_whyNoRoomForTape.2.1 mSR_whyNoRoomForTape.2.1 ∈ zTbl := ⟨zi_ml 358 (by decide +kernel), zi_im 360 (by decide +kernel), zi_sp 1 (by decide +kernel)⟩
theorem lk9_100 : Cond.methodLink (zON 9) 100 mSR_begin.2.1 ∈ zTbl ∧ Cond.instanceMethod mSR_begin.2.1 ∈ zTbl ∧ Cond.selects mSR_begin.2.1.cls mSR_begin.2.1 mSR_begin.2.1 ∈ zTbl := ⟨zi_ml 362 (by decide +kernel), zi_im 364 (by decide +kernel), zi_sp 2 (by decide +kernel)⟩
theorem lk9_104 : Cond.methodLink (zON 9) 104 mShe_put.2.1 ∈ zTbl ∧ Cond.instanceMethod mShe_put.2.1 ∈ zTbl ∧ Cond.selects mShe_put.2.1.cls mShe_put.2.1 mShe_put.2.1 ∈ zTbl := ⟨zi_ml 392 (by decide +kernel), zi_im 393 (by decide +kernel), zi_se 394 (by decide +kernel)⟩
theorem lk9_111 : Cond.methodLink (zON 9) 111 mSR_granted.2.1 ∈ zTbl ∧ Cond.instanceMethod mSR_granted.2.1 ∈ zTbl ∧ Cond.selects mSR_granted.2.1.cls mSR_granted.2.1 mSR_granted.2.1 ∈ zTbl := ⟨zi_ml 405 (by decide +kernel), zi_im 407 (by decide +kernel), zi_sp 3 (by decide +kernel)⟩
theorem lk9_114 : Cond.methodLink (zON 9) 114 mShe_isRange.2.1 ∈ zTbl ∧ Cond.instanceMethod mShe_isRange.2.1 ∈ zTbl ∧ Cond.selects mShe_isRange.2.1.cls mShe_isRange.2.1 mShe_isRange.2.1 ∈ zTbl := ⟨zi_ml 413 (by decide +kernel), zi_im 414 (by decide +kernel), zi_se 415 (by decide +kernel)⟩
theorem lk9_118 : Cond.methodLink (zON 9) 118 mShe_lettersGo.2.1 ∈ zTbl ∧ Cond.instanceMethod mShe_lettersGo.2.1 ∈ zTbl ∧ Cond.selects mShe_lettersGo.2.1.cls mShe_lettersGo.2.1 mShe_lettersGo.2.1 ∈ zTbl := ⟨zi_ml 417 (by decide +kernel), zi_im 418 (by decide +kernel), zi_se 419 (by decide +kernel)⟩
theorem lk9_122 : Cond.methodLink (zON 9) 122 mShe_lettersMove.2.1 ∈ zTbl ∧ Cond.instanceMethod mShe_lettersMove.2.1 ∈ zTbl ∧ Cond.selects mShe_lettersMove.2.1.cls mShe_lettersMove.2.1 mShe_lettersMove.2.1 ∈ zTbl := ⟨zi_ml 443 (by decide +kernel), zi_im 444 (by decide +kernel), zi_se 445 (by decide +kernel)⟩
theorem lk9_126 : Cond.methodLink (zON 9) 126 mSR_isWithin.2.1 ∈ zTbl ∧ Cond.static mSR_isWithin.2.1 ∈ zTbl := ⟨zi_ml 474 (by decide +kernel), zi_st 475 (by decide +kernel)⟩
theorem lk9_129 : Cond.methodLink (zON 9) 129 mSR_isBrush.2.1 ∈ zTbl ∧ Cond.static mSR_isBrush.2.1 ∈ zTbl := ⟨zi_ml 477 (by decide +kernel), zi_st 478 (by decide +kernel)⟩
theorem lk9_169 : Cond.methodLink (zON 9) 169 mShe_hasSpan.2.1 ∈ zTbl ∧ Cond.instanceMethod mShe_hasSpan.2.1 ∈ zTbl ∧ Cond.selects mShe_hasSpan.2.1.cls mShe_hasSpan.2.1 mShe_hasSpan.2.1 ∈ zTbl := ⟨zi_ml 487 (by decide +kernel), zi_im 488 (by decide +kernel), zi_se 489 (by decide +kernel)⟩
theorem lk9_172 : Cond.methodLink (zON 9) 172 mShe_standingSpans.2.1 ∈ zTbl ∧ Cond.instanceMethod mShe_standingSpans.2.1 ∈ zTbl ∧ Cond.selects mShe_standingSpans.2.1.cls mShe_standingSpans.2.1 mShe_standingSpans.2.1 ∈ zTbl := ⟨zi_ml 491 (by decide +kernel), zi_im 492 (by decide +kernel), zi_se 493 (by decide +kernel)⟩
theorem lk9_178 : Cond.methodLink (zON 9) 178 mSty_brushed.2.1 ∈ zTbl ∧ Cond.static mSty_brushed.2.1 ∈ zTbl := ⟨zi_ml 507 (by decide +kernel), zi_st 508 (by decide +kernel)⟩
theorem lk9_184 : Cond.methodLink (zON 9) 184 mSR_looksNow.2.1 ∈ zTbl ∧ Cond.instanceMethod mSR_looksNow.2.1 ∈ zTbl ∧ Cond.selects mSR_looksNow.2.1.cls mSR_looksNow.2.1 mSR_looksNow.2.1 ∈ zTbl := ⟨zi_ml 530 (by decide +kernel), zi_im 532 (by decide +kernel), zi_sp 4 (by decide +kernel)⟩
theorem lk9_210 : Cond.methodLink (zON 9) 210 mShe_hasAnchor.2.1 ∈ zTbl ∧ Cond.instanceMethod mShe_hasAnchor.2.1 ∈ zTbl ∧ Cond.selects mShe_hasAnchor.2.1.cls mShe_hasAnchor.2.1 mShe_hasAnchor.2.1 ∈ zTbl := ⟨zi_ml 554 (by decide +kernel), zi_im 555 (by decide +kernel), zi_se 556 (by decide +kernel)⟩
theorem lk9_213 : Cond.methodLink (zON 9) 213 mRea_parse.2.1 ∈ zTbl ∧ Cond.instanceMethod mRea_parse.2.1 ∈ zTbl ∧ Cond.selects mRea_parse.2.1.cls mRea_parse.2.1 mRea_parse.2.1 ∈ zTbl := ⟨zi_ml 562 (by decide +kernel), zi_im 563 (by decide +kernel), zi_se 564 (by decide +kernel)⟩
theorem lk9_220 : Cond.methodLink (zON 9) 220 mShe_startAnew.2.1 ∈ zTbl ∧ Cond.instanceMethod mShe_startAnew.2.1 ∈ zTbl ∧ Cond.selects mShe_startAnew.2.1.cls mShe_startAnew.2.1 mShe_startAnew.2.1 ∈ zTbl := ⟨zi_ml 592 (by decide +kernel), zi_im 593 (by decide +kernel), zi_se 594 (by decide +kernel)⟩
theorem lk9_224 : Cond.methodLink (zON 9) 224 mWri_compose.2.1 ∈ zTbl ∧ Cond.instanceMethod mWri_compose.2.1 ∈ zTbl ∧ Cond.selects mWri_compose.2.1.cls mWri_compose.2.1 mWri_compose.2.1 ∈ zTbl := ⟨zi_ml 604 (by decide +kernel), zi_im 605 (by decide +kernel), zi_se 606 (by decide +kernel)⟩
theorem lk9_231 : Cond.methodLink (zON 9) 231 mTap_become.2.1 ∈ zTbl ∧ Cond.instanceMethod mTap_become.2.1 ∈ zTbl ∧ Cond.selects mTap_become.2.1.cls mTap_become.2.1 mTap_become.2.1 ∈ zTbl := ⟨zi_ml 635 (by decide +kernel), zi_im 636 (by decide +kernel), zi_se 637 (by decide +kernel)⟩
theorem lk9_238 : Cond.methodLink (zON 9) 238 mHis_takeBack.2.1 ∈ zTbl ∧ Cond.instanceMethod mHis_takeBack.2.1 ∈ zTbl ∧ Cond.selects mHis_takeBack.2.1.cls mHis_takeBack.2.1 mHis_takeBack.2.1 ∈ zTbl := ⟨zi_ml 645 (by decide +kernel), zi_im 646 (by decide +kernel), zi_se 647 (by decide +kernel)⟩
theorem lk9_242 : Cond.methodLink (zON 9) 242 mShe_become.2.1 ∈ zTbl ∧ Cond.instanceMethod mShe_become.2.1 ∈ zTbl ∧ Cond.selects mShe_become.2.1.cls mShe_become.2.1 mShe_become.2.1 ∈ zTbl := ⟨zi_ml 660 (by decide +kernel), zi_im 371 (by decide +kernel), zi_se 372 (by decide +kernel)⟩
theorem lk9_245 : Cond.methodLink (zON 9) 245 mShe_hasLetter.2.1 ∈ zTbl ∧ Cond.instanceMethod mShe_hasLetter.2.1 ∈ zTbl ∧ Cond.selects mShe_hasLetter.2.1.cls mShe_hasLetter.2.1 mShe_hasLetter.2.1 ∈ zTbl := ⟨zi_ml 669 (by decide +kernel), zi_im 670 (by decide +kernel), zi_se 671 (by decide +kernel)⟩
theorem lk9_251 : Cond.methodLink (zON 9) 251 mSty_flagsOf.2.1 ∈ zTbl ∧ Cond.static mSty_flagsOf.2.1 ∈ zTbl := ⟨zi_ml 677 (by decide +kernel), zi_st 511 (by decide +kernel)⟩
theorem lk9_254 : Cond.methodLink (zON 9) 254 mSty_colorOf.2.1 ∈ zTbl ∧ Cond.static mSty_colorOf.2.1 ∈ zTbl := ⟨zi_ml 678 (by decide +kernel), zi_st 514 (by decide +kernel)⟩
theorem lk9_257 : Cond.methodLink (zON 9) 257 mSty_sizeOf.2.1 ∈ zTbl ∧ Cond.static mSty_sizeOf.2.1 ∈ zTbl := ⟨zi_ml 679 (by decide +kernel), zi_st 517 (by decide +kernel)⟩
theorem lk9_260 : Cond.methodLink (zON 9) 260 mLoo_firstOfRun.2.1 ∈ zTbl ∧ Cond.instanceMethod mLoo_firstOfRun.2.1 ∈ zTbl ∧ Cond.selects mLoo_firstOfRun.2.1.cls mLoo_firstOfRun.2.1 mLoo_firstOfRun.2.1 ∈ zTbl := ⟨zi_ml 684 (by decide +kernel), zi_im 685 (by decide +kernel), zi_se 686 (by decide +kernel)⟩
theorem lk9_263 : Cond.methodLink (zON 9) 263 mLoo_endOfRun.2.1 ∈ zTbl ∧ Cond.instanceMethod mLoo_endOfRun.2.1 ∈ zTbl ∧ Cond.selects mLoo_endOfRun.2.1.cls mLoo_endOfRun.2.1 mLoo_endOfRun.2.1 ∈ zTbl := ⟨zi_ml 689 (by decide +kernel), zi_im 690 (by decide +kernel), zi_se 691 (by decide +kernel)⟩
theorem lk9_266 : Cond.methodLink (zON 9) 266 mSpa_liesOver.2.1 ∈ zTbl ∧ Cond.instanceMethod mSpa_liesOver.2.1 ∈ zTbl ∧ Cond.selects mSpa_liesOver.2.1.cls mSpa_liesOver.2.1 mSpa_liesOver.2.1 ∈ zTbl := ⟨zi_ml 697 (by decide +kernel), zi_im 698 (by decide +kernel), zi_se 699 (by decide +kernel)⟩
theorem lk9_269 : Cond.methodLink (zON 9) 269 mSpa_speaksOf.2.1 ∈ zTbl ∧ Cond.instanceMethod mSpa_speaksOf.2.1 ∈ zTbl ∧ Cond.selects mSpa_speaksOf.2.1.cls mSpa_speaksOf.2.1 mSpa_speaksOf.2.1 ∈ zTbl := ⟨zi_ml 705 (by decide +kernel), zi_im 706 (by decide +kernel), zi_se 707 (by decide +kernel)⟩
theorem lk9_275 : Cond.methodLink (zON 9) 275 mSR_isIdle.2.1 ∈ zTbl ∧ Cond.instanceMethod mSR_isIdle.2.1 ∈ zTbl ∧ Cond.selects mSR_isIdle.2.1.cls mSR_isIdle.2.1 mSR_isIdle.2.1 ∈ zTbl := ⟨zi_ml 714 (by decide +kernel), zi_im 716 (by decide +kernel), zi_sp 16 (by decide +kernel)⟩
theorem lk9_278 : Cond.methodLink (zON 9) 278 mSR_runsWithout.2.1 ∈ zTbl ∧ Cond.instanceMethod mSR_runsWithout.2.1 ∈ zTbl ∧ Cond.selects mSR_runsWithout.2.1.cls mSR_runsWithout.2.1 mSR_runsWithout.2.1 ∈ zTbl := ⟨zi_ml 722 (by decide +kernel), zi_im 724 (by decide +kernel), zi_sp 17 (by decide +kernel)⟩
theorem lk9_281 : Cond.methodLink (zON 9) 281 mSR_firstStand.2.1 ∈ zTbl ∧ Cond.instanceMethod mSR_firstStand.2.1 ∈ zTbl ∧ Cond.selects mSR_firstStand.2.1.cls mSR_firstStand.2.1 mSR_firstStand.2.1 ∈ zTbl := ⟨zi_ml 738 (by decide +kernel), zi_im 740 (by decide +kernel), zi_sp 18 (by decide +kernel)⟩
theorem lk9_285 : Cond.methodLink (zON 9) 285 mSR_isFilter.2.1 ∈ zTbl ∧ Cond.static mSR_isFilter.2.1 ∈ zTbl := ⟨zi_ml 749 (by decide +kernel), zi_st 750 (by decide +kernel)⟩
theorem lk9_289 : Cond.methodLink (zON 9) 289 mSty_suits.2.1 ∈ zTbl ∧ Cond.static mSty_suits.2.1 ∈ zTbl := ⟨zi_ml 742 (by decide +kernel), zi_st 743 (by decide +kernel)⟩
theorem lk9_292 : Cond.methodLink (zON 9) 292 mPla_afterComing.2.1 ∈ zTbl ∧ Cond.static mPla_afterComing.2.1 ∈ zTbl := ⟨zi_ml 760 (by decide +kernel), zi_st 402 (by decide +kernel)⟩
theorem lk9_298 : Cond.methodLink (zON 9) 298 mPla_afterGoing.2.1 ∈ zTbl ∧ Cond.static mPla_afterGoing.2.1 ∈ zTbl := ⟨zi_ml 761 (by decide +kernel), zi_st 427 (by decide +kernel)⟩
theorem lk9_301 : Cond.methodLink (zON 9) 301 mHis_placeThrough.2.1 ∈ zTbl ∧ Cond.instanceMethod mHis_placeThrough.2.1 ∈ zTbl ∧ Cond.selects mHis_placeThrough.2.1.cls mHis_placeThrough.2.1 mHis_placeThrough.2.1 ∈ zTbl := ⟨zi_ml 766 (by decide +kernel), zi_im 767 (by decide +kernel), zi_se 768 (by decide +kernel)⟩
theorem lk9_304 : Cond.methodLink (zON 9) 304 mSR_runsIfRaised.2.1 ∈ zTbl ∧ Cond.instanceMethod mSR_runsIfRaised.2.1 ∈ zTbl ∧ Cond.selects mSR_runsIfRaised.2.1.cls mSR_runsIfRaised.2.1 mSR_runsIfRaised.2.1 ∈ zTbl := ⟨zi_ml 789 (by decide +kernel), zi_im 791 (by decide +kernel), zi_sp 19 (by decide +kernel)⟩
theorem lk9_308 : Cond.methodLink (zON 9) 308 mSpa_crosses.2.1 ∈ zTbl ∧ Cond.instanceMethod mSpa_crosses.2.1 ∈ zTbl ∧ Cond.selects mSpa_crosses.2.1.cls mSpa_crosses.2.1 mSpa_crosses.2.1 ∈ zTbl := ⟨zi_ml 801 (by decide +kernel), zi_im 802 (by decide +kernel), zi_se 803 (by decide +kernel)⟩
theorem lk9_312 : Cond.methodLink (zON 9) 312 mLoo_howManyRuns.2.1 ∈ zTbl ∧ Cond.instanceMethod mLoo_howManyRuns.2.1 ∈ zTbl ∧ Cond.selects mLoo_howManyRuns.2.1.cls mLoo_howManyRuns.2.1 mLoo_howManyRuns.2.1 ∈ zTbl := ⟨zi_ml 726 (by decide +kernel), zi_im 727 (by decide +kernel), zi_se 728 (by decide +kernel)⟩
theorem lk9_315 : Cond.methodLink (zON 9) 315 mShe_standingAnchors.2.1 ∈ zTbl ∧ Cond.instanceMethod mShe_standingAnchors.2.1 ∈ zTbl ∧ Cond.selects mShe_standingAnchors.2.1.cls mShe_standingAnchors.2.1 mShe_standingAnchors.2.1 ∈ zTbl := ⟨zi_ml 813 (by decide +kernel), zi_im 814 (by decide +kernel), zi_se 815 (by decide +kernel)⟩
theorem lk9_318 : Cond.methodLink (zON 9) 318 mLoo_longestLength.2.1 ∈ zTbl ∧ Cond.instanceMethod mLoo_longestLength.2.1 ∈ zTbl ∧ Cond.selects mLoo_longestLength.2.1.cls mLoo_longestLength.2.1 mLoo_longestLength.2.1 ∈ zTbl := ⟨zi_ml 817 (by decide +kernel), zi_im 818 (by decide +kernel), zi_se 819 (by decide +kernel)⟩
theorem lk9_321 : Cond.methodLink (zON 9) 321 mLoo_longestRun.2.1 ∈ zTbl ∧ Cond.instanceMethod mLoo_longestRun.2.1 ∈ zTbl ∧ Cond.selects mLoo_longestRun.2.1.cls mLoo_longestRun.2.1 mLoo_longestRun.2.1 ∈ zTbl := ⟨zi_ml 821 (by decide +kernel), zi_im 822 (by decide +kernel), zi_se 823 (by decide +kernel)⟩
theorem lk9_324 : Cond.methodLink (zON 9) 324 mLoo_unlikeStyles.2.1 ∈ zTbl ∧ Cond.instanceMethod mLoo_unlikeStyles.2.1 ∈ zTbl ∧ Cond.selects mLoo_unlikeStyles.2.1.cls mLoo_unlikeStyles.2.1 mLoo_unlikeStyles.2.1 ∈ zTbl := ⟨zi_ml 826 (by decide +kernel), zi_im 827 (by decide +kernel), zi_se 828 (by decide +kernel)⟩
theorem lk9_327 : Cond.methodLink (zON 9) 327 mShe_mostSpansOverLetter.2.1 ∈ zTbl ∧ Cond.instanceMethod mShe_mostSpansOverLetter.2.1 ∈ zTbl ∧ Cond.selects mShe_mostSpansOverLetter.2.1.cls mShe_mostSpansOverLetter.2.1 mShe_mostSpansOverLetter.2.1 ∈ zTbl := ⟨zi_ml 834 (by decide +kernel), zi_im 835 (by decide +kernel), zi_se 836 (by decide +kernel)⟩
theorem lk9_330 : Cond.methodLink (zON 9) 330 mShe_lostOfAll.2.1 ∈ zTbl ∧ Cond.instanceMethod mShe_lostOfAll.2.1 ∈ zTbl ∧ Cond.selects mShe_lostOfAll.2.1.cls mShe_lostOfAll.2.1 mShe_lostOfAll.2.1 ∈ zTbl := ⟨zi_ml 840 (by decide +kernel), zi_im 841 (by decide +kernel), zi_se 842 (by decide +kernel)⟩
theorem lk9_333 : Cond.methodLink (zON 9) 333 mHis_keep.2.1 ∈ zTbl ∧ Cond.instanceMethod mHis_keep.2.1 ∈ zTbl ∧ Cond.selects mHis_keep.2.1.cls mHis_keep.2.1 mHis_keep.2.1 ∈ zTbl := ⟨zi_ml 366 (by decide +kernel), zi_im 367 (by decide +kernel), zi_se 368 (by decide +kernel)⟩
theorem lk9_337 : Cond.methodLink (zON 9) 337 mLoo_see.2.1 ∈ zTbl ∧ Cond.instanceMethod mLoo_see.2.1 ∈ zTbl ∧ Cond.selects mLoo_see.2.1.cls mLoo_see.2.1 mLoo_see.2.1 ∈ zTbl := ⟨zi_ml 534 (by decide +kernel), zi_im 535 (by decide +kernel), zi_se 536 (by decide +kernel)⟩
theorem lk9_341 : Cond.methodLink (zON 9) 341 mSR_isColorOrNone.2.1 ∈ zTbl ∧ Cond.static mSR_isColorOrNone.2.1 ∈ zTbl := ⟨zi_ml 480 (by decide +kernel), zi_st 481 (by decide +kernel)⟩
theorem lk9_344 : Cond.methodLink (zON 9) 344 mLoo_isLike.2.1 ∈ zTbl ∧ Cond.instanceMethod mLoo_isLike.2.1 ∈ zTbl ∧ Cond.selects mLoo_isLike.2.1.cls mLoo_isLike.2.1 mLoo_isLike.2.1 ∈ zTbl := ⟨zi_ml 718 (by decide +kernel), zi_im 719 (by decide +kernel), zi_se 720 (by decide +kernel)⟩
theorem lk0_24 : Cond.methodLink (zON 0) 24 mPla_afterComing.2.1 ∈ zTbl ∧ Cond.static mPla_afterComing.2.1 ∈ zTbl := ⟨zi_ml 775 (by decide +kernel), zi_st 402 (by decide +kernel)⟩
theorem lk0_30 : Cond.methodLink (zON 0) 30 mPla_afterGoing.2.1 ∈ zTbl ∧ Cond.static mPla_afterGoing.2.1 ∈ zTbl := ⟨zi_ml 776 (by decide +kernel), zi_st 427 (by decide +kernel)⟩
theorem lk0_34 : Cond.methodLink (zON 0) 34 mPla_afterMove.2.1 ∈ zTbl ∧ Cond.static mPla_afterMove.2.1 ∈ zTbl := ⟨zi_ml 777 (by decide +kernel), zi_st 467 (by decide +kernel)⟩
theorem lk0_38 : Cond.methodLink (zON 0) 38 mPla_afterSwap.2.1 ∈ zTbl ∧ Cond.static mPla_afterSwap.2.1 ∈ zTbl := ⟨zi_ml 778 (by decide +kernel), zi_st 779 (by decide +kernel)⟩
theorem lk1_23 : Cond.methodLink (zON 1) 23 mPla_afterGoing.2.1 ∈ zTbl ∧ Cond.static mPla_afterGoing.2.1 ∈ zTbl := ⟨zi_ml 434 (by decide +kernel), zi_st 427 (by decide +kernel)⟩
theorem lk2_30 : Cond.methodLink (zON 2) 30 mShe_init.2.1 ∈ zTbl ∧ Cond.instanceMethod mShe_init.2.1 ∈ zTbl := ⟨zi_ml 175 (by decide +kernel), zi_im 27 (by decide +kernel)⟩
theorem lk2_31 : Cond.methodLinkNest (zON 2) 31 mAct_init.2.1 "StyledRuns" ∈ zNs ∧ Cond.instanceMethod mAct_init.2.1 ∈ zTbl := ⟨by decide +kernel, zi_im 178 (by decide +kernel)⟩
theorem lk2_32 : Cond.methodLink (zON 2) 32 mShe_become.2.1 ∈ zTbl ∧ Cond.instanceMethod mShe_become.2.1 ∈ zTbl ∧ Cond.selects mShe_become.2.1.cls mShe_become.2.1 mShe_become.2.1 ∈ zTbl := ⟨zi_ml 370 (by decide +kernel), zi_im 371 (by decide +kernel), zi_se 372 (by decide +kernel)⟩
theorem lk2_36 : Cond.methodLink (zON 2) 36 mAct_become.2.1 ∈ zTbl ∧ Cond.instanceMethod mAct_become.2.1 ∈ zTbl ∧ Cond.selects mAct_become.2.1.cls mAct_become.2.1 mAct_become.2.1 ∈ zTbl := ⟨zi_ml 385 (by decide +kernel), zi_im 386 (by decide +kernel), zi_se 387 (by decide +kernel)⟩
theorem lk2_39 : Cond.methodLink (zON 2) 39 mMa_min.2.1 ∈ zTbl ∧ Cond.static mMa_min.2.1 ∈ zTbl := ⟨zi_ml 389 (by decide +kernel), zi_st 390 (by decide +kernel)⟩
theorem lk2_45 : Cond.methodLink (zON 2) 45 mHis_latest.2.1 ∈ zTbl ∧ Cond.instanceMethod mHis_latest.2.1 ∈ zTbl ∧ Cond.selects mHis_latest.2.1.cls mHis_latest.2.1 mHis_latest.2.1 ∈ zTbl := ⟨zi_ml 649 (by decide +kernel), zi_im 651 (by decide +kernel), zi_sp 15 (by decide +kernel)⟩
theorem lk2_52 : Cond.methodLink (zON 2) 52 mMa_floorMod.2.1 ∈ zTbl ∧ Cond.static mMa_floorMod.2.1 ∈ zTbl := ⟨zi_ml 653 (by decide +kernel), zi_st 654 (by decide +kernel)⟩
theorem lk2_55 : Cond.methodLink (zON 2) 55 mShe_hasPlace.2.1 ∈ zTbl ∧ Cond.instanceMethod mShe_hasPlace.2.1 ∈ zTbl ∧ Cond.selects mShe_hasPlace.2.1.cls mShe_hasPlace.2.1 mShe_hasPlace.2.1 ∈ zTbl := ⟨zi_ml 770 (by decide +kernel), zi_im 344 (by decide +kernel), zi_se 345 (by decide +kernel)⟩
theorem lk2_59 : Cond.methodLink (zON 2) 59 mAct_follows.2.1 ∈ zTbl ∧ Cond.instanceMethod mAct_follows.2.1 ∈ zTbl ∧ Cond.selects mAct_follows.2.1.cls mAct_follows.2.1 mAct_follows.2.1 ∈ zTbl := ⟨zi_ml 771 (by decide +kernel), zi_im 772 (by decide +kernel), zi_se 773 (by decide +kernel)⟩
theorem lk3_25 : Cond.methodLink (zON 3) 25 arraycopyName ∈ zTbl ∧ Cond.native arraycopyName ∈ zTbl ∧ Cond.static arraycopyName ∈ zTbl ∧ Cond.initialized "java/lang/System" ∈ zTbl := ⟨zi_ml 538 (by decide +kernel), zi_na 376 (by decide +kernel), zi_st 375 (by decide +kernel), zi_init 12 (by decide +kernel)⟩
theorem lk3_47 : Cond.methodLink (zON 3) 47 mLoo_brush.2.1 ∈ zTbl ∧ Cond.instanceMethod mLoo_brush.2.1 ∈ zTbl ∧ Cond.selects mLoo_brush.2.1.cls mLoo_brush.2.1 mLoo_brush.2.1 ∈ zTbl := ⟨zi_ml 539 (by decide +kernel), zi_im 541 (by decide +kernel), zi_sp 5 (by decide +kernel)⟩
theorem lk3_54 : Cond.methodLink (zON 3) 54 mMa_min.2.1 ∈ zTbl ∧ Cond.static mMa_min.2.1 ∈ zTbl := ⟨zi_ml 543 (by decide +kernel), zi_st 390 (by decide +kernel)⟩
theorem lk3_63 : Cond.methodLink (zON 3) 63 mMa_max.2.1 ∈ zTbl ∧ Cond.static mMa_max.2.1 ∈ zTbl := ⟨zi_ml 544 (by decide +kernel), zi_st 521 (by decide +kernel)⟩
theorem lk3_78 : Cond.methodLink (zON 3) 78 mSty_brushed.2.1 ∈ zTbl ∧ Cond.static mSty_brushed.2.1 ∈ zTbl := ⟨zi_ml 545 (by decide +kernel), zi_st 508 (by decide +kernel)⟩
theorem lk3_84 : Cond.methodLink (zON 3) 84 mLoo_beginsRun.2.1 ∈ zTbl ∧ Cond.instanceMethod mLoo_beginsRun.2.1 ∈ zTbl ∧ Cond.selects mLoo_beginsRun.2.1.cls mLoo_beginsRun.2.1 mLoo_beginsRun.2.1 ∈ zTbl := ⟨zi_ml 688 (by decide +kernel), zi_im 609 (by decide +kernel), zi_se 610 (by decide +kernel)⟩
theorem lk3_88 : Cond.methodLink (zON 3) 88 mLoo_longestLength.2.1 ∈ zTbl ∧ Cond.instanceMethod mLoo_longestLength.2.1 ∈ zTbl ∧ Cond.selects mLoo_longestLength.2.1.cls mLoo_longestLength.2.1 mLoo_longestLength.2.1 ∈ zTbl := ⟨zi_ml 825 (by decide +kernel), zi_im 818 (by decide +kernel), zi_se 819 (by decide +kernel)⟩
theorem lk3_92 : Cond.methodLink (zON 3) 92 mLoo_standsAhead.2.1 ∈ zTbl ∧ Cond.instanceMethod mLoo_standsAhead.2.1 ∈ zTbl ∧ Cond.selects mLoo_standsAhead.2.1.cls mLoo_standsAhead.2.1 mLoo_standsAhead.2.1 ∈ zTbl := ⟨zi_ml 830 (by decide +kernel), zi_im 832 (by decide +kernel), zi_sp 20 (by decide +kernel)⟩
theorem lk11_7 : Cond.methodLink (zON 11) 7 mMa_min.2.1 ∈ zTbl ∧ Cond.static mMa_min.2.1 ∈ zTbl := ⟨zi_ml 429 (by decide +kernel), zi_st 390 (by decide +kernel)⟩
theorem lk11_13 : Cond.methodLink (zON 11) 13 mPla_afterGoing.2.1 ∈ zTbl ∧ Cond.static mPla_afterGoing.2.1 ∈ zTbl := ⟨zi_ml 463 (by decide +kernel), zi_st 427 (by decide +kernel)⟩
theorem lk11_19 : Cond.methodLink (zON 11) 19 mPla_landing.2.1 ∈ zTbl ∧ Cond.static mPla_landing.2.1 ∈ zTbl := ⟨zi_ml 464 (by decide +kernel), zi_st 458 (by decide +kernel)⟩
theorem lk11_22 : Cond.methodLink (zON 11) 22 mPla_afterComing.2.1 ∈ zTbl ∧ Cond.static mPla_afterComing.2.1 ∈ zTbl := ⟨zi_ml 465 (by decide +kernel), zi_st 402 (by decide +kernel)⟩
theorem lk11_26 : Cond.methodLink (zON 11) 26 mPla_leftByMove.2.1 ∈ zTbl ∧ Cond.static mPla_leftByMove.2.1 ∈ zTbl := ⟨zi_ml 469 (by decide +kernel), zi_st 461 (by decide +kernel)⟩
theorem lk4_41 : Cond.methodLink (zON 4) 41 mTap_at.2.1 ∈ zTbl ∧ Cond.instanceMethod mTap_at.2.1 ∈ zTbl ∧ Cond.selects mTap_at.2.1.cls mTap_at.2.1 mTap_at.2.1 ∈ zTbl := ⟨zi_ml 566 (by decide +kernel), zi_im 336 (by decide +kernel), zi_se 337 (by decide +kernel)⟩
theorem lk4_45 : Cond.methodLink (zON 4) 45 mRea_afterMark.2.1 ∈ zTbl ∧ Cond.instanceMethod mRea_afterMark.2.1 ∈ zTbl ∧ Cond.selects mRea_afterMark.2.1.cls mRea_afterMark.2.1 mRea_afterMark.2.1 ∈ zTbl := ⟨zi_ml 567 (by decide +kernel), zi_im 569 (by decide +kernel), zi_sp 6 (by decide +kernel)⟩
theorem lk4_49 : Cond.methodLink (zON 4) 49 mRea_afterLetter.2.1 ∈ zTbl ∧ Cond.instanceMethod mRea_afterLetter.2.1 ∈ zTbl ∧ Cond.selects mRea_afterLetter.2.1.cls mRea_afterLetter.2.1 mRea_afterLetter.2.1 ∈ zTbl := ⟨zi_ml 587 (by decide +kernel), zi_im 589 (by decide +kernel), zi_sp 9 (by decide +kernel)⟩
theorem lk4_52 : Cond.methodLink (zON 4) 52 mTap_isLetter.2.1 ∈ zTbl ∧ Cond.static mTap_isLetter.2.1 ∈ zTbl := ⟨zi_ml 591 (by decide +kernel), zi_st 352 (by decide +kernel)⟩
theorem lk4_56 : Cond.methodLink (zON 4) 56 mRea_kindOf.2.1 ∈ zTbl ∧ Cond.static mRea_kindOf.2.1 ∈ zTbl := ⟨zi_ml 571 (by decide +kernel), zi_st 572 (by decide +kernel)⟩
theorem lk4_59 : Cond.methodLinkNest (zON 4) 59 mSR_isWithin.2.1 "StyledRuns" ∈ zNs ∧ Cond.static mSR_isWithin.2.1 ∈ zTbl := ⟨by decide +kernel, zi_st 475 (by decide +kernel)⟩
theorem lk4_63 : Cond.methodLink (zON 4) 63 mRea_closeLatest.2.1 ∈ zTbl ∧ Cond.instanceMethod mRea_closeLatest.2.1 ∈ zTbl ∧ Cond.selects mRea_closeLatest.2.1.cls mRea_closeLatest.2.1 mRea_closeLatest.2.1 ∈ zTbl := ⟨zi_ml 576 (by decide +kernel), zi_im 578 (by decide +kernel), zi_sp 7 (by decide +kernel)⟩
theorem lk4_66 : Cond.methodLink (zON 4) 66 mRea_openMark.2.1 ∈ zTbl ∧ Cond.instanceMethod mRea_openMark.2.1 ∈ zTbl ∧ Cond.selects mRea_openMark.2.1.cls mRea_openMark.2.1 mRea_openMark.2.1 ∈ zTbl := ⟨zi_ml 580 (by decide +kernel), zi_im 582 (by decide +kernel), zi_sp 8 (by decide +kernel)⟩
theorem lk4_69 : Cond.methodLink (zON 4) 69 mSty_marked.2.1 ∈ zTbl ∧ Cond.static mSty_marked.2.1 ∈ zTbl := ⟨zi_ml 584 (by decide +kernel), zi_st 585 (by decide +kernel)⟩
theorem lk5_40 : Cond.methodLinkNest (zON 5) 40 mSpa_init.2.1 "StyledRuns" ∈ zNs ∧ Cond.instanceMethod mSpa_init.2.1 ∈ zTbl := ⟨by decide +kernel, zi_im 36 (by decide +kernel)⟩
theorem lk5_41 : Cond.methodLinkNest (zON 5) 41 mAnc_init.2.1 "StyledRuns" ∈ zNs ∧ Cond.instanceMethod mAnc_init.2.1 ∈ zTbl := ⟨by decide +kernel, zi_im 88 (by decide +kernel)⟩
theorem lk5_42 : Cond.methodLink (zON 5) 42 arraycopyName ∈ zTbl ∧ Cond.native arraycopyName ∈ zTbl ∧ Cond.static arraycopyName ∈ zTbl ∧ Cond.initialized "java/lang/System" ∈ zTbl := ⟨zi_ml 374 (by decide +kernel), zi_na 376 (by decide +kernel), zi_st 375 (by decide +kernel), zi_init 12 (by decide +kernel)⟩
theorem lk5_48 : Cond.methodLink (zON 5) 48 mSpa_become.2.1 ∈ zTbl ∧ Cond.instanceMethod mSpa_become.2.1 ∈ zTbl ∧ Cond.selects mSpa_become.2.1.cls mSpa_become.2.1 mSpa_become.2.1 ∈ zTbl := ⟨zi_ml 377 (by decide +kernel), zi_im 378 (by decide +kernel), zi_se 379 (by decide +kernel)⟩
theorem lk5_52 : Cond.methodLink (zON 5) 52 mAnc_become.2.1 ∈ zTbl ∧ Cond.instanceMethod mAnc_become.2.1 ∈ zTbl ∧ Cond.selects mAnc_become.2.1.cls mAnc_become.2.1 mAnc_become.2.1 ∈ zTbl := ⟨zi_ml 381 (by decide +kernel), zi_im 382 (by decide +kernel), zi_se 383 (by decide +kernel)⟩
theorem lk5_68 : Cond.methodLink (zON 5) 68 mSpa_liesOver.2.1 ∈ zTbl ∧ Cond.instanceMethod mSpa_liesOver.2.1 ∈ zTbl ∧ Cond.selects mSpa_liesOver.2.1.cls mSpa_liesOver.2.1 mSpa_liesOver.2.1 ∈ zTbl := ⟨zi_ml 838 (by decide +kernel), zi_im 698 (by decide +kernel), zi_se 699 (by decide +kernel)⟩
theorem lk5_72 : Cond.methodLink (zON 5) 72 mMa_max.2.1 ∈ zTbl ∧ Cond.static mMa_max.2.1 ∈ zTbl := ⟨zi_ml 839 (by decide +kernel), zi_st 521 (by decide +kernel)⟩
theorem lk5_83 : Cond.methodLink (zON 5) 83 mShe_hasPlace.2.1 ∈ zTbl ∧ Cond.instanceMethod mShe_hasPlace.2.1 ∈ zTbl ∧ Cond.selects mShe_hasPlace.2.1.cls mShe_hasPlace.2.1 mShe_hasPlace.2.1 ∈ zTbl := ⟨zi_ml 396 (by decide +kernel), zi_im 344 (by decide +kernel), zi_se 345 (by decide +kernel)⟩
theorem lk5_91 : Cond.methodLink (zON 5) 91 mSpa_lettersCome.2.1 ∈ zTbl ∧ Cond.instanceMethod mSpa_lettersCome.2.1 ∈ zTbl ∧ Cond.selects mSpa_lettersCome.2.1.cls mSpa_lettersCome.2.1 mSpa_lettersCome.2.1 ∈ zTbl := ⟨zi_ml 397 (by decide +kernel), zi_im 398 (by decide +kernel), zi_se 399 (by decide +kernel)⟩
theorem lk5_101 : Cond.methodLink (zON 5) 101 mPla_afterComing.2.1 ∈ zTbl ∧ Cond.static mPla_afterComing.2.1 ∈ zTbl := ⟨zi_ml 404 (by decide +kernel), zi_st 402 (by decide +kernel)⟩
theorem lk5_107 : Cond.methodLink (zON 5) 107 mShe_isRange.2.1 ∈ zTbl ∧ Cond.instanceMethod mShe_isRange.2.1 ∈ zTbl ∧ Cond.selects mShe_isRange.2.1.cls mShe_isRange.2.1 mShe_isRange.2.1 ∈ zTbl := ⟨zi_ml 421 (by decide +kernel), zi_im 414 (by decide +kernel), zi_se 415 (by decide +kernel)⟩
theorem lk5_111 : Cond.methodLink (zON 5) 111 mSpa_lettersGo.2.1 ∈ zTbl ∧ Cond.instanceMethod mSpa_lettersGo.2.1 ∈ zTbl ∧ Cond.selects mSpa_lettersGo.2.1.cls mSpa_lettersGo.2.1 mSpa_lettersGo.2.1 ∈ zTbl := ⟨zi_ml 422 (by decide +kernel), zi_im 423 (by decide +kernel), zi_se 424 (by decide +kernel)⟩
theorem lk5_114 : Cond.methodLink (zON 5) 114 mAnc_lettersGo.2.1 ∈ zTbl ∧ Cond.instanceMethod mAnc_lettersGo.2.1 ∈ zTbl ∧ Cond.selects mAnc_lettersGo.2.1.cls mAnc_lettersGo.2.1 mAnc_lettersGo.2.1 ∈ zTbl := ⟨zi_ml 430 (by decide +kernel), zi_im 431 (by decide +kernel), zi_se 432 (by decide +kernel)⟩
theorem lk5_115 : Cond.methodLink (zON 5) 115 mShe_changeSides.2.1 ∈ zTbl ∧ Cond.static mShe_changeSides.2.1 ∈ zTbl := ⟨zi_ml 447 (by decide +kernel), zi_st 448 (by decide +kernel)⟩
theorem lk5_119 : Cond.methodLink (zON 5) 119 mSpa_lettersMove.2.1 ∈ zTbl ∧ Cond.instanceMethod mSpa_lettersMove.2.1 ∈ zTbl ∧ Cond.selects mSpa_lettersMove.2.1.cls mSpa_lettersMove.2.1 mSpa_lettersMove.2.1 ∈ zTbl := ⟨zi_ml 453 (by decide +kernel), zi_im 454 (by decide +kernel), zi_se 455 (by decide +kernel)⟩
theorem lk5_123 : Cond.methodLink (zON 5) 123 mPla_afterMove.2.1 ∈ zTbl ∧ Cond.static mPla_afterMove.2.1 ∈ zTbl := ⟨zi_ml 466 (by decide +kernel), zi_st 467 (by decide +kernel)⟩
theorem lk5_127 : Cond.methodLink (zON 5) 127 mShe_turn.2.1 ∈ zTbl ∧ Cond.static mShe_turn.2.1 ∈ zTbl := ⟨zi_ml 450 (by decide +kernel), zi_st 451 (by decide +kernel)⟩
theorem lk6_40 : Cond.methodLink (zON 6) 40 mSpa_covers.2.1 ∈ zTbl ∧ Cond.instanceMethod mSpa_covers.2.1 ∈ zTbl ∧ Cond.selects mSpa_covers.2.1.cls mSpa_covers.2.1 mSpa_covers.2.1 ∈ zTbl := ⟨zi_ml 805 (by decide +kernel), zi_im 806 (by decide +kernel), zi_se 807 (by decide +kernel)⟩
theorem lk6_44 : Cond.methodLink (zON 6) 44 mPla_afterComing.2.1 ∈ zTbl ∧ Cond.static mPla_afterComing.2.1 ∈ zTbl := ⟨zi_ml 401 (by decide +kernel), zi_st 402 (by decide +kernel)⟩
theorem lk6_50 : Cond.methodLink (zON 6) 50 mPla_afterGoing.2.1 ∈ zTbl ∧ Cond.static mPla_afterGoing.2.1 ∈ zTbl := ⟨zi_ml 426 (by decide +kernel), zi_st 427 (by decide +kernel)⟩
theorem lk6_54 : Cond.methodLink (zON 6) 54 mPla_landing.2.1 ∈ zTbl ∧ Cond.static mPla_landing.2.1 ∈ zTbl := ⟨zi_ml 457 (by decide +kernel), zi_st 458 (by decide +kernel)⟩
theorem lk6_57 : Cond.methodLink (zON 6) 57 mPla_leftByMove.2.1 ∈ zTbl ∧ Cond.static mPla_leftByMove.2.1 ∈ zTbl := ⟨zi_ml 460 (by decide +kernel), zi_st 461 (by decide +kernel)⟩
theorem lk12_9 : Cond.methodLink (zON 12) 9 mSty_flagsOf.2.1 ∈ zTbl ∧ Cond.static mSty_flagsOf.2.1 ∈ zTbl := ⟨zi_ml 510 (by decide +kernel), zi_st 511 (by decide +kernel)⟩
theorem lk12_15 : Cond.methodLink (zON 12) 15 mSty_colorOf.2.1 ∈ zTbl ∧ Cond.static mSty_colorOf.2.1 ∈ zTbl := ⟨zi_ml 513 (by decide +kernel), zi_st 514 (by decide +kernel)⟩
theorem lk12_18 : Cond.methodLink (zON 12) 18 mSty_sizeOf.2.1 ∈ zTbl ∧ Cond.static mSty_sizeOf.2.1 ∈ zTbl := ⟨zi_ml 516 (by decide +kernel), zi_st 517 (by decide +kernel)⟩
theorem lk12_21 : Cond.methodLink (zON 12) 21 mMa_min.2.1 ∈ zTbl ∧ Cond.static mMa_min.2.1 ∈ zTbl := ⟨zi_ml 519 (by decide +kernel), zi_st 390 (by decide +kernel)⟩
theorem lk12_27 : Cond.methodLink (zON 12) 27 mMa_max.2.1 ∈ zTbl ∧ Cond.static mMa_max.2.1 ∈ zTbl := ⟨zi_ml 520 (by decide +kernel), zi_st 521 (by decide +kernel)⟩
theorem lk12_30 : Cond.methodLink (zON 12) 30 mSty_of.2.1 ∈ zTbl ∧ Cond.static mSty_of.2.1 ∈ zTbl := ⟨zi_ml 523 (by decide +kernel), zi_st 524 (by decide +kernel)⟩
theorem lk7_19 : Cond.methodLink (zON 7) 19 mMa_min.2.1 ∈ zTbl ∧ Cond.static mMa_min.2.1 ∈ zTbl := ⟨zi_ml 639 (by decide +kernel), zi_st 390 (by decide +kernel)⟩
theorem lk7_25 : Cond.methodLink (zON 7) 25 arraycopyName ∈ zTbl ∧ Cond.native arraycopyName ∈ zTbl ∧ Cond.static arraycopyName ∈ zTbl ∧ Cond.initialized "java/lang/System" ∈ zTbl := ⟨zi_ml 640 (by decide +kernel), zi_na 376 (by decide +kernel), zi_st 375 (by decide +kernel), zi_init 12 (by decide +kernel)⟩
theorem lk7_31 : Cond.methodLink (zON 7) 31 mTap_isLetter.2.1 ∈ zTbl ∧ Cond.static mTap_isLetter.2.1 ∈ zTbl := ⟨zi_ml 351 (by decide +kernel), zi_st 352 (by decide +kernel)⟩
theorem lk8_36 : Cond.methodLink (zON 8) 36 mLoo_beginsRun.2.1 ∈ zTbl ∧ Cond.instanceMethod mLoo_beginsRun.2.1 ∈ zTbl ∧ Cond.selects mLoo_beginsRun.2.1.cls mLoo_beginsRun.2.1 mLoo_beginsRun.2.1 ∈ zTbl := ⟨zi_ml 608 (by decide +kernel), zi_im 609 (by decide +kernel), zi_se 610 (by decide +kernel)⟩
theorem lk8_45 : Cond.methodLink (zON 8) 45 mWri_firstUnfit.2.1 ∈ zTbl ∧ Cond.instanceMethod mWri_firstUnfit.2.1 ∈ zTbl ∧ Cond.selects mWri_firstUnfit.2.1.cls mWri_firstUnfit.2.1 mWri_firstUnfit.2.1 ∈ zTbl := ⟨zi_ml 612 (by decide +kernel), zi_im 614 (by decide +kernel), zi_sp 10 (by decide +kernel)⟩
theorem lk8_49 : Cond.methodLink (zON 8) 49 mWri_closeDownTo.2.1 ∈ zTbl ∧ Cond.instanceMethod mWri_closeDownTo.2.1 ∈ zTbl ∧ Cond.selects mWri_closeDownTo.2.1.cls mWri_closeDownTo.2.1 mWri_closeDownTo.2.1 ∈ zTbl := ⟨zi_ml 619 (by decide +kernel), zi_im 621 (by decide +kernel), zi_sp 11 (by decide +kernel)⟩
theorem lk8_53 : Cond.methodLink (zON 8) 53 mWri_openLacking.2.1 ∈ zTbl ∧ Cond.instanceMethod mWri_openLacking.2.1 ∈ zTbl ∧ Cond.selects mWri_openLacking.2.1.cls mWri_openLacking.2.1 mWri_openLacking.2.1 ∈ zTbl := ⟨zi_ml 627 (by decide +kernel), zi_im 629 (by decide +kernel), zi_sp 13 (by decide +kernel)⟩
theorem lk8_59 : Cond.methodLink (zON 8) 59 mWri_add.2.1 ∈ zTbl ∧ Cond.instanceMethod mWri_add.2.1 ∈ zTbl ∧ Cond.selects mWri_add.2.1.cls mWri_add.2.1 mWri_add.2.1 ∈ zTbl := ⟨zi_ml 623 (by decide +kernel), zi_im 625 (by decide +kernel), zi_sp 12 (by decide +kernel)⟩
theorem lk8_62 : Cond.methodLink (zON 8) 62 mSty_markValue.2.1 ∈ zTbl ∧ Cond.static mSty_markValue.2.1 ∈ zTbl := ⟨zi_ml 616 (by decide +kernel), zi_st 617 (by decide +kernel)⟩
theorem lk8_68 : Cond.methodLink (zON 8) 68 mWri_isOpen.2.1 ∈ zTbl ∧ Cond.instanceMethod mWri_isOpen.2.1 ∈ zTbl ∧ Cond.selects mWri_isOpen.2.1.cls mWri_isOpen.2.1 mWri_isOpen.2.1 ∈ zTbl := ⟨zi_ml 631 (by decide +kernel), zi_im 633 (by decide +kernel), zi_sp 14 (by decide +kernel)⟩
theorem lk13_9 : Cond.methodLink (zON 13) 9 mSR_init.2.1 ∈ zTbl ∧ Cond.instanceMethod mSR_init.2.1 ∈ zTbl := ⟨zi_ml 18 (by decide +kernel), zi_im 19 (by decide +kernel)⟩
theorem lk13_12 : Cond.methodLink (zON 13) 12 mMo_init.2.1 ∈ zTbl ∧ Cond.instanceMethod mMo_init.2.1 ∈ zTbl := ⟨zi_ml 850 (by decide +kernel), zi_im 851 (by decide +kernel)⟩
theorem lk13_13 : Cond.methodLink (zON 13) 13 mSR_feed.2.1 ∈ zTbl ∧ Cond.instanceMethod mSR_feed.2.1 ∈ zTbl ∧ Cond.selects mSR_feed.2.1.cls mSR_feed.2.1 mSR_feed.2.1 ∈ zTbl := ⟨zi_ml 319 (by decide +kernel), zi_im 320 (by decide +kernel), zi_se 321 (by decide +kernel)⟩
theorem lk13_17 : Cond.methodLink (zON 13) 17 mMo_feed.2.1 ∈ zTbl ∧ Cond.instanceMethod mMo_feed.2.1 ∈ zTbl ∧ Cond.selects mMo_feed.2.1.cls mMo_feed.2.1 mMo_feed.2.1 ∈ zTbl := ⟨zi_ml 975 (by decide +kernel), zi_im 976 (by decide +kernel), zi_se 977 (by decide +kernel)⟩
theorem lk13_18 : Cond.methodLink (zON 13) 18 mSR_end.2.1 ∈ zTbl ∧ Cond.instanceMethod mSR_end.2.1 ∈ zTbl ∧ Cond.selects mSR_end.2.1.cls mSR_end.2.1 mSR_end.2.1 ∈ zTbl := ⟨zi_ml 327 (by decide +kernel), zi_im 328 (by decide +kernel), zi_se 329 (by decide +kernel)⟩
theorem lk13_22 : Cond.methodLink (zON 13) 22 mMo_end.2.1 ∈ zTbl ∧ Cond.instanceMethod mMo_end.2.1 ∈ zTbl ∧ Cond.selects mMo_end.2.1.cls mMo_end.2.1 mMo_end.2.1 ∈ zTbl := ⟨zi_ml 983 (by decide +kernel), zi_im 984 (by decide +kernel), zi_se 985 (by decide +kernel)⟩
theorem lk13_23 : Cond.methodLink (zON 13) 23 mSR_tape.2.1 ∈ zTbl ∧ Cond.instanceMethod mSR_tape.2.1 ∈ zTbl ∧ Cond.selects mSR_tape.2.1.cls mSR_tape.2.1 mSR_tape.2.1 ∈ zTbl := ⟨zi_ml 331 (by decide +kernel), zi_im 332 (by decide +kernel), zi_se 333 (by decide +kernel)⟩
theorem lk13_26 : Cond.methodLink (zON 13) 26 mMo_tape.2.1 ∈ zTbl ∧ Cond.instanceMethod mMo_tape.2.1 ∈ zTbl ∧ Cond.selects mMo_tape.2.1.cls mMo_tape.2.1 mMo_tape.2.1 ∈ zTbl := ⟨zi_ml 987 (by decide +kernel), zi_im 988 (by decide +kernel), zi_se 989 (by decide +kernel)⟩
theorem lk13_27 : Cond.methodLink (zON 13) 27 mSR_type.2.1 ∈ zTbl ∧ Cond.instanceMethod mSR_type.2.1 ∈ zTbl ∧ Cond.selects mSR_type.2.1.cls mSR_type.2.1 mSR_type.2.1 ∈ zTbl := ⟨zi_ml 339 (by decide +kernel), zi_im 340 (by decide +kernel), zi_se 341 (by decide +kernel)⟩
theorem lk13_30 : Cond.methodLink (zON 13) 30 mMo_type.2.1 ∈ zTbl ∧ Cond.instanceMethod mMo_type.2.1 ∈ zTbl ∧ Cond.selects mMo_type.2.1.cls mMo_type.2.1 mMo_type.2.1 ∈ zTbl := ⟨zi_ml 991 (by decide +kernel), zi_im 992 (by decide +kernel), zi_se 993 (by decide +kernel)⟩
theorem lk13_31 : Cond.methodLink (zON 13) 31 mSR_cut.2.1 ∈ zTbl ∧ Cond.instanceMethod mSR_cut.2.1 ∈ zTbl ∧ Cond.selects mSR_cut.2.1.cls mSR_cut.2.1 mSR_cut.2.1 ∈ zTbl := ⟨zi_ml 409 (by decide +kernel), zi_im 410 (by decide +kernel), zi_se 411 (by decide +kernel)⟩
theorem lk13_35 : Cond.methodLink (zON 13) 35 mMo_cut.2.1 ∈ zTbl ∧ Cond.instanceMethod mMo_cut.2.1 ∈ zTbl ∧ Cond.selects mMo_cut.2.1.cls mMo_cut.2.1 mMo_cut.2.1 ∈ zTbl := ⟨zi_ml 1051 (by decide +kernel), zi_im 1052 (by decide +kernel), zi_se 1053 (by decide +kernel)⟩
theorem lk13_36 : Cond.methodLink (zON 13) 36 mSR_swap.2.1 ∈ zTbl ∧ Cond.instanceMethod mSR_swap.2.1 ∈ zTbl ∧ Cond.selects mSR_swap.2.1.cls mSR_swap.2.1 mSR_swap.2.1 ∈ zTbl := ⟨zi_ml 435 (by decide +kernel), zi_im 436 (by decide +kernel), zi_se 437 (by decide +kernel)⟩
theorem lk13_39 : Cond.methodLink (zON 13) 39 mMo_swap.2.1 ∈ zTbl ∧ Cond.instanceMethod mMo_swap.2.1 ∈ zTbl ∧ Cond.selects mMo_swap.2.1.cls mMo_swap.2.1 mMo_swap.2.1 ∈ zTbl := ⟨zi_ml 1036 (by decide +kernel), zi_im 1037 (by decide +kernel), zi_se 1038 (by decide +kernel)⟩
theorem lk13_40 : Cond.methodLink (zON 13) 40 mSR_move.2.1 ∈ zTbl ∧ Cond.instanceMethod mSR_move.2.1 ∈ zTbl ∧ Cond.selects mSR_move.2.1.cls mSR_move.2.1 mSR_move.2.1 ∈ zTbl := ⟨zi_ml 439 (by decide +kernel), zi_im 440 (by decide +kernel), zi_se 441 (by decide +kernel)⟩
theorem lk13_44 : Cond.methodLink (zON 13) 44 mMo_move.2.1 ∈ zTbl ∧ Cond.instanceMethod mMo_move.2.1 ∈ zTbl ∧ Cond.selects mMo_move.2.1.cls mMo_move.2.1 mMo_move.2.1 ∈ zTbl := ⟨zi_ml 1055 (by decide +kernel), zi_im 1056 (by decide +kernel), zi_se 1057 (by decide +kernel)⟩
theorem lk13_45 : Cond.methodLink (zON 13) 45 mSR_lay.2.1 ∈ zTbl ∧ Cond.instanceMethod mSR_lay.2.1 ∈ zTbl ∧ Cond.selects mSR_lay.2.1.cls mSR_lay.2.1 mSR_lay.2.1 ∈ zTbl := ⟨zi_ml 470 (by decide +kernel), zi_im 471 (by decide +kernel), zi_se 472 (by decide +kernel)⟩
theorem lk13_49 : Cond.methodLink (zON 13) 49 mMo_lay.2.1 ∈ zTbl ∧ Cond.instanceMethod mMo_lay.2.1 ∈ zTbl ∧ Cond.selects mMo_lay.2.1.cls mMo_lay.2.1 mMo_lay.2.1 ∈ zTbl := ⟨zi_ml 1067 (by decide +kernel), zi_im 1068 (by decide +kernel), zi_se 1069 (by decide +kernel)⟩
theorem lk13_50 : Cond.methodLink (zON 13) 50 mSR_lift.2.1 ∈ zTbl ∧ Cond.instanceMethod mSR_lift.2.1 ∈ zTbl ∧ Cond.selects mSR_lift.2.1.cls mSR_lift.2.1 mSR_lift.2.1 ∈ zTbl := ⟨zi_ml 483 (by decide +kernel), zi_im 484 (by decide +kernel), zi_se 485 (by decide +kernel)⟩
theorem lk13_53 : Cond.methodLink (zON 13) 53 mMo_lift.2.1 ∈ zTbl ∧ Cond.instanceMethod mMo_lift.2.1 ∈ zTbl ∧ Cond.selects mMo_lift.2.1.cls mMo_lift.2.1 mMo_lift.2.1 ∈ zTbl := ⟨zi_ml 1080 (by decide +kernel), zi_im 1081 (by decide +kernel), zi_se 1082 (by decide +kernel)⟩
theorem lk13_54 : Cond.methodLink (zON 13) 54 mSR_set.2.1 ∈ zTbl ∧ Cond.instanceMethod mSR_set.2.1 ∈ zTbl ∧ Cond.selects mSR_set.2.1.cls mSR_set.2.1 mSR_set.2.1 ∈ zTbl := ⟨zi_ml 495 (by decide +kernel), zi_im 496 (by decide +kernel), zi_se 497 (by decide +kernel)⟩
theorem lk13_57 : Cond.methodLink (zON 13) 57 mMo_set.2.1 ∈ zTbl ∧ Cond.instanceMethod mMo_set.2.1 ∈ zTbl ∧ Cond.selects mMo_set.2.1.cls mMo_set.2.1 mMo_set.2.1 ∈ zTbl := ⟨zi_ml 1088 (by decide +kernel), zi_im 1089 (by decide +kernel), zi_se 1090 (by decide +kernel)⟩
theorem lk13_58 : Cond.methodLink (zON 13) 58 mSR_stretch.2.1 ∈ zTbl ∧ Cond.instanceMethod mSR_stretch.2.1 ∈ zTbl ∧ Cond.selects mSR_stretch.2.1.cls mSR_stretch.2.1 mSR_stretch.2.1 ∈ zTbl := ⟨zi_ml 499 (by decide +kernel), zi_im 500 (by decide +kernel), zi_se 501 (by decide +kernel)⟩
theorem lk13_61 : Cond.methodLink (zON 13) 61 mMo_stretch.2.1 ∈ zTbl ∧ Cond.instanceMethod mMo_stretch.2.1 ∈ zTbl ∧ Cond.selects mMo_stretch.2.1.cls mMo_stretch.2.1 mMo_stretch.2.1 ∈ zTbl := ⟨zi_ml 1092 (by decide +kernel), zi_im 1093 (by decide +kernel), zi_se 1094 (by decide +kernel)⟩
theorem lk13_62 : Cond.methodLink (zON 13) 62 mSR_paint.2.1 ∈ zTbl ∧ Cond.instanceMethod mSR_paint.2.1 ∈ zTbl ∧ Cond.selects mSR_paint.2.1.cls mSR_paint.2.1 mSR_paint.2.1 ∈ zTbl := ⟨zi_ml 503 (by decide +kernel), zi_im 504 (by decide +kernel), zi_se 505 (by decide +kernel)⟩
theorem lk13_66 : Cond.methodLink (zON 13) 66 mMo_paint.2.1 ∈ zTbl ∧ Cond.instanceMethod mMo_paint.2.1 ∈ zTbl ∧ Cond.selects mMo_paint.2.1.cls mMo_paint.2.1 mMo_paint.2.1 ∈ zTbl := ⟨zi_ml 1096 (by decide +kernel), zi_im 1097 (by decide +kernel), zi_se 1098 (by decide +kernel)⟩
theorem lk13_67 : Cond.methodLink (zON 13) 67 mSR_fast.2.1 ∈ zTbl ∧ Cond.instanceMethod mSR_fast.2.1 ∈ zTbl ∧ Cond.selects mSR_fast.2.1.cls mSR_fast.2.1 mSR_fast.2.1 ∈ zTbl := ⟨zi_ml 526 (by decide +kernel), zi_im 527 (by decide +kernel), zi_se 528 (by decide +kernel)⟩
theorem lk13_71 : Cond.methodLink (zON 13) 71 mMo_fast.2.1 ∈ zTbl ∧ Cond.instanceMethod mMo_fast.2.1 ∈ zTbl ∧ Cond.selects mMo_fast.2.1.cls mMo_fast.2.1 mMo_fast.2.1 ∈ zTbl := ⟨zi_ml 1112 (by decide +kernel), zi_im 1113 (by decide +kernel), zi_se 1114 (by decide +kernel)⟩
theorem lk13_72 : Cond.methodLink (zON 13) 72 mSR_pin.2.1 ∈ zTbl ∧ Cond.instanceMethod mSR_pin.2.1 ∈ zTbl ∧ Cond.selects mSR_pin.2.1.cls mSR_pin.2.1 mSR_pin.2.1 ∈ zTbl := ⟨zi_ml 546 (by decide +kernel), zi_im 547 (by decide +kernel), zi_se 548 (by decide +kernel)⟩
theorem lk13_75 : Cond.methodLink (zON 13) 75 mMo_pin.2.1 ∈ zTbl ∧ Cond.instanceMethod mMo_pin.2.1 ∈ zTbl ∧ Cond.selects mMo_pin.2.1.cls mMo_pin.2.1 mMo_pin.2.1 ∈ zTbl := ⟨zi_ml 1124 (by decide +kernel), zi_im 1125 (by decide +kernel), zi_se 1126 (by decide +kernel)⟩
theorem lk13_76 : Cond.methodLink (zON 13) 76 mSR_unpin.2.1 ∈ zTbl ∧ Cond.instanceMethod mSR_unpin.2.1 ∈ zTbl ∧ Cond.selects mSR_unpin.2.1.cls mSR_unpin.2.1 mSR_unpin.2.1 ∈ zTbl := ⟨zi_ml 550 (by decide +kernel), zi_im 551 (by decide +kernel), zi_se 552 (by decide +kernel)⟩
theorem lk13_79 : Cond.methodLink (zON 13) 79 mMo_unpin.2.1 ∈ zTbl ∧ Cond.instanceMethod mMo_unpin.2.1 ∈ zTbl ∧ Cond.selects mMo_unpin.2.1.cls mMo_unpin.2.1 mMo_unpin.2.1 ∈ zTbl := ⟨zi_ml 1128 (by decide +kernel), zi_im 1129 (by decide +kernel), zi_se 1130 (by decide +kernel)⟩
theorem lk13_80 : Cond.methodLink (zON 13) 80 mSR_read.2.1 ∈ zTbl ∧ Cond.instanceMethod mSR_read.2.1 ∈ zTbl ∧ Cond.selects mSR_read.2.1.cls mSR_read.2.1 mSR_read.2.1 ∈ zTbl := ⟨zi_ml 558 (by decide +kernel), zi_im 559 (by decide +kernel), zi_se 560 (by decide +kernel)⟩
theorem lk13_83 : Cond.methodLink (zON 13) 83 mMo_read.2.1 ∈ zTbl ∧ Cond.instanceMethod mMo_read.2.1 ∈ zTbl ∧ Cond.selects mMo_read.2.1.cls mMo_read.2.1 mMo_read.2.1 ∈ zTbl := ⟨zi_ml 1132 (by decide +kernel), zi_im 1133 (by decide +kernel), zi_se 1134 (by decide +kernel)⟩
theorem lk13_84 : Cond.methodLink (zON 13) 84 mSR_fault.2.1 ∈ zTbl ∧ Cond.instanceMethod mSR_fault.2.1 ∈ zTbl ∧ Cond.selects mSR_fault.2.1.cls mSR_fault.2.1 mSR_fault.2.1 ∈ zTbl := ⟨zi_ml 596 (by decide +kernel), zi_im 597 (by decide +kernel), zi_se 598 (by decide +kernel)⟩
theorem lk13_87 : Cond.methodLink (zON 13) 87 mMo_fault.2.1 ∈ zTbl ∧ Cond.instanceMethod mMo_fault.2.1 ∈ zTbl ∧ Cond.selects mMo_fault.2.1.cls mMo_fault.2.1 mMo_fault.2.1 ∈ zTbl := ⟨zi_ml 1155 (by decide +kernel), zi_im 1156 (by decide +kernel), zi_se 1157 (by decide +kernel)⟩
theorem lk13_88 : Cond.methodLink (zON 13) 88 mSR_write.2.1 ∈ zTbl ∧ Cond.instanceMethod mSR_write.2.1 ∈ zTbl ∧ Cond.selects mSR_write.2.1.cls mSR_write.2.1 mSR_write.2.1 ∈ zTbl := ⟨zi_ml 600 (by decide +kernel), zi_im 601 (by decide +kernel), zi_se 602 (by decide +kernel)⟩
theorem lk13_91 : Cond.methodLink (zON 13) 91 mMo_write.2.1 ∈ zTbl ∧ Cond.instanceMethod mMo_write.2.1 ∈ zTbl ∧ Cond.selects mMo_write.2.1.cls mMo_write.2.1 mMo_write.2.1 ∈ zTbl := ⟨zi_ml 1159 (by decide +kernel), zi_im 1160 (by decide +kernel), zi_se 1161 (by decide +kernel)⟩
theorem lk13_92 : Cond.methodLink (zON 13) 92 mSR_undo.2.1 ∈ zTbl ∧ Cond.instanceMethod mSR_undo.2.1 ∈ zTbl ∧ Cond.selects mSR_undo.2.1.cls mSR_undo.2.1 mSR_undo.2.1 ∈ zTbl := ⟨zi_ml 641 (by decide +kernel), zi_im 642 (by decide +kernel), zi_se 643 (by decide +kernel)⟩
theorem lk13_95 : Cond.methodLink (zON 13) 95 mMo_undo.2.1 ∈ zTbl ∧ Cond.instanceMethod mMo_undo.2.1 ∈ zTbl ∧ Cond.selects mMo_undo.2.1.cls mMo_undo.2.1 mMo_undo.2.1 ∈ zTbl := ⟨zi_ml 949 (by decide +kernel), zi_im 950 (by decide +kernel), zi_se 951 (by decide +kernel)⟩
theorem lk13_96 : Cond.methodLink (zON 13) 96 mSR_image.2.1 ∈ zTbl ∧ Cond.instanceMethod mSR_image.2.1 ∈ zTbl ∧ Cond.selects mSR_image.2.1.cls mSR_image.2.1 mSR_image.2.1 ∈ zTbl := ⟨zi_ml 656 (by decide +kernel), zi_im 657 (by decide +kernel), zi_se 658 (by decide +kernel)⟩
theorem lk13_99 : Cond.methodLink (zON 13) 99 mMo_image.2.1 ∈ zTbl ∧ Cond.instanceMethod mMo_image.2.1 ∈ zTbl ∧ Cond.selects mMo_image.2.1.cls mMo_image.2.1 mMo_image.2.1 ∈ zTbl := ⟨zi_ml 964 (by decide +kernel), zi_im 965 (by decide +kernel), zi_se 966 (by decide +kernel)⟩
theorem lk13_100 : Cond.methodLink (zON 13) 100 mSR_back.2.1 ∈ zTbl ∧ Cond.instanceMethod mSR_back.2.1 ∈ zTbl ∧ Cond.selects mSR_back.2.1.cls mSR_back.2.1 mSR_back.2.1 ∈ zTbl := ⟨zi_ml 661 (by decide +kernel), zi_im 662 (by decide +kernel), zi_se 663 (by decide +kernel)⟩
theorem lk13_103 : Cond.methodLink (zON 13) 103 mMo_back.2.1 ∈ zTbl ∧ Cond.instanceMethod mMo_back.2.1 ∈ zTbl ∧ Cond.selects mMo_back.2.1.cls mMo_back.2.1 mMo_back.2.1 ∈ zTbl := ⟨zi_ml 971 (by decide +kernel), zi_im 972 (by decide +kernel), zi_se 973 (by decide +kernel)⟩
theorem lk13_104 : Cond.methodLink (zON 13) 104 mSR_letter.2.1 ∈ zTbl ∧ Cond.instanceMethod mSR_letter.2.1 ∈ zTbl ∧ Cond.selects mSR_letter.2.1.cls mSR_letter.2.1 mSR_letter.2.1 ∈ zTbl := ⟨zi_ml 665 (by decide +kernel), zi_im 666 (by decide +kernel), zi_se 667 (by decide +kernel)⟩
theorem lk13_107 : Cond.methodLink (zON 13) 107 mMo_letter.2.1 ∈ zTbl ∧ Cond.instanceMethod mMo_letter.2.1 ∈ zTbl ∧ Cond.selects mMo_letter.2.1.cls mMo_letter.2.1 mMo_letter.2.1 ∈ zTbl := ⟨zi_ml 1195 (by decide +kernel), zi_im 1196 (by decide +kernel), zi_se 1197 (by decide +kernel)⟩
theorem lk13_108 : Cond.methodLink (zON 13) 108 mSR_style.2.1 ∈ zTbl ∧ Cond.instanceMethod mSR_style.2.1 ∈ zTbl ∧ Cond.selects mSR_style.2.1.cls mSR_style.2.1 mSR_style.2.1 ∈ zTbl := ⟨zi_ml 673 (by decide +kernel), zi_im 674 (by decide +kernel), zi_se 675 (by decide +kernel)⟩
theorem lk13_111 : Cond.methodLink (zON 13) 111 mMo_style.2.1 ∈ zTbl ∧ Cond.instanceMethod mMo_style.2.1 ∈ zTbl ∧ Cond.selects mMo_style.2.1.cls mMo_style.2.1 mMo_style.2.1 ∈ zTbl := ⟨zi_ml 1203 (by decide +kernel), zi_im 1204 (by decide +kernel), zi_se 1205 (by decide +kernel)⟩
theorem lk13_112 : Cond.methodLink (zON 13) 112 mSR_run.2.1 ∈ zTbl ∧ Cond.instanceMethod mSR_run.2.1 ∈ zTbl ∧ Cond.selects mSR_run.2.1.cls mSR_run.2.1 mSR_run.2.1 ∈ zTbl := ⟨zi_ml 680 (by decide +kernel), zi_im 681 (by decide +kernel), zi_se 682 (by decide +kernel)⟩
theorem lk13_115 : Cond.methodLink (zON 13) 115 mMo_run.2.1 ∈ zTbl ∧ Cond.instanceMethod mMo_run.2.1 ∈ zTbl ∧ Cond.selects mMo_run.2.1.cls mMo_run.2.1 mMo_run.2.1 ∈ zTbl := ⟨zi_ml 1213 (by decide +kernel), zi_im 1214 (by decide +kernel), zi_se 1215 (by decide +kernel)⟩
theorem lk13_116 : Cond.methodLink (zON 13) 116 mSR_stack.2.1 ∈ zTbl ∧ Cond.instanceMethod mSR_stack.2.1 ∈ zTbl ∧ Cond.selects mSR_stack.2.1.cls mSR_stack.2.1 mSR_stack.2.1 ∈ zTbl := ⟨zi_ml 693 (by decide +kernel), zi_im 694 (by decide +kernel), zi_se 695 (by decide +kernel)⟩
theorem lk13_119 : Cond.methodLink (zON 13) 119 mMo_stack.2.1 ∈ zTbl ∧ Cond.instanceMethod mMo_stack.2.1 ∈ zTbl ∧ Cond.selects mMo_stack.2.1.cls mMo_stack.2.1 mMo_stack.2.1 ∈ zTbl := ⟨zi_ml 1222 (by decide +kernel), zi_im 1223 (by decide +kernel), zi_se 1224 (by decide +kernel)⟩
theorem lk13_120 : Cond.methodLink (zON 13) 120 mSR_tells.2.1 ∈ zTbl ∧ Cond.instanceMethod mSR_tells.2.1 ∈ zTbl ∧ Cond.selects mSR_tells.2.1.cls mSR_tells.2.1 mSR_tells.2.1 ∈ zTbl := ⟨zi_ml 701 (by decide +kernel), zi_im 702 (by decide +kernel), zi_se 703 (by decide +kernel)⟩
theorem lk13_123 : Cond.methodLink (zON 13) 123 mMo_tells.2.1 ∈ zTbl ∧ Cond.instanceMethod mMo_tells.2.1 ∈ zTbl ∧ Cond.selects mMo_tells.2.1.cls mMo_tells.2.1 mMo_tells.2.1 ∈ zTbl := ⟨zi_ml 1226 (by decide +kernel), zi_im 1227 (by decide +kernel), zi_se 1228 (by decide +kernel)⟩
theorem lk13_124 : Cond.methodLink (zON 13) 124 mSR_span.2.1 ∈ zTbl ∧ Cond.instanceMethod mSR_span.2.1 ∈ zTbl ∧ Cond.selects mSR_span.2.1.cls mSR_span.2.1 mSR_span.2.1 ∈ zTbl := ⟨zi_ml 709 (by decide +kernel), zi_im 710 (by decide +kernel), zi_se 711 (by decide +kernel)⟩
theorem lk13_127 : Cond.methodLink (zON 13) 127 mMo_span.2.1 ∈ zTbl ∧ Cond.instanceMethod mMo_span.2.1 ∈ zTbl ∧ Cond.selects mMo_span.2.1.cls mMo_span.2.1 mMo_span.2.1 ∈ zTbl := ⟨zi_ml 1234 (by decide +kernel), zi_im 1235 (by decide +kernel), zi_se 1236 (by decide +kernel)⟩
theorem lk13_128 : Cond.methodLink (zON 13) 128 mSR_anchor.2.1 ∈ zTbl ∧ Cond.instanceMethod mSR_anchor.2.1 ∈ zTbl ∧ Cond.selects mSR_anchor.2.1.cls mSR_anchor.2.1 mSR_anchor.2.1 ∈ zTbl := ⟨zi_ml 730 (by decide +kernel), zi_im 731 (by decide +kernel), zi_se 732 (by decide +kernel)⟩
theorem lk13_131 : Cond.methodLink (zON 13) 131 mMo_anchor.2.1 ∈ zTbl ∧ Cond.instanceMethod mMo_anchor.2.1 ∈ zTbl ∧ Cond.selects mMo_anchor.2.1.cls mMo_anchor.2.1 mMo_anchor.2.1 ∈ zTbl := ⟨zi_ml 1243 (by decide +kernel), zi_im 1244 (by decide +kernel), zi_se 1245 (by decide +kernel)⟩
theorem lk13_132 : Cond.methodLink (zON 13) 132 mSR_find.2.1 ∈ zTbl ∧ Cond.instanceMethod mSR_find.2.1 ∈ zTbl ∧ Cond.selects mSR_find.2.1.cls mSR_find.2.1 mSR_find.2.1 ∈ zTbl := ⟨zi_ml 734 (by decide +kernel), zi_im 735 (by decide +kernel), zi_se 736 (by decide +kernel)⟩
theorem lk13_135 : Cond.methodLink (zON 13) 135 mMo_find.2.1 ∈ zTbl ∧ Cond.instanceMethod mMo_find.2.1 ∈ zTbl ∧ Cond.selects mMo_find.2.1.cls mMo_find.2.1 mMo_find.2.1 ∈ zTbl := ⟨zi_ml 1248 (by decide +kernel), zi_im 1249 (by decide +kernel), zi_se 1250 (by decide +kernel)⟩
theorem lk13_136 : Cond.methodLink (zON 13) 136 mSR_findBy.2.1 ∈ zTbl ∧ Cond.instanceMethod mSR_findBy.2.1 ∈ zTbl ∧ Cond.selects mSR_findBy.2.1.cls mSR_findBy.2.1 mSR_findBy.2.1 ∈ zTbl := ⟨zi_ml 745 (by decide +kernel), zi_im 746 (by decide +kernel), zi_se 747 (by decide +kernel)⟩
theorem lk13_139 : Cond.methodLink (zON 13) 139 mMo_findBy.2.1 ∈ zTbl ∧ Cond.instanceMethod mMo_findBy.2.1 ∈ zTbl ∧ Cond.selects mMo_findBy.2.1.cls mMo_findBy.2.1 mMo_findBy.2.1 ∈ zTbl := ⟨zi_ml 1256 (by decide +kernel), zi_im 1257 (by decide +kernel), zi_se 1258 (by decide +kernel)⟩
theorem lk13_140 : Cond.methodLink (zON 13) 140 mSR_styled.2.1 ∈ zTbl ∧ Cond.instanceMethod mSR_styled.2.1 ∈ zTbl ∧ Cond.selects mSR_styled.2.1.cls mSR_styled.2.1 mSR_styled.2.1 ∈ zTbl := ⟨zi_ml 752 (by decide +kernel), zi_im 753 (by decide +kernel), zi_se 754 (by decide +kernel)⟩
theorem lk13_143 : Cond.methodLink (zON 13) 143 mMo_styled.2.1 ∈ zTbl ∧ Cond.instanceMethod mMo_styled.2.1 ∈ zTbl ∧ Cond.selects mMo_styled.2.1.cls mMo_styled.2.1 mMo_styled.2.1 ∈ zTbl := ⟨zi_ml 1264 (by decide +kernel), zi_im 1265 (by decide +kernel), zi_se 1266 (by decide +kernel)⟩
theorem lk13_144 : Cond.methodLink (zON 13) 144 mSR_follow.2.1 ∈ zTbl ∧ Cond.instanceMethod mSR_follow.2.1 ∈ zTbl ∧ Cond.selects mSR_follow.2.1.cls mSR_follow.2.1 mSR_follow.2.1 ∈ zTbl := ⟨zi_ml 756 (by decide +kernel), zi_im 757 (by decide +kernel), zi_se 758 (by decide +kernel)⟩
theorem lk13_148 : Cond.methodLink (zON 13) 148 mMo_follow.2.1 ∈ zTbl ∧ Cond.instanceMethod mMo_follow.2.1 ∈ zTbl ∧ Cond.selects mMo_follow.2.1.cls mMo_follow.2.1 mMo_follow.2.1 ∈ zTbl := ⟨zi_ml 1268 (by decide +kernel), zi_im 1269 (by decide +kernel), zi_se 1270 (by decide +kernel)⟩
theorem lk13_149 : Cond.methodLink (zON 13) 149 mSR_through.2.1 ∈ zTbl ∧ Cond.instanceMethod mSR_through.2.1 ∈ zTbl ∧ Cond.selects mSR_through.2.1.cls mSR_through.2.1 mSR_through.2.1 ∈ zTbl := ⟨zi_ml 762 (by decide +kernel), zi_im 763 (by decide +kernel), zi_se 764 (by decide +kernel)⟩
theorem lk13_152 : Cond.methodLink (zON 13) 152 mMo_through.2.1 ∈ zTbl ∧ Cond.instanceMethod mMo_through.2.1 ∈ zTbl ∧ Cond.selects mMo_through.2.1.cls mMo_through.2.1 mMo_through.2.1 ∈ zTbl := ⟨zi_ml 1273 (by decide +kernel), zi_im 1274 (by decide +kernel), zi_se 1275 (by decide +kernel)⟩
theorem lk13_153 : Cond.methodLink (zON 13) 153 mSR_idle.2.1 ∈ zTbl ∧ Cond.instanceMethod mSR_idle.2.1 ∈ zTbl ∧ Cond.selects mSR_idle.2.1.cls mSR_idle.2.1 mSR_idle.2.1 ∈ zTbl := ⟨zi_ml 781 (by decide +kernel), zi_im 782 (by decide +kernel), zi_se 783 (by decide +kernel)⟩
theorem lk13_156 : Cond.methodLink (zON 13) 156 mMo_idle.2.1 ∈ zTbl ∧ Cond.instanceMethod mMo_idle.2.1 ∈ zTbl ∧ Cond.selects mMo_idle.2.1.cls mMo_idle.2.1 mMo_idle.2.1 ∈ zTbl := ⟨zi_ml 1281 (by decide +kernel), zi_im 1282 (by decide +kernel), zi_se 1283 (by decide +kernel)⟩
theorem lk13_157 : Cond.methodLink (zON 13) 157 mSR_raised.2.1 ∈ zTbl ∧ Cond.instanceMethod mSR_raised.2.1 ∈ zTbl ∧ Cond.selects mSR_raised.2.1.cls mSR_raised.2.1 mSR_raised.2.1 ∈ zTbl := ⟨zi_ml 785 (by decide +kernel), zi_im 786 (by decide +kernel), zi_se 787 (by decide +kernel)⟩
theorem lk13_160 : Cond.methodLink (zON 13) 160 mMo_raised.2.1 ∈ zTbl ∧ Cond.instanceMethod mMo_raised.2.1 ∈ zTbl ∧ Cond.selects mMo_raised.2.1.cls mMo_raised.2.1 mMo_raised.2.1 ∈ zTbl := ⟨zi_ml 1285 (by decide +kernel), zi_im 1286 (by decide +kernel), zi_se 1287 (by decide +kernel)⟩
theorem lk13_161 : Cond.methodLink (zON 13) 161 mSR_best.2.1 ∈ zTbl ∧ Cond.instanceMethod mSR_best.2.1 ∈ zTbl ∧ Cond.selects mSR_best.2.1.cls mSR_best.2.1 mSR_best.2.1 ∈ zTbl := ⟨zi_ml 793 (by decide +kernel), zi_im 794 (by decide +kernel), zi_se 795 (by decide +kernel)⟩
theorem lk13_164 : Cond.methodLink (zON 13) 164 mMo_best.2.1 ∈ zTbl ∧ Cond.instanceMethod mMo_best.2.1 ∈ zTbl ∧ Cond.selects mMo_best.2.1.cls mMo_best.2.1 mMo_best.2.1 ∈ zTbl := ⟨zi_ml 1293 (by decide +kernel), zi_im 1294 (by decide +kernel), zi_se 1295 (by decide +kernel)⟩
theorem lk13_165 : Cond.methodLink (zON 13) 165 mSR_crossed.2.1 ∈ zTbl ∧ Cond.instanceMethod mSR_crossed.2.1 ∈ zTbl ∧ Cond.selects mSR_crossed.2.1.cls mSR_crossed.2.1 mSR_crossed.2.1 ∈ zTbl := ⟨zi_ml 797 (by decide +kernel), zi_im 798 (by decide +kernel), zi_se 799 (by decide +kernel)⟩
theorem lk13_168 : Cond.methodLink (zON 13) 168 mMo_crossed.2.1 ∈ zTbl ∧ Cond.instanceMethod mMo_crossed.2.1 ∈ zTbl ∧ Cond.selects mMo_crossed.2.1.cls mMo_crossed.2.1 mMo_crossed.2.1 ∈ zTbl := ⟨zi_ml 1297 (by decide +kernel), zi_im 1298 (by decide +kernel), zi_se 1299 (by decide +kernel)⟩
theorem lk13_169 : Cond.methodLink (zON 13) 169 mSR_count.2.1 ∈ zTbl ∧ Cond.instanceMethod mSR_count.2.1 ∈ zTbl ∧ Cond.selects mSR_count.2.1.cls mSR_count.2.1 mSR_count.2.1 ∈ zTbl := ⟨zi_ml 809 (by decide +kernel), zi_im 810 (by decide +kernel), zi_se 811 (by decide +kernel)⟩
theorem lk13_172 : Cond.methodLink (zON 13) 172 mMo_count.2.1 ∈ zTbl ∧ Cond.instanceMethod mMo_count.2.1 ∈ zTbl ∧ Cond.selects mMo_count.2.1.cls mMo_count.2.1 mMo_count.2.1 ∈ zTbl := ⟨zi_ml 1305 (by decide +kernel), zi_im 1306 (by decide +kernel), zi_se 1307 (by decide +kernel)⟩
theorem lk13_173 : Cond.methodLink (zON 13) 173 mSR_status.2.1 ∈ zTbl ∧ Cond.instanceMethod mSR_status.2.1 ∈ zTbl ∧ Cond.selects mSR_status.2.1.cls mSR_status.2.1 mSR_status.2.1 ∈ zTbl := ⟨zi_ml 844 (by decide +kernel), zi_im 845 (by decide +kernel), zi_se 846 (by decide +kernel)⟩
theorem lk13_176 : Cond.methodLink (zON 13) 176 mMo_status.2.1 ∈ zTbl ∧ Cond.instanceMethod mMo_status.2.1 ∈ zTbl ∧ Cond.selects mMo_status.2.1.cls mMo_status.2.1 mMo_status.2.1 ∈ zTbl := ⟨zi_ml 1325 (by decide +kernel), zi_im 1326 (by decide +kernel), zi_se 1327 (by decide +kernel)⟩
theorem lk10_76 : Cond.methodLink (zON 10) 76 mMo_copy.2.1 ∈ zTbl ∧ Cond.static mMo_copy.2.1 ∈ zTbl := ⟨zi_ml 957 (by decide +kernel), zi_st 958 (by decide +kernel)⟩
theorem lk10_80 : Cond.methodLink (zON 10) 80 mMo_refuse.2.1 ∈ zTbl ∧ Cond.instanceMethod mMo_refuse.2.1 ∈ zTbl ∧ Cond.selects mMo_refuse.2.1.cls mMo_refuse.2.1 mMo_refuse.2.1 ∈ zTbl := ⟨zi_ml 953 (by decide +kernel), zi_im 955 (by decide +kernel), zi_sp 21 (by decide +kernel)⟩
theorem lk10_84 : Cond.methodLink (zON 10) 84 mMo_tell.2.1 ∈ zTbl ∧ Cond.instanceMethod mMo_tell.2.1 ∈ zTbl ∧ Cond.selects mMo_tell.2.1.cls mMo_tell.2.1 mMo_tell.2.1 ∈ zTbl := ⟨zi_ml 960 (by decide +kernel), zi_im 962 (by decide +kernel), zi_sp 22 (by decide +kernel)⟩
theorem lk10_87 : Cond.methodLink (zON 10) 87 mMo_in.2.1 ∈ zTbl ∧ Cond.static mMo_in.2.1 ∈ zTbl := ⟨zi_ml 968 (by decide +kernel), zi_st 969 (by decide +kernel)⟩
theorem lk10_91 : Cond.methodLink (zON 10) 91 mMo_spanAt.2.1 ∈ zTbl ∧ Cond.static mMo_spanAt.2.1 ∈ zTbl := ⟨zi_ml 1020 (by decide +kernel), zi_st 1021 (by decide +kernel)⟩
theorem lk10_94 : Cond.methodLink (zON 10) 94 mMo_anchorAt.2.1 ∈ zTbl ∧ Cond.static mMo_anchorAt.2.1 ∈ zTbl := ⟨zi_ml 1026 (by decide +kernel), zi_st 1027 (by decide +kernel)⟩
theorem lk10_97 : Cond.methodLink (zON 10) 97 mMo_isPlace.2.1 ∈ zTbl ∧ Cond.instanceMethod mMo_isPlace.2.1 ∈ zTbl ∧ Cond.selects mMo_isPlace.2.1.cls mMo_isPlace.2.1 mMo_isPlace.2.1 ∈ zTbl := ⟨zi_ml 995 (by decide +kernel), zi_im 997 (by decide +kernel), zi_sp 24 (by decide +kernel)⟩
theorem lk10_105 : Cond.methodLink (zON 10) 105 mMo_onward.2.1 ∈ zTbl ∧ Cond.static mMo_onward.2.1 ∈ zTbl := ⟨zi_ml 1023 (by decide +kernel), zi_st 1024 (by decide +kernel)⟩
theorem lk10_109 : Cond.methodLink (zON 10) 109 mMo_backward.2.1 ∈ zTbl ∧ Cond.static mMo_backward.2.1 ∈ zTbl := ⟨zi_ml 1048 (by decide +kernel), zi_st 1049 (by decide +kernel)⟩
theorem lk10_116 : Cond.methodLink (zON 10) 116 mMo_comes.2.1 ∈ zTbl ∧ Cond.instanceMethod mMo_comes.2.1 ∈ zTbl ∧ Cond.selects mMo_comes.2.1.cls mMo_comes.2.1 mMo_comes.2.1 ∈ zTbl := ⟨zi_ml 979 (by decide +kernel), zi_im 981 (by decide +kernel), zi_sp 23 (by decide +kernel)⟩
theorem lk10_120 : Cond.methodLink (zON 10) 120 mMo_isByte.2.1 ∈ zTbl ∧ Cond.static mMo_isByte.2.1 ∈ zTbl := ⟨zi_ml 1003 (by decide +kernel), zi_st 1004 (by decide +kernel)⟩
theorem lk10_123 : Cond.methodLink (zON 10) 123 mMo_areLetters.2.1 ∈ zTbl ∧ Cond.instanceMethod mMo_areLetters.2.1 ∈ zTbl ∧ Cond.selects mMo_areLetters.2.1.cls mMo_areLetters.2.1 mMo_areLetters.2.1 ∈ zTbl := ⟨zi_ml 999 (by decide +kernel), zi_im 1001 (by decide +kernel), zi_sp 25 (by decide +kernel)⟩
theorem lk10_127 : Cond.methodLink (zON 10) 127 mMo_remember.2.1 ∈ zTbl ∧ Cond.instanceMethod mMo_remember.2.1 ∈ zTbl ∧ Cond.selects mMo_remember.2.1.cls mMo_remember.2.1 mMo_remember.2.1 ∈ zTbl := ⟨zi_ml 1008 (by decide +kernel), zi_im 1010 (by decide +kernel), zi_sp 26 (by decide +kernel)⟩
theorem lk10_130 : Cond.methodLink (zON 10) 130 mMo_noteAct.2.1 ∈ zTbl ∧ Cond.instanceMethod mMo_noteAct.2.1 ∈ zTbl ∧ Cond.selects mMo_noteAct.2.1.cls mMo_noteAct.2.1 mMo_noteAct.2.1 ∈ zTbl := ⟨zi_ml 1012 (by decide +kernel), zi_im 1014 (by decide +kernel), zi_sp 27 (by decide +kernel)⟩
theorem lk10_134 : Cond.methodLink (zON 10) 134 mMo_makeRoom.2.1 ∈ zTbl ∧ Cond.instanceMethod mMo_makeRoom.2.1 ∈ zTbl ∧ Cond.selects mMo_makeRoom.2.1.cls mMo_makeRoom.2.1 mMo_makeRoom.2.1 ∈ zTbl := ⟨zi_ml 1016 (by decide +kernel), zi_im 1018 (by decide +kernel), zi_sp 28 (by decide +kernel)⟩
theorem lk10_138 : Cond.methodLink (zON 10) 138 mMo_comeFrom.2.1 ∈ zTbl ∧ Cond.instanceMethod mMo_comeFrom.2.1 ∈ zTbl ∧ Cond.selects mMo_comeFrom.2.1.cls mMo_comeFrom.2.1 mMo_comeFrom.2.1 ∈ zTbl := ⟨zi_ml 1029 (by decide +kernel), zi_im 1031 (by decide +kernel), zi_sp 29 (by decide +kernel)⟩
theorem lk10_141 : Cond.methodLink (zON 10) 141 mMo_letterAt.2.1 ∈ zTbl ∧ Cond.static mMo_letterAt.2.1 ∈ zTbl := ⟨zi_ml 1033 (by decide +kernel), zi_st 1034 (by decide +kernel)⟩
theorem lk10_144 : Cond.methodLink (zON 10) 144 mMo_isRange.2.1 ∈ zTbl ∧ Cond.instanceMethod mMo_isRange.2.1 ∈ zTbl ∧ Cond.selects mMo_isRange.2.1.cls mMo_isRange.2.1 mMo_isRange.2.1 ∈ zTbl := ⟨zi_ml 1040 (by decide +kernel), zi_im 1042 (by decide +kernel), zi_sp 30 (by decide +kernel)⟩
theorem lk10_148 : Cond.methodLink (zON 10) 148 mMo_takeOut.2.1 ∈ zTbl ∧ Cond.instanceMethod mMo_takeOut.2.1 ∈ zTbl ∧ Cond.selects mMo_takeOut.2.1.cls mMo_takeOut.2.1 mMo_takeOut.2.1 ∈ zTbl := ⟨zi_ml 1044 (by decide +kernel), zi_im 1046 (by decide +kernel), zi_sp 31 (by decide +kernel)⟩
theorem lk10_151 : Cond.methodLink (zON 10) 151 mMo_isSpan.2.1 ∈ zTbl ∧ Cond.instanceMethod mMo_isSpan.2.1 ∈ zTbl ∧ Cond.selects mMo_isSpan.2.1.cls mMo_isSpan.2.1 mMo_isSpan.2.1 ∈ zTbl := ⟨zi_ml 1059 (by decide +kernel), zi_im 1061 (by decide +kernel), zi_sp 32 (by decide +kernel)⟩
theorem lk10_154 : Cond.methodLink (zON 10) 154 mMo_isAnchor.2.1 ∈ zTbl ∧ Cond.instanceMethod mMo_isAnchor.2.1 ∈ zTbl ∧ Cond.selects mMo_isAnchor.2.1.cls mMo_isAnchor.2.1 mMo_isAnchor.2.1 ∈ zTbl := ⟨zi_ml 1063 (by decide +kernel), zi_im 1065 (by decide +kernel), zi_sp 33 (by decide +kernel)⟩
theorem lk10_169 : Cond.methodLink (zON 10) 169 mMo_isLook.2.1 ∈ zTbl ∧ Cond.static mMo_isLook.2.1 ∈ zTbl := ⟨zi_ml 1072 (by decide +kernel), zi_st 1073 (by decide +kernel)⟩
theorem lk10_173 : Cond.methodLink (zON 10) 173 mMo_spans.2.1 ∈ zTbl ∧ Cond.instanceMethod mMo_spans.2.1 ∈ zTbl ∧ Cond.selects mMo_spans.2.1.cls mMo_spans.2.1 mMo_spans.2.1 ∈ zTbl := ⟨zi_ml 1084 (by decide +kernel), zi_im 1086 (by decide +kernel), zi_sp 34 (by decide +kernel)⟩
theorem lk10_186 : Cond.methodLink (zON 10) 186 mMo_takePaint.2.1 ∈ zTbl ∧ Cond.instanceMethod mMo_takePaint.2.1 ∈ zTbl ∧ Cond.selects mMo_takePaint.2.1.cls mMo_takePaint.2.1 mMo_takePaint.2.1 ∈ zTbl := ⟨zi_ml 1100 (by decide +kernel), zi_im 1102 (by decide +kernel), zi_sp 35 (by decide +kernel)⟩
theorem lk10_189 : Cond.methodLink (zON 10) 189 mMo_isOver.2.1 ∈ zTbl ∧ Cond.instanceMethod mMo_isOver.2.1 ∈ zTbl ∧ Cond.selects mMo_isOver.2.1.cls mMo_isOver.2.1 mMo_isOver.2.1 ∈ zTbl := ⟨zi_ml 1120 (by decide +kernel), zi_im 1122 (by decide +kernel), zi_sp 39 (by decide +kernel)⟩
theorem lk10_192 : Cond.methodLink (zON 10) 192 mMo_look.2.1 ∈ zTbl ∧ Cond.instanceMethod mMo_look.2.1 ∈ zTbl ∧ Cond.selects mMo_look.2.1.cls mMo_look.2.1 mMo_look.2.1 ∈ zTbl := ⟨zi_ml 1104 (by decide +kernel), zi_im 1106 (by decide +kernel), zi_sp 36 (by decide +kernel)⟩
theorem lk10_196 : Cond.methodLink (zON 10) 196 mMo_takeStyle.2.1 ∈ zTbl ∧ Cond.instanceMethod mMo_takeStyle.2.1 ∈ zTbl ∧ Cond.selects mMo_takeStyle.2.1.cls mMo_takeStyle.2.1 mMo_takeStyle.2.1 ∈ zTbl := ⟨zi_ml 1116 (by decide +kernel), zi_im 1118 (by decide +kernel), zi_sp 38 (by decide +kernel)⟩
theorem lk10_200 : Cond.methodLink (zON 10) 200 mMo_layPaint.2.1 ∈ zTbl ∧ Cond.instanceMethod mMo_layPaint.2.1 ∈ zTbl ∧ Cond.selects mMo_layPaint.2.1.cls mMo_layPaint.2.1 mMo_layPaint.2.1 ∈ zTbl := ⟨zi_ml 1108 (by decide +kernel), zi_im 1110 (by decide +kernel), zi_sp 37 (by decide +kernel)⟩
theorem lk10_210 : Cond.methodLink (zON 10) 210 mMo_byteAt.2.1 ∈ zTbl ∧ Cond.instanceMethod mMo_byteAt.2.1 ∈ zTbl ∧ Cond.selects mMo_byteAt.2.1.cls mMo_byteAt.2.1 mMo_byteAt.2.1 ∈ zTbl := ⟨zi_ml 1136 (by decide +kernel), zi_im 1138 (by decide +kernel), zi_sp 40 (by decide +kernel)⟩
theorem lk10_213 : Cond.methodLink (zON 10) 213 mMo_flagOf.2.1 ∈ zTbl ∧ Cond.static mMo_flagOf.2.1 ∈ zTbl := ⟨zi_ml 1144 (by decide +kernel), zi_st 1145 (by decide +kernel)⟩
theorem lk10_216 : Cond.methodLink (zON 10) 216 mMo_wrong.2.1 ∈ zTbl ∧ Cond.instanceMethod mMo_wrong.2.1 ∈ zTbl ∧ Cond.selects mMo_wrong.2.1.cls mMo_wrong.2.1 mMo_wrong.2.1 ∈ zTbl := ⟨zi_ml 1147 (by decide +kernel), zi_im 1149 (by decide +kernel), zi_sp 42 (by decide +kernel)⟩
theorem lk10_225 : Cond.methodLink (zON 10) 225 mMo_readMark.2.1 ∈ zTbl ∧ Cond.instanceMethod mMo_readMark.2.1 ∈ zTbl ∧ Cond.selects mMo_readMark.2.1.cls mMo_readMark.2.1 mMo_readMark.2.1 ∈ zTbl := ⟨zi_ml 1140 (by decide +kernel), zi_im 1142 (by decide +kernel), zi_sp 41 (by decide +kernel)⟩
theorem lk10_228 : Cond.methodLink (zON 10) 228 mMo_readLetter.2.1 ∈ zTbl ∧ Cond.instanceMethod mMo_readLetter.2.1 ∈ zTbl ∧ Cond.selects mMo_readLetter.2.1.cls mMo_readLetter.2.1 mMo_readLetter.2.1 ∈ zTbl := ⟨zi_ml 1151 (by decide +kernel), zi_im 1153 (by decide +kernel), zi_sp 43 (by decide +kernel)⟩
theorem lk10_234 : Cond.methodLink (zON 10) 234 mMo_has.2.1 ∈ zTbl ∧ Cond.instanceMethod mMo_has.2.1 ∈ zTbl ∧ Cond.selects mMo_has.2.1.cls mMo_has.2.1 mMo_has.2.1 ∈ zTbl := ⟨zi_ml 1175 (by decide +kernel), zi_im 1177 (by decide +kernel), zi_sp 47 (by decide +kernel)⟩
theorem lk10_237 : Cond.methodLink (zON 10) 237 mMo_put.2.1 ∈ zTbl ∧ Cond.instanceMethod mMo_put.2.1 ∈ zTbl ∧ Cond.selects mMo_put.2.1.cls mMo_put.2.1 mMo_put.2.1 ∈ zTbl := ⟨zi_ml 1183 (by decide +kernel), zi_im 1185 (by decide +kernel), zi_sp 49 (by decide +kernel)⟩
theorem lk10_240 : Cond.methodLink (zON 10) 240 mMo_isOpen.2.1 ∈ zTbl ∧ Cond.instanceMethod mMo_isOpen.2.1 ∈ zTbl ∧ Cond.selects mMo_isOpen.2.1.cls mMo_isOpen.2.1 mMo_isOpen.2.1 ∈ zTbl := ⟨zi_ml 1191 (by decide +kernel), zi_im 1193 (by decide +kernel), zi_sp 51 (by decide +kernel)⟩
theorem lk10_243 : Cond.methodLink (zON 10) 243 mMo_hasAll.2.1 ∈ zTbl ∧ Cond.instanceMethod mMo_hasAll.2.1 ∈ zTbl ∧ Cond.selects mMo_hasAll.2.1.cls mMo_hasAll.2.1 mMo_hasAll.2.1 ∈ zTbl := ⟨zi_ml 1171 (by decide +kernel), zi_im 1173 (by decide +kernel), zi_sp 46 (by decide +kernel)⟩
theorem lk10_246 : Cond.methodLink (zON 10) 246 mMo_closes.2.1 ∈ zTbl ∧ Cond.instanceMethod mMo_closes.2.1 ∈ zTbl ∧ Cond.selects mMo_closes.2.1.cls mMo_closes.2.1 mMo_closes.2.1 ∈ zTbl := ⟨zi_ml 1179 (by decide +kernel), zi_im 1181 (by decide +kernel), zi_sp 48 (by decide +kernel)⟩
theorem lk10_249 : Cond.methodLink (zON 10) 249 mMo_opens.2.1 ∈ zTbl ∧ Cond.instanceMethod mMo_opens.2.1 ∈ zTbl ∧ Cond.selects mMo_opens.2.1.cls mMo_opens.2.1 mMo_opens.2.1 ∈ zTbl := ⟨zi_ml 1187 (by decide +kernel), zi_im 1189 (by decide +kernel), zi_sp 50 (by decide +kernel)⟩
theorem lk10_252 : Cond.methodLink (zON 10) 252 mMo_marks.2.1 ∈ zTbl ∧ Cond.instanceMethod mMo_marks.2.1 ∈ zTbl ∧ Cond.selects mMo_marks.2.1.cls mMo_marks.2.1 mMo_marks.2.1 ∈ zTbl := ⟨zi_ml 1167 (by decide +kernel), zi_im 1169 (by decide +kernel), zi_sp 45 (by decide +kernel)⟩
theorem lk10_255 : Cond.methodLink (zON 10) 255 mMo_writes.2.1 ∈ zTbl ∧ Cond.instanceMethod mMo_writes.2.1 ∈ zTbl ∧ Cond.selects mMo_writes.2.1.cls mMo_writes.2.1 mMo_writes.2.1 ∈ zTbl := ⟨zi_ml 1163 (by decide +kernel), zi_im 1165 (by decide +kernel), zi_sp 44 (by decide +kernel)⟩
theorem lk10_258 : Cond.methodLink (zON 10) 258 mMo_isLetter.2.1 ∈ zTbl ∧ Cond.instanceMethod mMo_isLetter.2.1 ∈ zTbl ∧ Cond.selects mMo_isLetter.2.1.cls mMo_isLetter.2.1 mMo_isLetter.2.1 ∈ zTbl := ⟨zi_ml 1199 (by decide +kernel), zi_im 1201 (by decide +kernel), zi_sp 52 (by decide +kernel)⟩
theorem lk10_265 : Cond.methodLink (zON 10) 265 mMo_styleOf.2.1 ∈ zTbl ∧ Cond.instanceMethod mMo_styleOf.2.1 ∈ zTbl ∧ Cond.selects mMo_styleOf.2.1.cls mMo_styleOf.2.1 mMo_styleOf.2.1 ∈ zTbl := ⟨zi_ml 1209 (by decide +kernel), zi_im 1211 (by decide +kernel), zi_sp 53 (by decide +kernel)⟩
theorem lk10_272 : Cond.methodLink (zON 10) 272 mMo_layRuns.2.1 ∈ zTbl ∧ Cond.instanceMethod mMo_layRuns.2.1 ∈ zTbl ∧ Cond.selects mMo_layRuns.2.1.cls mMo_layRuns.2.1 mMo_layRuns.2.1 ∈ zTbl := ⟨zi_ml 1217 (by decide +kernel), zi_im 1219 (by decide +kernel), zi_sp 54 (by decide +kernel)⟩
theorem lk10_277 : Cond.methodLink (zON 10) 277 mMo_tellsOf.2.1 ∈ zTbl ∧ Cond.instanceMethod mMo_tellsOf.2.1 ∈ zTbl ∧ Cond.selects mMo_tellsOf.2.1.cls mMo_tellsOf.2.1 mMo_tellsOf.2.1 ∈ zTbl := ⟨zi_ml 1230 (by decide +kernel), zi_im 1232 (by decide +kernel), zi_sp 55 (by decide +kernel)⟩
theorem lk10_283 : Cond.methodLink (zON 10) 283 mMo_isIdle.2.1 ∈ zTbl ∧ Cond.instanceMethod mMo_isIdle.2.1 ∈ zTbl ∧ Cond.selects mMo_isIdle.2.1.cls mMo_isIdle.2.1 mMo_isIdle.2.1 ∈ zTbl := ⟨zi_ml 1239 (by decide +kernel), zi_im 1241 (by decide +kernel), zi_sp 56 (by decide +kernel)⟩
theorem lk10_288 : Cond.methodLink (zON 10) 288 mMo_stands.2.1 ∈ zTbl ∧ Cond.instanceMethod mMo_stands.2.1 ∈ zTbl ∧ Cond.selects mMo_stands.2.1.cls mMo_stands.2.1 mMo_stands.2.1 ∈ zTbl := ⟨zi_ml 1252 (by decide +kernel), zi_im 1254 (by decide +kernel), zi_sp 57 (by decide +kernel)⟩
theorem lk10_291 : Cond.methodLink (zON 10) 291 mMo_isSo.2.1 ∈ zTbl ∧ Cond.instanceMethod mMo_isSo.2.1 ∈ zTbl ∧ Cond.selects mMo_isSo.2.1.cls mMo_isSo.2.1 mMo_isSo.2.1 ∈ zTbl := ⟨zi_ml 1260 (by decide +kernel), zi_im 1262 (by decide +kernel), zi_sp 58 (by decide +kernel)⟩
theorem lk10_296 : Cond.methodLink (zON 10) 296 mMo_behind.2.1 ∈ zTbl ∧ Cond.instanceMethod mMo_behind.2.1 ∈ zTbl ∧ Cond.selects mMo_behind.2.1.cls mMo_behind.2.1 mMo_behind.2.1 ∈ zTbl := ⟨zi_ml 1277 (by decide +kernel), zi_im 1279 (by decide +kernel), zi_sp 59 (by decide +kernel)⟩
theorem lk10_299 : Cond.methodLink (zON 10) 299 mMo_runsBy.2.1 ∈ zTbl ∧ Cond.instanceMethod mMo_runsBy.2.1 ∈ zTbl ∧ Cond.selects mMo_runsBy.2.1.cls mMo_runsBy.2.1 mMo_runsBy.2.1 ∈ zTbl := ⟨zi_ml 1289 (by decide +kernel), zi_im 1291 (by decide +kernel), zi_sp 60 (by decide +kernel)⟩
theorem lk10_302 : Cond.methodLink (zON 10) 302 mMo_isWithin.2.1 ∈ zTbl ∧ Cond.instanceMethod mMo_isWithin.2.1 ∈ zTbl ∧ Cond.selects mMo_isWithin.2.1.cls mMo_isWithin.2.1 mMo_isWithin.2.1 ∈ zTbl := ⟨zi_ml 1301 (by decide +kernel), zi_im 1303 (by decide +kernel), zi_sp 61 (by decide +kernel)⟩
theorem lk10_305 : Cond.methodLink (zON 10) 305 mMo_ofAnchors.2.1 ∈ zTbl ∧ Cond.instanceMethod mMo_ofAnchors.2.1 ∈ zTbl ∧ Cond.selects mMo_ofAnchors.2.1.cls mMo_ofAnchors.2.1 mMo_ofAnchors.2.1 ∈ zTbl := ⟨zi_ml 1309 (by decide +kernel), zi_im 1311 (by decide +kernel), zi_sp 62 (by decide +kernel)⟩
theorem lk10_308 : Cond.methodLink (zON 10) 308 mMo_longest.2.1 ∈ zTbl ∧ Cond.instanceMethod mMo_longest.2.1 ∈ zTbl ∧ Cond.selects mMo_longest.2.1.cls mMo_longest.2.1 mMo_longest.2.1 ∈ zTbl := ⟨zi_ml 1313 (by decide +kernel), zi_im 1315 (by decide +kernel), zi_sp 63 (by decide +kernel)⟩
theorem lk10_312 : Cond.methodLink (zON 10) 312 mMo_unlike.2.1 ∈ zTbl ∧ Cond.instanceMethod mMo_unlike.2.1 ∈ zTbl ∧ Cond.selects mMo_unlike.2.1.cls mMo_unlike.2.1 mMo_unlike.2.1 ∈ zTbl := ⟨zi_ml 1317 (by decide +kernel), zi_im 1319 (by decide +kernel), zi_sp 64 (by decide +kernel)⟩
theorem lk10_315 : Cond.methodLink (zON 10) 315 mMo_highest.2.1 ∈ zTbl ∧ Cond.instanceMethod mMo_highest.2.1 ∈ zTbl ∧ Cond.selects mMo_highest.2.1.cls mMo_highest.2.1 mMo_highest.2.1 ∈ zTbl := ⟨zi_ml 1321 (by decide +kernel), zi_im 1323 (by decide +kernel), zi_sp 65 (by decide +kernel)⟩
end
section
/-! facts on single cells: printed by wip/whole/gen_facts.py -/
theorem zA {p : Prop} {ps : List Prop} (h : p) (hs : zall ps) : zall (p :: ps) := ⟨h, hs⟩
theorem zsw_out {x : Int32} {n : Nat} {hi : Int} (hn : (n : Int) = hi + 1) (h : ∀ j : Nat, j < n → ¬ x = nI j) : x.toInt < 0 ∨ hi < x.toInt := by
  by_cases h0 : x.toInt < 0
  · exact Or.inl h0
  · right
    obtain ⟨j, hj, rfl⟩ := nI_of (x := x) (fun q => h0 (by rw [Int32.lt_iff_toInt_lt] at q; simpa using q))
    rw [nI_toInt hj]
    by_cases hjn : j < n
    · exact absurd rfl (h j hjn)
    · omega
section
variable {sg : zSig} {i : Int32}
theorem zob_0 : zOb (zN sg) 0 9 := ⟨(by decide : 0 < 411), rfl⟩
theorem zob_1 : zOb (zN sg) 1 5 := ⟨(by decide : 1 < 411), rfl⟩
theorem zin_2 (h0 : 0 ≤ i) (h1 : i < 200) : zIn (zN sg) 2 0 i := ⟨(by decide : 2 < 411), rfl, rfl, h0, h1⟩
theorem zinL_2 (h0 : 0 ≤ i) (h1 : i < 200) : zInL (zN sg) 2 i := Or.inl (zin_2 h0 h1)
theorem zin_3 (h0 : 0 ≤ i) (h1 : i < 200) : zIn (zN sg) 3 0 i := ⟨(by decide : 3 < 411), rfl, rfl, h0, h1⟩
theorem zinL_3 (h0 : 0 ≤ i) (h1 : i < 200) : zInL (zN sg) 3 i := Or.inl (zin_3 h0 h1)
theorem zob_34 : zOb (zN sg) 34 7 := ⟨(by decide : 34 < 411), rfl⟩
theorem zin_35 (h0 : 0 ≤ i) (h1 : i < 400) : zIn (zN sg) 35 0 i := ⟨(by decide : 35 < 411), rfl, rfl, h0, h1⟩
theorem zinL_35 (h0 : 0 ≤ i) (h1 : i < 400) : zInL (zN sg) 35 i := Or.inl (zin_35 h0 h1)
theorem zob_36 : zOb (zN sg) 36 2 := ⟨(by decide : 36 < 411), rfl⟩
theorem zin_312 (h0 : 0 ≤ i) (h1 : i < 2) : zIn (zN sg) 312 2 i := ⟨(by decide : 312 < 411), rfl, rfl, h0, h1⟩
theorem zob_313 : zOb (zN sg) 313 3 := ⟨(by decide : 313 < 411), rfl⟩
theorem zin_314 (h0 : 0 ≤ i) (h1 : i < 200) : zIn (zN sg) 314 0 i := ⟨(by decide : 314 < 411), rfl, rfl, h0, h1⟩
theorem zinL_314 (h0 : 0 ≤ i) (h1 : i < 200) : zInL (zN sg) 314 i := Or.inl (zin_314 h0 h1)
theorem zob_315 : zOb (zN sg) 315 3 := ⟨(by decide : 315 < 411), rfl⟩
theorem zin_316 (h0 : 0 ≤ i) (h1 : i < 200) : zIn (zN sg) 316 0 i := ⟨(by decide : 316 < 411), rfl, rfl, h0, h1⟩
theorem zinL_316 (h0 : 0 ≤ i) (h1 : i < 200) : zInL (zN sg) 316 i := Or.inl (zin_316 h0 h1)
theorem zob_317 : zOb (zN sg) 317 4 := ⟨(by decide : 317 < 411), rfl⟩
theorem zin_318 (h0 : 0 ≤ i) (h1 : i < 200) : zIn (zN sg) 318 0 i := ⟨(by decide : 318 < 411), rfl, rfl, h0, h1⟩
theorem zinL_318 (h0 : 0 ≤ i) (h1 : i < 200) : zInL (zN sg) 318 i := Or.inl (zin_318 h0 h1)
theorem zin_319 (h0 : 0 ≤ i) (h1 : i < 200) : zIn (zN sg) 319 0 i := ⟨(by decide : 319 < 411), rfl, rfl, h0, h1⟩
theorem zinL_319 (h0 : 0 ≤ i) (h1 : i < 200) : zInL (zN sg) 319 i := Or.inl (zin_319 h0 h1)
theorem zin_320 (h0 : 0 ≤ i) (h1 : i < 8) : zIn (zN sg) 320 0 i := ⟨(by decide : 320 < 411), rfl, rfl, h0, h1⟩
theorem zinL_320 (h0 : 0 ≤ i) (h1 : i < 8) : zInL (zN sg) 320 i := Or.inl (zin_320 h0 h1)
theorem zin_321 (h0 : 0 ≤ i) (h1 : i < 9) : zIn (zN sg) 321 0 i := ⟨(by decide : 321 < 411), rfl, rfl, h0, h1⟩
theorem zinL_321 (h0 : 0 ≤ i) (h1 : i < 9) : zInL (zN sg) 321 i := Or.inl (zin_321 h0 h1)
theorem zob_322 : zOb (zN sg) 322 8 := ⟨(by decide : 322 < 411), rfl⟩
theorem zin_323 (h0 : 0 ≤ i) (h1 : i < 400) : zIn (zN sg) 323 0 i := ⟨(by decide : 323 < 411), rfl, rfl, h0, h1⟩
theorem zinL_323 (h0 : 0 ≤ i) (h1 : i < 400) : zInL (zN sg) 323 i := Or.inl (zin_323 h0 h1)
theorem zin_324 (h0 : 0 ≤ i) (h1 : i < 6) : zIn (zN sg) 324 0 i := ⟨(by decide : 324 < 411), rfl, rfl, h0, h1⟩
theorem zinL_324 (h0 : 0 ≤ i) (h1 : i < 6) : zInL (zN sg) 324 i := Or.inl (zin_324 h0 h1)
theorem zin_325 (h0 : 0 ≤ i) (h1 : i < 6) : zIn (zN sg) 325 0 i := ⟨(by decide : 325 < 411), rfl, rfl, h0, h1⟩
theorem zinL_325 (h0 : 0 ≤ i) (h1 : i < 6) : zInL (zN sg) 325 i := Or.inl (zin_325 h0 h1)
theorem zin_326 (h0 : 0 ≤ i) (h1 : i < 7) : zIn (zN sg) 326 0 i := ⟨(by decide : 326 < 411), rfl, rfl, h0, h1⟩
theorem zinL_326 (h0 : 0 ≤ i) (h1 : i < 7) : zInL (zN sg) 326 i := Or.inl (zin_326 h0 h1)
theorem zob_393 : zOb (zN sg) 393 10 := ⟨(by decide : 393 < 411), rfl⟩
theorem zin_394 (h0 : 0 ≤ i) (h1 : i < 7) : zIn (zN sg) 394 0 i := ⟨(by decide : 394 < 411), rfl, rfl, h0, h1⟩
theorem zinL_394 (h0 : 0 ≤ i) (h1 : i < 7) : zInL (zN sg) 394 i := Or.inl (zin_394 h0 h1)
theorem zin_395 (h0 : 0 ≤ i) (h1 : i < 995) : zIn (zN sg) 395 0 i := ⟨(by decide : 395 < 411), rfl, rfl, h0, h1⟩
theorem zinL_395 (h0 : 0 ≤ i) (h1 : i < 995) : zInL (zN sg) 395 i := Or.inl (zin_395 h0 h1)
theorem zin_396 (h0 : 0 ≤ i) (h1 : i < 7960) : zIn (zN sg) 396 0 i := ⟨(by decide : 396 < 411), rfl, rfl, h0, h1⟩
theorem zinL_396 (h0 : 0 ≤ i) (h1 : i < 7960) : zInL (zN sg) 396 i := Or.inl (zin_396 h0 h1)
theorem zin_397 (h0 : 0 ≤ i) (h1 : i < 8) : zIn (zN sg) 397 0 i := ⟨(by decide : 397 < 411), rfl, rfl, h0, h1⟩
theorem zinL_397 (h0 : 0 ≤ i) (h1 : i < 8) : zInL (zN sg) 397 i := Or.inl (zin_397 h0 h1)
theorem zin_398 (h0 : 0 ≤ i) (h1 : i < 24) : zIn (zN sg) 398 0 i := ⟨(by decide : 398 < 411), rfl, rfl, h0, h1⟩
theorem zinL_398 (h0 : 0 ≤ i) (h1 : i < 24) : zInL (zN sg) 398 i := Or.inl (zin_398 h0 h1)
theorem zin_399 (h0 : 0 ≤ i) (h1 : i < 1990) : zIn (zN sg) 399 0 i := ⟨(by decide : 399 < 411), rfl, rfl, h0, h1⟩
theorem zinL_399 (h0 : 0 ≤ i) (h1 : i < 1990) : zInL (zN sg) 399 i := Or.inl (zin_399 h0 h1)
theorem zin_400 (h0 : 0 ≤ i) (h1 : i < 2) : zIn (zN sg) 400 2 i := ⟨(by decide : 400 < 411), rfl, rfl, h0, h1⟩
theorem zin_401 (h0 : 0 ≤ i) (h1 : i < 400) : zIn (zN sg) 401 1 i := ⟨(by decide : 401 < 411), rfl, rfl, h0, h1⟩
theorem zin_402 (h0 : 0 ≤ i) (h1 : i < 16) : zIn (zN sg) 402 2 i := ⟨(by decide : 402 < 411), rfl, rfl, h0, h1⟩
theorem zin_403 (h0 : 0 ≤ i) (h1 : i < 12) : zIn (zN sg) 403 2 i := ⟨(by decide : 403 < 411), rfl, rfl, h0, h1⟩
theorem zin_404 (h0 : 0 ≤ i) (h1 : i < 800) : zIn (zN sg) 404 0 i := ⟨(by decide : 404 < 411), rfl, rfl, h0, h1⟩
theorem zinL_404 (h0 : 0 ≤ i) (h1 : i < 800) : zInL (zN sg) 404 i := Or.inl (zin_404 h0 h1)
theorem zin_405 (h0 : 0 ≤ i) (h1 : i < 800) : zIn (zN sg) 405 0 i := ⟨(by decide : 405 < 411), rfl, rfl, h0, h1⟩
theorem zinL_405 (h0 : 0 ≤ i) (h1 : i < 800) : zInL (zN sg) 405 i := Or.inl (zin_405 h0 h1)
theorem zin_406 (h0 : 0 ≤ i) (h1 : i < 8) : zIn (zN sg) 406 0 i := ⟨(by decide : 406 < 411), rfl, rfl, h0, h1⟩
theorem zinL_406 (h0 : 0 ≤ i) (h1 : i < 8) : zInL (zN sg) 406 i := Or.inl (zin_406 h0 h1)
theorem zin_407 (h0 : 0 ≤ i) (h1 : i < 8) : zIn (zN sg) 407 0 i := ⟨(by decide : 407 < 411), rfl, rfl, h0, h1⟩
theorem zinL_407 (h0 : 0 ≤ i) (h1 : i < 8) : zInL (zN sg) 407 i := Or.inl (zin_407 h0 h1)
theorem zin_408 (h0 : 0 ≤ i) (h1 : i < 10000) : zIn (zN sg) 408 1 i := ⟨(by decide : 408 < 411), rfl, rfl, h0, h1⟩
theorem zin_409 (h0 : 0 ≤ i) (h1 : i < 201) : zIn (zN sg) 409 0 i := ⟨(by decide : 409 < 411), rfl, rfl, h0, h1⟩
theorem zinL_409 (h0 : 0 ≤ i) (h1 : i < 201) : zInL (zN sg) 409 i := Or.inl (zin_409 h0 h1)
theorem zin_410 (h0 : 0 ≤ i) (h1 : i < 200) : zIn (zN sg) 410 0 i := ⟨(by decide : 410 < 411), rfl, rfl, h0, h1⟩
theorem zinL_410 (h0 : 0 ≤ i) (h1 : i < 200) : zInL (zN sg) 410 i := Or.inl (zin_410 h0 h1)
theorem zinL_100000 (h0 : 0 ≤ i) (h1 : i < 6) : zInL (zN sg) 100000 i := Or.inr (Or.inl ⟨rfl, h0, h1⟩)
theorem zel_4 (h0 : 0 ≤ i) (h1 : i < 16) : ∃ j : Nat, j < 16 ∧ i = nI j ∧ zel 4 i = 6 + 1 * j := by
  obtain ⟨j, hj, rfl⟩ := vp_in_of (zvp_in (n := 16) (by decide) h0 h1) (by decide)
  exact ⟨j, hj, rfl, by show 4 + 2 + 1 * (nI j).toNatClampNeg = _; rw [nI_clamp (by omega)]⟩
theorem zinR_4 (h0 : 0 ≤ i) (h1 : i < 16) : zInR (zN sg) 4 i := by
  obtain ⟨j, hj, rfl, he⟩ := zel_4 h0 h1
  refine ⟨(by decide : 4 < 411), rfl, h0, h1, rfl, ?_⟩
  have : zel 4 (nI j) < 100000 := by rw [he]; omega
  exact this
theorem zel_ob4 (h0 : 0 ≤ i) (h1 : i < 16) : zOb (zN sg) (zel 4 i) 6 := by
  obtain ⟨j, hj, rfl, he⟩ := zel_4 h0 h1
  rw [he]
  refine ⟨by show _ < 411; omega, ?_⟩
  have key : ∀ j, j < 16 → zSh (6 + 1 * j) = (0, 6, 0) := by decide +kernel
  exact key j hj
theorem zel_5 (h0 : 0 ≤ i) (h1 : i < 12) : ∃ j : Nat, j < 12 ∧ i = nI j ∧ zel 5 i = 22 + 1 * j := by
  obtain ⟨j, hj, rfl⟩ := vp_in_of (zvp_in (n := 12) (by decide) h0 h1) (by decide)
  exact ⟨j, hj, rfl, by show 5 + 17 + 1 * (nI j).toNatClampNeg = _; rw [nI_clamp (by omega)]⟩
theorem zinR_5 (h0 : 0 ≤ i) (h1 : i < 12) : zInR (zN sg) 5 i := by
  obtain ⟨j, hj, rfl, he⟩ := zel_5 h0 h1
  refine ⟨(by decide : 5 < 411), rfl, h0, h1, rfl, ?_⟩
  have : zel 5 (nI j) < 100000 := by rw [he]; omega
  exact this
theorem zel_ob5 (h0 : 0 ≤ i) (h1 : i < 12) : zOb (zN sg) (zel 5 i) 1 := by
  obtain ⟨j, hj, rfl, he⟩ := zel_5 h0 h1
  rw [he]
  refine ⟨by show _ < 411; omega, ?_⟩
  have key : ∀ j, j < 12 → zSh (22 + 1 * j) = (0, 1, 0) := by decide +kernel
  exact key j hj
theorem zel_37 (h0 : 0 ≤ i) (h1 : i < 8) : ∃ j : Nat, j < 8 ∧ i = nI j ∧ zel 37 i = 39 + 34 * j := by
  obtain ⟨j, hj, rfl⟩ := vp_in_of (zvp_in (n := 8) (by decide) h0 h1) (by decide)
  exact ⟨j, hj, rfl, by show 37 + 2 + 34 * (nI j).toNatClampNeg = _; rw [nI_clamp (by omega)]⟩
theorem zinR_37 (h0 : 0 ≤ i) (h1 : i < 8) : zInR (zN sg) 37 i := by
  obtain ⟨j, hj, rfl, he⟩ := zel_37 h0 h1
  refine ⟨(by decide : 37 < 411), rfl, h0, h1, rfl, ?_⟩
  have : zel 37 (nI j) < 100000 := by rw [he]; omega
  exact this
theorem zel_ob37 (h0 : 0 ≤ i) (h1 : i < 8) : zOb (zN sg) (zel 37 i) 5 := by
  obtain ⟨j, hj, rfl, he⟩ := zel_37 h0 h1
  rw [he]
  refine ⟨by show _ < 411; omega, ?_⟩
  have key : ∀ j, j < 8 → zSh (39 + 34 * j) = (0, 5, 0) := by decide +kernel
  exact key j hj
theorem zel_38 (h0 : 0 ≤ i) (h1 : i < 8) : ∃ j : Nat, j < 8 ∧ i = nI j ∧ zel 38 i = 72 + 34 * j := by
  obtain ⟨j, hj, rfl⟩ := vp_in_of (zvp_in (n := 8) (by decide) h0 h1) (by decide)
  exact ⟨j, hj, rfl, by show 38 + 34 + 34 * (nI j).toNatClampNeg = _; rw [nI_clamp (by omega)]⟩
theorem zinR_38 (h0 : 0 ≤ i) (h1 : i < 8) : zInR (zN sg) 38 i := by
  obtain ⟨j, hj, rfl, he⟩ := zel_38 h0 h1
  refine ⟨(by decide : 38 < 411), rfl, h0, h1, rfl, ?_⟩
  have : zel 38 (nI j) < 100000 := by rw [he]; omega
  exact this
theorem zel_ob38 (h0 : 0 ≤ i) (h1 : i < 8) : zOb (zN sg) (zel 38 i) 0 := by
  obtain ⟨j, hj, rfl, he⟩ := zel_38 h0 h1
  rw [he]
  refine ⟨by show _ < 411; omega, ?_⟩
  have key : ∀ j, j < 8 → zSh (72 + 34 * j) = (0, 0, 0) := by decide +kernel
  exact key j hj
theorem zel_311 (h0 : 0 ≤ i) (h1 : i < 2) : ∃ j : Nat, j < 2 ∧ i = nI j ∧ zel 311 i = 327 + 33 * j := by
  obtain ⟨j, hj, rfl⟩ := vp_in_of (zvp_in (n := 2) (by decide) h0 h1) (by decide)
  exact ⟨j, hj, rfl, by show 311 + 16 + 33 * (nI j).toNatClampNeg = _; rw [nI_clamp (by omega)]⟩
theorem zinR_311 (h0 : 0 ≤ i) (h1 : i < 2) : zInR (zN sg) 311 i := by
  obtain ⟨j, hj, rfl, he⟩ := zel_311 h0 h1
  refine ⟨(by decide : 311 < 411), rfl, h0, h1, rfl, ?_⟩
  have : zel 311 (nI j) < 100000 := by rw [he]; omega
  exact this
theorem zel_ob311 (h0 : 0 ≤ i) (h1 : i < 2) : zOb (zN sg) (zel 311 i) 5 := by
  obtain ⟨j, hj, rfl, he⟩ := zel_311 h0 h1
  rw [he]
  refine ⟨by show _ < 411; omega, ?_⟩
  have key : ∀ j, j < 2 → zSh (327 + 33 * j) = (0, 5, 0) := by decide +kernel
  exact key j hj
end
theorem zup_s {sg : zSig} {a : Nat} {i x : Int32} : zup sg a i x a i = x := by simp [zup]
theorem zup_a {sg : zSig} {a b : Nat} {i j x : Int32} (h : b ≠ a) : zup sg a i x b j = sg b j := by simp [zup, h]
theorem zup_i {sg : zSig} {a b : Nat} {i j x : Int32} (h : j ≠ i) : zup sg a i x b j = sg b j := by by_cases hb : b = a <;> simp [zup, hb, h]
theorem zup_e {sg : zSig} {a b : Nat} {i j x : Int32} : zup sg a i x b j = if b = a ∧ j = i then x else sg b j := by by_cases hb : b = a <;> by_cases hj : j = i <;> simp [zup, hb, hj]
theorem zcp_e {sg : zSig} {a b c : Nat} {sp dp n j : Int32} : zcp sg a b sp dp n c j = if c = b ∧ dp ≤ j ∧ j < dp + n then sg a (sp + (j - dp)) else sg c j := by by_cases hb : c = b <;> by_cases hj : dp ≤ j ∧ j < dp + n <;> simp [zcp, hb, hj]
end
section
/-! leaves: printed by wip/whole/p12.py -/
def fOf (f c s : Int32) : Int32 := 100 * f + 10 * c + s
def fFl (s : Int32) : Int32 := s / 100
def fCo (s : Int32) : Int32 := s / 10 - s / 10 / 10 * 10
def fSz (s : Int32) : Int32 := s - s / 10 * 10
def fMax (x y : Int32) : Int32 := if x < y then y else x
def fMin (x y : Int32) : Int32 := if x ≤ y then x else y
def fBr (s on off co gr : Int32) : Int32 := fOf ((fFl s ||| on) &&& (off ^^^ (-1))) (if co = -1 then fCo s else co) (fMax 0 (fMin 9 (fSz s + gr)))
def fMk (s kind v : Int32) : Int32 := if kind = 4 then fOf (fFl s) v (fSz s) else if kind = 5 then fOf (fFl s) (fCo s) v else fOf (fFl s ||| (1 <<< (kind &&& 31))) (fCo s) (fSz s)
def fMv (s kind : Int32) : Int32 := if kind = 4 then (if fCo s = 0 then -1 else fCo s) else if kind = 5 then (if fSz s = 4 then -1 else fSz s) else if (fFl s >>> (kind &&& 31)) &&& 1 = 0 then -1 else 1
def fSu (s mask fl co : Int32) : Int32 := if (fFl s ^^^ fl) &&& mask = 0 ∧ (co = -1 ∨ fCo s = co) then 1 else 0
def pOn (x l p m : Int32) : Int32 := if p < x ∨ (x = p ∧ l = 1) then x + m else x
def pBk (x p q : Int32) : Int32 := if q ≤ x then x - (q - p) else if x ≤ p then x else p
def pLd (p q r : Int32) : Int32 := if p < r then r - (q - p) else r
def pLb (x l p q r : Int32) : Int32 := pOn (pBk x p q) l (pLd p q r) (q - p)
def pMv (x l p q r : Int32) : Int32 := if p < x ∧ x < q then x + pLd p q r - p else pLb x l p q r
def pSw (x l f t c : Int32) : Int32 := pBk (pBk (pOn x l (f + 1) c) f (f + 1)) (f + c) (t - 1 + c)
theorem bkSty_of_0 : zBk mSty_of 0 [(0, 0, 0, 0, 100), (1, 0, 0, 0, 0), (4, 2, 0, 0, 0), (0, 0, 0, 0, 10), (1, 1, 0, 0, 0), (4, 2, 0, 0, 0), (4, 0, 0, 0, 0), (1, 2, 0, 0, 0), (4, 0, 0, 0, 0)] = some 11 := by decide +kernel
theorem bdSty_of_11 : decode mSty_of.2.2.1 11 = .ok (.ireturn, 1) := by decide +kernel
theorem cSty_of {sg : zSig} {f c s : Int32}  : zG mSty_of 411 (fun rr h' => rr = some (.int (fOf f c s)) ∧ h' = zN sg) 0 [(0, .int f), (1, .int c), (2, .int s)] [] (zN sg) := by
  refine zb_iret bkSty_of_0 bdSty_of_11 rfl (x := ((100 * f) + (10 * c)) + s) (h' := zN sg) (Ps := []) rfl trivial rfl ?_
  exact ⟨by grind [fOf], rfl⟩
theorem bkSty_flagsOf_0 : zBk mSty_flagsOf 0 [(1, 0, 0, 0, 0), (0, 0, 0, 0, 100), (4, 9, 0, 0, 0)] = some 4 := by decide +kernel
theorem bdSty_flagsOf_4 : decode mSty_flagsOf.2.2.1 4 = .ok (.ireturn, 1) := by decide +kernel
theorem cSty_flagsOf {sg : zSig} {s : Int32}  : zG mSty_flagsOf 411 (fun rr h' => rr = some (.int (fFl s)) ∧ h' = zN sg) 0 [(0, .int s)] [] (zN sg) := by
  refine zb_iret bkSty_flagsOf_0 bdSty_flagsOf_4 rfl (x := s / 100) (h' := zN sg) (Ps := [¬ (100 : Int32) = 0]) rfl (zA (by decide) trivial) rfl ?_
  exact ⟨by grind [fFl], rfl⟩
theorem bkSty_colorOf_0 : zBk mSty_colorOf 0 [(1, 0, 0, 0, 0), (0, 0, 0, 0, 10), (4, 9, 0, 0, 0), (0, 0, 0, 0, 10), (4, 10, 0, 0, 0)] = some 7 := by decide +kernel
theorem bdSty_colorOf_7 : decode mSty_colorOf.2.2.1 7 = .ok (.ireturn, 1) := by decide +kernel
theorem cSty_colorOf {sg : zSig} {s : Int32}  : zG mSty_colorOf 411 (fun rr h' => rr = some (.int (fCo s)) ∧ h' = zN sg) 0 [(0, .int s)] [] (zN sg) := by
  refine zb_iret bkSty_colorOf_0 bdSty_colorOf_7 rfl (x := (s / 10) - (s / 10) / 10 * 10) (h' := zN sg) (Ps := [¬ (10 : Int32) = 0, ¬ (10 : Int32) = 0]) rfl (zA (by decide) (zA (by decide) trivial)) rfl ?_
  exact ⟨by grind [fCo], rfl⟩
theorem bkSty_sizeOf_0 : zBk mSty_sizeOf 0 [(1, 0, 0, 0, 0), (0, 0, 0, 0, 10), (4, 10, 0, 0, 0)] = some 4 := by decide +kernel
theorem bdSty_sizeOf_4 : decode mSty_sizeOf.2.2.1 4 = .ok (.ireturn, 1) := by decide +kernel
theorem cSty_sizeOf {sg : zSig} {s : Int32}  : zG mSty_sizeOf 411 (fun rr h' => rr = some (.int (fSz s)) ∧ h' = zN sg) 0 [(0, .int s)] [] (zN sg) := by
  refine zb_iret bkSty_sizeOf_0 bdSty_sizeOf_4 rfl (x := s - s / 10 * 10) (h' := zN sg) (Ps := [¬ (10 : Int32) = 0]) rfl (zA (by decide) trivial) rfl ?_
  exact ⟨by grind [fSz], rfl⟩
theorem bkMa_max_0 : zBk mMa_max 0 [(1, 0, 0, 0, 0), (1, 1, 0, 0, 0)] = some 2 := by decide +kernel
theorem bkMa_max_9 : zBk mMa_max 9 [(1, 1, 0, 0, 0)] = some 10 := by decide +kernel
theorem bkMa_max_5 : zBk mMa_max 5 [(1, 0, 0, 0, 0), (22, 10, 0, 0, 0)] = some 10 := by decide +kernel
theorem bdMa_max_2 : decode mMa_max.2.2.1 2 = .ok (.if_icmp .lt 7, 3) := by decide +kernel
theorem bdMa_max_10 : decode mMa_max.2.2.1 10 = .ok (.ireturn, 1) := by decide +kernel
theorem cMa_max {sg : zSig} {x y : Int32}  : zG mMa_max 411 (fun rr h' => rr = some (.int (fMax x y)) ∧ h' = zN sg) 0 [(0, .int x), (1, .int y)] [] (zN sg) := by
  refine zb_iclt (tgt := 9) bkMa_max_0 bdMa_max_2 (by decide) (lv' := [(0, .int x), (1, .int y)]) (st' := []) (h' := zN sg) (x := x) (y := y) (Ps := []) rfl trivial (fun c1 => ?_) (fun c1 => ?_)
  · skip
    refine zb_iret bkMa_max_9 bdMa_max_10 rfl (x := y) (h' := zN sg) (Ps := []) rfl trivial rfl ?_
    exact ⟨by grind [fMax], rfl⟩
  · skip
    refine zb_iret bkMa_max_5 bdMa_max_10 rfl (x := x) (h' := zN sg) (Ps := []) rfl trivial rfl ?_
    exact ⟨by grind [fMax], rfl⟩
theorem bkMa_min_0 : zBk mMa_min 0 [(1, 0, 0, 0, 0), (1, 1, 0, 0, 0)] = some 2 := by decide +kernel
theorem bkMa_min_9 : zBk mMa_min 9 [(1, 1, 0, 0, 0)] = some 10 := by decide +kernel
theorem bkMa_min_5 : zBk mMa_min 5 [(1, 0, 0, 0, 0), (22, 10, 0, 0, 0)] = some 10 := by decide +kernel
theorem bdMa_min_2 : decode mMa_min.2.2.1 2 = .ok (.if_icmp .gt 7, 3) := by decide +kernel
theorem bdMa_min_10 : decode mMa_min.2.2.1 10 = .ok (.ireturn, 1) := by decide +kernel
theorem cMa_min {sg : zSig} {x y : Int32}  : zG mMa_min 411 (fun rr h' => rr = some (.int (fMin x y)) ∧ h' = zN sg) 0 [(0, .int x), (1, .int y)] [] (zN sg) := by
  refine zb_icgt (tgt := 9) bkMa_min_0 bdMa_min_2 (by decide) (lv' := [(0, .int x), (1, .int y)]) (st' := []) (h' := zN sg) (x := x) (y := y) (Ps := []) rfl trivial (fun c1 => ?_) (fun c1 => ?_)
  · skip
    refine zb_iret bkMa_min_9 bdMa_min_10 rfl (x := y) (h' := zN sg) (Ps := []) rfl trivial rfl ?_
    exact ⟨by grind [fMin], rfl⟩
  · skip
    refine zb_iret bkMa_min_5 bdMa_min_10 rfl (x := x) (h' := zN sg) (Ps := []) rfl trivial rfl ?_
    exact ⟨by grind [fMin], rfl⟩
theorem bkSty_brushed_0 : zBk mSty_brushed 0 [(1, 0, 0, 0, 0)] = some 1 := by decide +kernel
theorem bkSty_brushed_4 : zBk mSty_brushed 4 [(1, 1, 0, 0, 0), (4, 4, 0, 0, 0), (1, 2, 0, 0, 0), (0, 0, 0, 0, -1), (4, 5, 0, 0, 0), (4, 3, 0, 0, 0), (2, 5, 0, 0, 0), (1, 3, 0, 0, 0), (0, 0, 0, 0, -1)] = some 14 := by decide +kernel
theorem bkSty_brushed_24 : zBk mSty_brushed 24 [(1, 3, 0, 0, 0), (2, 6, 0, 0, 0), (0, 0, 0, 0, 0), (0, 0, 0, 0, 9), (1, 0, 0, 0, 0)] = some 31 := by decide +kernel
theorem bkSty_brushed_34 : zBk mSty_brushed 34 [(1, 4, 0, 0, 0), (4, 0, 0, 0, 0)] = some 37 := by decide +kernel
theorem bkSty_brushed_40 : zBk mSty_brushed 40 [] = some 40 := by decide +kernel
theorem bkSty_brushed_43 : zBk mSty_brushed 43 [(2, 7, 0, 0, 0), (1, 5, 0, 0, 0), (1, 6, 0, 0, 0), (1, 7, 0, 0, 0)] = some 51 := by decide +kernel
theorem bkSty_brushed_54 : zBk mSty_brushed 54 [] = some 54 := by decide +kernel
theorem bkSty_brushed_17 : zBk mSty_brushed 17 [(1, 0, 0, 0, 0)] = some 18 := by decide +kernel
theorem bkSty_brushed_21 : zBk mSty_brushed 21 [(22, 25, 0, 0, 0), (2, 6, 0, 0, 0), (0, 0, 0, 0, 0), (0, 0, 0, 0, 9), (1, 0, 0, 0, 0)] = some 31 := by decide +kernel
theorem bdSty_brushed_1 : decode mSty_brushed.2.2.1 1 = .ok (.invokestatic 9, 3) := by decide +kernel
theorem bdSty_brushed_14 : decode mSty_brushed.2.2.1 14 = .ok (.if_icmp .ne 10, 3) := by decide +kernel
theorem bdSty_brushed_18 : decode mSty_brushed.2.2.1 18 = .ok (.invokestatic 15, 3) := by decide +kernel
theorem bdSty_brushed_31 : decode mSty_brushed.2.2.1 31 = .ok (.invokestatic 18, 3) := by decide +kernel
theorem bdSty_brushed_37 : decode mSty_brushed.2.2.1 37 = .ok (.invokestatic 21, 3) := by decide +kernel
theorem bdSty_brushed_40 : decode mSty_brushed.2.2.1 40 = .ok (.invokestatic 27, 3) := by decide +kernel
theorem bdSty_brushed_51 : decode mSty_brushed.2.2.1 51 = .ok (.invokestatic 30, 3) := by decide +kernel
theorem bdSty_brushed_54 : decode mSty_brushed.2.2.1 54 = .ok (.ireturn, 1) := by decide +kernel
theorem cSty_brushed {sg : zSig} {s n f c g : Int32}  : zG mSty_brushed 411 (fun rr h' => rr = some (.int (fBr s n f c g)) ∧ h' = zN sg) 0 [(0, .int s), (1, .int n), (2, .int f), (3, .int c), (4, .int g)] [] (zN sg) := by
  refine zG_run bkSty_brushed_0 (lv' := [(0, .int s), (1, .int n), (2, .int f), (3, .int c), (4, .int g)]) (st' := [.int s]) (h' := zN sg) (Ps := []) rfl trivial ?_
  refine zG_calls (As := [.int s]) (rest := []) (N2 := 411) bdSty_brushed_1 okSty_flagsOf lk12_9 (And.intro (by decide) (by decide)) rfl rfl (Nat.le_of_ble_eq_true rfl) (Nat.le_of_ble_eq_true rfl) (Nat.le_refl 411) (Nat.le_refl 411) cSty_flagsOf ?_
  rintro rr h' ⟨rfl, rfl⟩ -
  refine zb_icne (tgt := 24) bkSty_brushed_4 bdSty_brushed_14 (by decide) (lv' := [(5, .int (((fFl s) ||| n) &&& (f ^^^ (-1)))), (0, .int s), (1, .int n), (2, .int f), (3, .int c), (4, .int g)]) (st' := []) (h' := zN sg) (x := c) (y := (-1)) (Ps := []) rfl trivial (fun c1 => ?_) (fun c1 => ?_)
  · skip
    refine zG_run bkSty_brushed_24 (lv' := [(6, .int c), (5, .int (((fFl s) ||| n) &&& (f ^^^ (-1)))), (0, .int s), (1, .int n), (2, .int f), (3, .int c), (4, .int g)]) (st' := [.int s, .int 9, .int 0]) (h' := zN sg) (Ps := []) rfl trivial ?_
    refine zG_calls (As := [.int s]) (rest := [.int 9, .int 0]) (N2 := 411) bdSty_brushed_31 okSty_sizeOf lk12_18 (And.intro (by decide) (by decide)) rfl rfl (Nat.le_of_ble_eq_true rfl) (Nat.le_of_ble_eq_true rfl) (Nat.le_refl 411) (Nat.le_refl 411) cSty_sizeOf ?_
    rintro rr h' ⟨rfl, rfl⟩ -
    refine zG_run bkSty_brushed_34 (lv' := [(6, .int c), (5, .int (((fFl s) ||| n) &&& (f ^^^ (-1)))), (0, .int s), (1, .int n), (2, .int f), (3, .int c), (4, .int g)]) (st' := [.int ((fSz s) + g), .int 9, .int 0]) (h' := zN sg) (Ps := []) rfl trivial ?_
    refine zG_calls (As := [.int 9, .int ((fSz s) + g)]) (rest := [.int 0]) (N2 := 411) bdSty_brushed_37 okMa_min lk12_21 (And.intro (by decide) (by decide)) rfl rfl (Nat.le_of_ble_eq_true rfl) (Nat.le_of_ble_eq_true rfl) (Nat.le_refl 411) (Nat.le_refl 411) cMa_min ?_
    rintro rr h' ⟨rfl, rfl⟩ -
    refine zG_run bkSty_brushed_40 (lv' := [(6, .int c), (5, .int (((fFl s) ||| n) &&& (f ^^^ (-1)))), (0, .int s), (1, .int n), (2, .int f), (3, .int c), (4, .int g)]) (st' := [.int (fMin 9 ((fSz s) + g)), .int 0]) (h' := zN sg) (Ps := []) rfl trivial ?_
    refine zG_calls (As := [.int 0, .int (fMin 9 ((fSz s) + g))]) (rest := []) (N2 := 411) bdSty_brushed_40 okMa_max lk12_27 (And.intro (by decide) (by decide)) rfl rfl (Nat.le_of_ble_eq_true rfl) (Nat.le_of_ble_eq_true rfl) (Nat.le_refl 411) (Nat.le_refl 411) cMa_max ?_
    rintro rr h' ⟨rfl, rfl⟩ -
    refine zG_run bkSty_brushed_43 (lv' := [(7, .int (fMax 0 (fMin 9 ((fSz s) + g)))), (6, .int c), (5, .int (((fFl s) ||| n) &&& (f ^^^ (-1)))), (0, .int s), (1, .int n), (2, .int f), (3, .int c), (4, .int g)]) (st' := [.int (fMax 0 (fMin 9 ((fSz s) + g))), .int c, .int (((fFl s) ||| n) &&& (f ^^^ (-1)))]) (h' := zN sg) (Ps := []) rfl trivial ?_
    refine zG_calls (As := [.int (((fFl s) ||| n) &&& (f ^^^ (-1))), .int c, .int (fMax 0 (fMin 9 ((fSz s) + g)))]) (rest := []) (N2 := 411) bdSty_brushed_51 okSty_of lk12_30 (And.intro (by decide) (by decide)) rfl rfl (Nat.le_of_ble_eq_true rfl) (Nat.le_of_ble_eq_true rfl) (Nat.le_refl 411) (Nat.le_refl 411) cSty_of ?_
    rintro rr h' ⟨rfl, rfl⟩ -
    refine zb_iret bkSty_brushed_54 bdSty_brushed_54 rfl (x := fOf (((fFl s) ||| n) &&& (f ^^^ (-1))) c (fMax 0 (fMin 9 ((fSz s) + g)))) (h' := zN sg) (Ps := []) rfl trivial rfl ?_
    exact ⟨by grind [fBr], rfl⟩
  · skip
    refine zG_run bkSty_brushed_17 (lv' := [(5, .int (((fFl s) ||| n) &&& (f ^^^ (-1)))), (0, .int s), (1, .int n), (2, .int f), (3, .int c), (4, .int g)]) (st' := [.int s]) (h' := zN sg) (Ps := []) rfl trivial ?_
    refine zG_calls (As := [.int s]) (rest := []) (N2 := 411) bdSty_brushed_18 okSty_colorOf lk12_15 (And.intro (by decide) (by decide)) rfl rfl (Nat.le_of_ble_eq_true rfl) (Nat.le_of_ble_eq_true rfl) (Nat.le_refl 411) (Nat.le_refl 411) cSty_colorOf ?_
    rintro rr h' ⟨rfl, rfl⟩ -
    refine zG_run bkSty_brushed_21 (lv' := [(6, .int (fCo s)), (5, .int (((fFl s) ||| n) &&& (f ^^^ (-1)))), (0, .int s), (1, .int n), (2, .int f), (3, .int c), (4, .int g)]) (st' := [.int s, .int 9, .int 0]) (h' := zN sg) (Ps := []) rfl trivial ?_
    refine zG_calls (As := [.int s]) (rest := [.int 9, .int 0]) (N2 := 411) bdSty_brushed_31 okSty_sizeOf lk12_18 (And.intro (by decide) (by decide)) rfl rfl (Nat.le_of_ble_eq_true rfl) (Nat.le_of_ble_eq_true rfl) (Nat.le_refl 411) (Nat.le_refl 411) cSty_sizeOf ?_
    rintro rr h' ⟨rfl, rfl⟩ -
    refine zG_run bkSty_brushed_34 (lv' := [(6, .int (fCo s)), (5, .int (((fFl s) ||| n) &&& (f ^^^ (-1)))), (0, .int s), (1, .int n), (2, .int f), (3, .int c), (4, .int g)]) (st' := [.int ((fSz s) + g), .int 9, .int 0]) (h' := zN sg) (Ps := []) rfl trivial ?_
    refine zG_calls (As := [.int 9, .int ((fSz s) + g)]) (rest := [.int 0]) (N2 := 411) bdSty_brushed_37 okMa_min lk12_21 (And.intro (by decide) (by decide)) rfl rfl (Nat.le_of_ble_eq_true rfl) (Nat.le_of_ble_eq_true rfl) (Nat.le_refl 411) (Nat.le_refl 411) cMa_min ?_
    rintro rr h' ⟨rfl, rfl⟩ -
    refine zG_run bkSty_brushed_40 (lv' := [(6, .int (fCo s)), (5, .int (((fFl s) ||| n) &&& (f ^^^ (-1)))), (0, .int s), (1, .int n), (2, .int f), (3, .int c), (4, .int g)]) (st' := [.int (fMin 9 ((fSz s) + g)), .int 0]) (h' := zN sg) (Ps := []) rfl trivial ?_
    refine zG_calls (As := [.int 0, .int (fMin 9 ((fSz s) + g))]) (rest := []) (N2 := 411) bdSty_brushed_40 okMa_max lk12_27 (And.intro (by decide) (by decide)) rfl rfl (Nat.le_of_ble_eq_true rfl) (Nat.le_of_ble_eq_true rfl) (Nat.le_refl 411) (Nat.le_refl 411) cMa_max ?_
    rintro rr h' ⟨rfl, rfl⟩ -
    refine zG_run bkSty_brushed_43 (lv' := [(7, .int (fMax 0 (fMin 9 ((fSz s) + g)))), (6, .int (fCo s)), (5, .int (((fFl s) ||| n) &&& (f ^^^ (-1)))), (0, .int s), (1, .int n), (2, .int f), (3, .int c), (4, .int g)]) (st' := [.int (fMax 0 (fMin 9 ((fSz s) + g))), .int (fCo s), .int (((fFl s) ||| n) &&& (f ^^^ (-1)))]) (h' := zN sg) (Ps := []) rfl trivial ?_
    refine zG_calls (As := [.int (((fFl s) ||| n) &&& (f ^^^ (-1))), .int (fCo s), .int (fMax 0 (fMin 9 ((fSz s) + g)))]) (rest := []) (N2 := 411) bdSty_brushed_51 okSty_of lk12_30 (And.intro (by decide) (by decide)) rfl rfl (Nat.le_of_ble_eq_true rfl) (Nat.le_of_ble_eq_true rfl) (Nat.le_refl 411) (Nat.le_refl 411) cSty_of ?_
    rintro rr h' ⟨rfl, rfl⟩ -
    refine zb_iret bkSty_brushed_54 bdSty_brushed_54 rfl (x := fOf (((fFl s) ||| n) &&& (f ^^^ (-1))) (fCo s) (fMax 0 (fMin 9 ((fSz s) + g)))) (h' := zN sg) (Ps := []) rfl trivial rfl ?_
    exact ⟨by grind [fBr], rfl⟩
theorem bkSty_marked_0 : zBk mSty_marked 0 [(1, 1, 0, 0, 0), (0, 0, 0, 0, 4)] = some 2 := by decide +kernel
theorem bkSty_marked_18 : zBk mSty_marked 18 [(1, 1, 0, 0, 0), (0, 0, 0, 0, 5)] = some 20 := by decide +kernel
theorem bkSty_marked_36 : zBk mSty_marked 36 [(1, 0, 0, 0, 0)] = some 37 := by decide +kernel
theorem bkSty_marked_40 : zBk mSty_marked 40 [(0, 0, 0, 0, 1), (1, 1, 0, 0, 0), (4, 6, 0, 0, 0), (4, 4, 0, 0, 0), (1, 0, 0, 0, 0)] = some 45 := by decide +kernel
theorem bkSty_marked_48 : zBk mSty_marked 48 [(1, 0, 0, 0, 0)] = some 49 := by decide +kernel
theorem bkSty_marked_52 : zBk mSty_marked 52 [] = some 52 := by decide +kernel
theorem bkSty_marked_55 : zBk mSty_marked 55 [] = some 55 := by decide +kernel
theorem bkSty_marked_23 : zBk mSty_marked 23 [(1, 0, 0, 0, 0)] = some 24 := by decide +kernel
theorem bkSty_marked_27 : zBk mSty_marked 27 [(1, 0, 0, 0, 0)] = some 28 := by decide +kernel
theorem bkSty_marked_31 : zBk mSty_marked 31 [(1, 2, 0, 0, 0)] = some 32 := by decide +kernel
theorem bkSty_marked_35 : zBk mSty_marked 35 [] = some 35 := by decide +kernel
theorem bkSty_marked_5 : zBk mSty_marked 5 [(1, 0, 0, 0, 0)] = some 6 := by decide +kernel
theorem bkSty_marked_9 : zBk mSty_marked 9 [(1, 2, 0, 0, 0), (1, 0, 0, 0, 0)] = some 11 := by decide +kernel
theorem bkSty_marked_14 : zBk mSty_marked 14 [] = some 14 := by decide +kernel
theorem bkSty_marked_17 : zBk mSty_marked 17 [] = some 17 := by decide +kernel
theorem bdSty_marked_2 : decode mSty_marked.2.2.1 2 = .ok (.if_icmp .ne 16, 3) := by decide +kernel
theorem bdSty_marked_6 : decode mSty_marked.2.2.1 6 = .ok (.invokestatic 9, 3) := by decide +kernel
theorem bdSty_marked_11 : decode mSty_marked.2.2.1 11 = .ok (.invokestatic 18, 3) := by decide +kernel
theorem bdSty_marked_14 : decode mSty_marked.2.2.1 14 = .ok (.invokestatic 30, 3) := by decide +kernel
theorem bdSty_marked_17 : decode mSty_marked.2.2.1 17 = .ok (.ireturn, 1) := by decide +kernel
theorem bdSty_marked_20 : decode mSty_marked.2.2.1 20 = .ok (.if_icmp .ne 16, 3) := by decide +kernel
theorem bdSty_marked_24 : decode mSty_marked.2.2.1 24 = .ok (.invokestatic 9, 3) := by decide +kernel
theorem bdSty_marked_28 : decode mSty_marked.2.2.1 28 = .ok (.invokestatic 15, 3) := by decide +kernel
theorem bdSty_marked_32 : decode mSty_marked.2.2.1 32 = .ok (.invokestatic 30, 3) := by decide +kernel
theorem bdSty_marked_35 : decode mSty_marked.2.2.1 35 = .ok (.ireturn, 1) := by decide +kernel
theorem bdSty_marked_37 : decode mSty_marked.2.2.1 37 = .ok (.invokestatic 9, 3) := by decide +kernel
theorem bdSty_marked_45 : decode mSty_marked.2.2.1 45 = .ok (.invokestatic 15, 3) := by decide +kernel
theorem bdSty_marked_49 : decode mSty_marked.2.2.1 49 = .ok (.invokestatic 18, 3) := by decide +kernel
theorem bdSty_marked_52 : decode mSty_marked.2.2.1 52 = .ok (.invokestatic 30, 3) := by decide +kernel
theorem bdSty_marked_55 : decode mSty_marked.2.2.1 55 = .ok (.ireturn, 1) := by decide +kernel
theorem cSty_marked {sg : zSig} {s k v : Int32}  : zG mSty_marked 411 (fun rr h' => rr = some (.int (fMk s k v)) ∧ h' = zN sg) 0 [(0, .int s), (1, .int k), (2, .int v)] [] (zN sg) := by
  refine zb_icne (tgt := 18) bkSty_marked_0 bdSty_marked_2 (by decide) (lv' := [(0, .int s), (1, .int k), (2, .int v)]) (st' := []) (h' := zN sg) (x := k) (y := 4) (Ps := []) rfl trivial (fun c1 => ?_) (fun c1 => ?_)
  · skip
    refine zb_icne (tgt := 36) bkSty_marked_18 bdSty_marked_20 (by decide) (lv' := [(0, .int s), (1, .int k), (2, .int v)]) (st' := []) (h' := zN sg) (x := k) (y := 5) (Ps := []) rfl trivial (fun c2 => ?_) (fun c2 => ?_)
    · skip
      refine zG_run bkSty_marked_36 (lv' := [(0, .int s), (1, .int k), (2, .int v)]) (st' := [.int s]) (h' := zN sg) (Ps := []) rfl trivial ?_
      refine zG_calls (As := [.int s]) (rest := []) (N2 := 411) bdSty_marked_37 okSty_flagsOf lk12_9 (And.intro (by decide) (by decide)) rfl rfl (Nat.le_of_ble_eq_true rfl) (Nat.le_of_ble_eq_true rfl) (Nat.le_refl 411) (Nat.le_refl 411) cSty_flagsOf ?_
      rintro rr h' ⟨rfl, rfl⟩ -
      refine zG_run bkSty_marked_40 (lv' := [(0, .int s), (1, .int k), (2, .int v)]) (st' := [.int s, .int ((fFl s) ||| (1 <<< (k &&& 31)))]) (h' := zN sg) (Ps := []) rfl trivial ?_
      refine zG_calls (As := [.int s]) (rest := [.int ((fFl s) ||| (1 <<< (k &&& 31)))]) (N2 := 411) bdSty_marked_45 okSty_colorOf lk12_15 (And.intro (by decide) (by decide)) rfl rfl (Nat.le_of_ble_eq_true rfl) (Nat.le_of_ble_eq_true rfl) (Nat.le_refl 411) (Nat.le_refl 411) cSty_colorOf ?_
      rintro rr h' ⟨rfl, rfl⟩ -
      refine zG_run bkSty_marked_48 (lv' := [(0, .int s), (1, .int k), (2, .int v)]) (st' := [.int s, .int (fCo s), .int ((fFl s) ||| (1 <<< (k &&& 31)))]) (h' := zN sg) (Ps := []) rfl trivial ?_
      refine zG_calls (As := [.int s]) (rest := [.int (fCo s), .int ((fFl s) ||| (1 <<< (k &&& 31)))]) (N2 := 411) bdSty_marked_49 okSty_sizeOf lk12_18 (And.intro (by decide) (by decide)) rfl rfl (Nat.le_of_ble_eq_true rfl) (Nat.le_of_ble_eq_true rfl) (Nat.le_refl 411) (Nat.le_refl 411) cSty_sizeOf ?_
      rintro rr h' ⟨rfl, rfl⟩ -
      refine zG_run bkSty_marked_52 (lv' := [(0, .int s), (1, .int k), (2, .int v)]) (st' := [.int (fSz s), .int (fCo s), .int ((fFl s) ||| (1 <<< (k &&& 31)))]) (h' := zN sg) (Ps := []) rfl trivial ?_
      refine zG_calls (As := [.int ((fFl s) ||| (1 <<< (k &&& 31))), .int (fCo s), .int (fSz s)]) (rest := []) (N2 := 411) bdSty_marked_52 okSty_of lk12_30 (And.intro (by decide) (by decide)) rfl rfl (Nat.le_of_ble_eq_true rfl) (Nat.le_of_ble_eq_true rfl) (Nat.le_refl 411) (Nat.le_refl 411) cSty_of ?_
      rintro rr h' ⟨rfl, rfl⟩ -
      refine zb_iret bkSty_marked_55 bdSty_marked_55 rfl (x := fOf ((fFl s) ||| (1 <<< (k &&& 31))) (fCo s) (fSz s)) (h' := zN sg) (Ps := []) rfl trivial rfl ?_
      exact ⟨by grind [fMk], rfl⟩
    · skip
      refine zG_run bkSty_marked_23 (lv' := [(0, .int s), (1, .int k), (2, .int v)]) (st' := [.int s]) (h' := zN sg) (Ps := []) rfl trivial ?_
      refine zG_calls (As := [.int s]) (rest := []) (N2 := 411) bdSty_marked_24 okSty_flagsOf lk12_9 (And.intro (by decide) (by decide)) rfl rfl (Nat.le_of_ble_eq_true rfl) (Nat.le_of_ble_eq_true rfl) (Nat.le_refl 411) (Nat.le_refl 411) cSty_flagsOf ?_
      rintro rr h' ⟨rfl, rfl⟩ -
      refine zG_run bkSty_marked_27 (lv' := [(0, .int s), (1, .int k), (2, .int v)]) (st' := [.int s, .int (fFl s)]) (h' := zN sg) (Ps := []) rfl trivial ?_
      refine zG_calls (As := [.int s]) (rest := [.int (fFl s)]) (N2 := 411) bdSty_marked_28 okSty_colorOf lk12_15 (And.intro (by decide) (by decide)) rfl rfl (Nat.le_of_ble_eq_true rfl) (Nat.le_of_ble_eq_true rfl) (Nat.le_refl 411) (Nat.le_refl 411) cSty_colorOf ?_
      rintro rr h' ⟨rfl, rfl⟩ -
      refine zG_run bkSty_marked_31 (lv' := [(0, .int s), (1, .int k), (2, .int v)]) (st' := [.int v, .int (fCo s), .int (fFl s)]) (h' := zN sg) (Ps := []) rfl trivial ?_
      refine zG_calls (As := [.int (fFl s), .int (fCo s), .int v]) (rest := []) (N2 := 411) bdSty_marked_32 okSty_of lk12_30 (And.intro (by decide) (by decide)) rfl rfl (Nat.le_of_ble_eq_true rfl) (Nat.le_of_ble_eq_true rfl) (Nat.le_refl 411) (Nat.le_refl 411) cSty_of ?_
      rintro rr h' ⟨rfl, rfl⟩ -
      refine zb_iret bkSty_marked_35 bdSty_marked_35 rfl (x := fOf (fFl s) (fCo s) v) (h' := zN sg) (Ps := []) rfl trivial rfl ?_
      exact ⟨by grind [fMk], rfl⟩
  · skip
    refine zG_run bkSty_marked_5 (lv' := [(0, .int s), (1, .int k), (2, .int v)]) (st' := [.int s]) (h' := zN sg) (Ps := []) rfl trivial ?_
    refine zG_calls (As := [.int s]) (rest := []) (N2 := 411) bdSty_marked_6 okSty_flagsOf lk12_9 (And.intro (by decide) (by decide)) rfl rfl (Nat.le_of_ble_eq_true rfl) (Nat.le_of_ble_eq_true rfl) (Nat.le_refl 411) (Nat.le_refl 411) cSty_flagsOf ?_
    rintro rr h' ⟨rfl, rfl⟩ -
    refine zG_run bkSty_marked_9 (lv' := [(0, .int s), (1, .int k), (2, .int v)]) (st' := [.int s, .int v, .int (fFl s)]) (h' := zN sg) (Ps := []) rfl trivial ?_
    refine zG_calls (As := [.int s]) (rest := [.int v, .int (fFl s)]) (N2 := 411) bdSty_marked_11 okSty_sizeOf lk12_18 (And.intro (by decide) (by decide)) rfl rfl (Nat.le_of_ble_eq_true rfl) (Nat.le_of_ble_eq_true rfl) (Nat.le_refl 411) (Nat.le_refl 411) cSty_sizeOf ?_
    rintro rr h' ⟨rfl, rfl⟩ -
    refine zG_run bkSty_marked_14 (lv' := [(0, .int s), (1, .int k), (2, .int v)]) (st' := [.int (fSz s), .int v, .int (fFl s)]) (h' := zN sg) (Ps := []) rfl trivial ?_
    refine zG_calls (As := [.int (fFl s), .int v, .int (fSz s)]) (rest := []) (N2 := 411) bdSty_marked_14 okSty_of lk12_30 (And.intro (by decide) (by decide)) rfl rfl (Nat.le_of_ble_eq_true rfl) (Nat.le_of_ble_eq_true rfl) (Nat.le_refl 411) (Nat.le_refl 411) cSty_of ?_
    rintro rr h' ⟨rfl, rfl⟩ -
    refine zb_iret bkSty_marked_17 bdSty_marked_17 rfl (x := fOf (fFl s) v (fSz s)) (h' := zN sg) (Ps := []) rfl trivial rfl ?_
    exact ⟨by grind [fMk], rfl⟩
theorem bkSty_markValue_0 : zBk mSty_markValue 0 [(1, 1, 0, 0, 0), (0, 0, 0, 0, 4)] = some 2 := by decide +kernel
theorem bkSty_markValue_21 : zBk mSty_markValue 21 [(1, 1, 0, 0, 0), (0, 0, 0, 0, 5)] = some 23 := by decide +kernel
theorem bkSty_markValue_43 : zBk mSty_markValue 43 [(1, 0, 0, 0, 0)] = some 44 := by decide +kernel
theorem bkSty_markValue_47 : zBk mSty_markValue 47 [(1, 1, 0, 0, 0), (4, 7, 0, 0, 0), (0, 0, 0, 0, 1), (4, 3, 0, 0, 0)] = some 51 := by decide +kernel
theorem bkSty_markValue_58 : zBk mSty_markValue 58 [(0, 0, 0, 0, 1)] = some 59 := by decide +kernel
theorem bkSty_markValue_54 : zBk mSty_markValue 54 [(0, 0, 0, 0, -1), (22, 59, 0, 0, 0)] = some 59 := by decide +kernel
theorem bkSty_markValue_26 : zBk mSty_markValue 26 [(1, 0, 0, 0, 0)] = some 27 := by decide +kernel
theorem bkSty_markValue_30 : zBk mSty_markValue 30 [(0, 0, 0, 0, 4)] = some 31 := by decide +kernel
theorem bkSty_markValue_38 : zBk mSty_markValue 38 [(1, 0, 0, 0, 0)] = some 39 := by decide +kernel
theorem bkSty_markValue_42 : zBk mSty_markValue 42 [] = some 42 := by decide +kernel
theorem bkSty_markValue_34 : zBk mSty_markValue 34 [(0, 0, 0, 0, -1), (22, 42, 0, 0, 0)] = some 42 := by decide +kernel
theorem bkSty_markValue_5 : zBk mSty_markValue 5 [(1, 0, 0, 0, 0)] = some 6 := by decide +kernel
theorem bkSty_markValue_9 : zBk mSty_markValue 9 [] = some 9 := by decide +kernel
theorem bkSty_markValue_16 : zBk mSty_markValue 16 [(1, 0, 0, 0, 0)] = some 17 := by decide +kernel
theorem bkSty_markValue_20 : zBk mSty_markValue 20 [] = some 20 := by decide +kernel
theorem bkSty_markValue_12 : zBk mSty_markValue 12 [(0, 0, 0, 0, -1), (22, 20, 0, 0, 0)] = some 20 := by decide +kernel
theorem bdSty_markValue_2 : decode mSty_markValue.2.2.1 2 = .ok (.if_icmp .ne 19, 3) := by decide +kernel
theorem bdSty_markValue_6 : decode mSty_markValue.2.2.1 6 = .ok (.invokestatic 15, 3) := by decide +kernel
theorem bdSty_markValue_9 : decode mSty_markValue.2.2.1 9 = .ok (.ifCond .ne 7, 3) := by decide +kernel
theorem bdSty_markValue_17 : decode mSty_markValue.2.2.1 17 = .ok (.invokestatic 15, 3) := by decide +kernel
theorem bdSty_markValue_20 : decode mSty_markValue.2.2.1 20 = .ok (.ireturn, 1) := by decide +kernel
theorem bdSty_markValue_23 : decode mSty_markValue.2.2.1 23 = .ok (.if_icmp .ne 20, 3) := by decide +kernel
theorem bdSty_markValue_27 : decode mSty_markValue.2.2.1 27 = .ok (.invokestatic 18, 3) := by decide +kernel
theorem bdSty_markValue_31 : decode mSty_markValue.2.2.1 31 = .ok (.if_icmp .ne 7, 3) := by decide +kernel
theorem bdSty_markValue_39 : decode mSty_markValue.2.2.1 39 = .ok (.invokestatic 18, 3) := by decide +kernel
theorem bdSty_markValue_42 : decode mSty_markValue.2.2.1 42 = .ok (.ireturn, 1) := by decide +kernel
theorem bdSty_markValue_44 : decode mSty_markValue.2.2.1 44 = .ok (.invokestatic 9, 3) := by decide +kernel
theorem bdSty_markValue_51 : decode mSty_markValue.2.2.1 51 = .ok (.ifCond .ne 7, 3) := by decide +kernel
theorem bdSty_markValue_59 : decode mSty_markValue.2.2.1 59 = .ok (.ireturn, 1) := by decide +kernel
theorem cSty_markValue {sg : zSig} {s k : Int32}  : zG mSty_markValue 411 (fun rr h' => rr = some (.int (fMv s k)) ∧ h' = zN sg) 0 [(0, .int s), (1, .int k)] [] (zN sg) := by
  refine zb_icne (tgt := 21) bkSty_markValue_0 bdSty_markValue_2 (by decide) (lv' := [(0, .int s), (1, .int k)]) (st' := []) (h' := zN sg) (x := k) (y := 4) (Ps := []) rfl trivial (fun c1 => ?_) (fun c1 => ?_)
  · skip
    refine zb_icne (tgt := 43) bkSty_markValue_21 bdSty_markValue_23 (by decide) (lv' := [(0, .int s), (1, .int k)]) (st' := []) (h' := zN sg) (x := k) (y := 5) (Ps := []) rfl trivial (fun c2 => ?_) (fun c2 => ?_)
    · skip
      refine zG_run bkSty_markValue_43 (lv' := [(0, .int s), (1, .int k)]) (st' := [.int s]) (h' := zN sg) (Ps := []) rfl trivial ?_
      refine zG_calls (As := [.int s]) (rest := []) (N2 := 411) bdSty_markValue_44 okSty_flagsOf lk12_9 (And.intro (by decide) (by decide)) rfl rfl (Nat.le_of_ble_eq_true rfl) (Nat.le_of_ble_eq_true rfl) (Nat.le_refl 411) (Nat.le_refl 411) cSty_flagsOf ?_
      rintro rr h' ⟨rfl, rfl⟩ -
      refine zb_ifne (tgt := 58) bkSty_markValue_47 bdSty_markValue_51 (by decide) (lv' := [(0, .int s), (1, .int k)]) (st' := []) (h' := zN sg) (x := ((fFl s) >>> (k &&& 31)) &&& 1) (Ps := []) rfl trivial (fun c3 => ?_) (fun c3 => ?_)
      · skip
        refine zb_iret bkSty_markValue_58 bdSty_markValue_59 rfl (x := 1) (h' := zN sg) (Ps := []) rfl trivial rfl ?_
        exact ⟨by grind [fMv], rfl⟩
      · skip
        refine zb_iret bkSty_markValue_54 bdSty_markValue_59 rfl (x := (-1)) (h' := zN sg) (Ps := []) rfl trivial rfl ?_
        exact ⟨by grind [fMv], rfl⟩
    · skip
      refine zG_run bkSty_markValue_26 (lv' := [(0, .int s), (1, .int k)]) (st' := [.int s]) (h' := zN sg) (Ps := []) rfl trivial ?_
      refine zG_calls (As := [.int s]) (rest := []) (N2 := 411) bdSty_markValue_27 okSty_sizeOf lk12_18 (And.intro (by decide) (by decide)) rfl rfl (Nat.le_of_ble_eq_true rfl) (Nat.le_of_ble_eq_true rfl) (Nat.le_refl 411) (Nat.le_refl 411) cSty_sizeOf ?_
      rintro rr h' ⟨rfl, rfl⟩ -
      refine zb_icne (tgt := 38) bkSty_markValue_30 bdSty_markValue_31 (by decide) (lv' := [(0, .int s), (1, .int k)]) (st' := []) (h' := zN sg) (x := fSz s) (y := 4) (Ps := []) rfl trivial (fun c4 => ?_) (fun c4 => ?_)
      · skip
        refine zG_run bkSty_markValue_38 (lv' := [(0, .int s), (1, .int k)]) (st' := [.int s]) (h' := zN sg) (Ps := []) rfl trivial ?_
        refine zG_calls (As := [.int s]) (rest := []) (N2 := 411) bdSty_markValue_39 okSty_sizeOf lk12_18 (And.intro (by decide) (by decide)) rfl rfl (Nat.le_of_ble_eq_true rfl) (Nat.le_of_ble_eq_true rfl) (Nat.le_refl 411) (Nat.le_refl 411) cSty_sizeOf ?_
        rintro rr h' ⟨rfl, rfl⟩ -
        refine zb_iret bkSty_markValue_42 bdSty_markValue_42 rfl (x := fSz s) (h' := zN sg) (Ps := []) rfl trivial rfl ?_
        exact ⟨by grind [fMv], rfl⟩
      · skip
        refine zb_iret bkSty_markValue_34 bdSty_markValue_42 rfl (x := (-1)) (h' := zN sg) (Ps := []) rfl trivial rfl ?_
        exact ⟨by grind [fMv], rfl⟩
  · skip
    refine zG_run bkSty_markValue_5 (lv' := [(0, .int s), (1, .int k)]) (st' := [.int s]) (h' := zN sg) (Ps := []) rfl trivial ?_
    refine zG_calls (As := [.int s]) (rest := []) (N2 := 411) bdSty_markValue_6 okSty_colorOf lk12_15 (And.intro (by decide) (by decide)) rfl rfl (Nat.le_of_ble_eq_true rfl) (Nat.le_of_ble_eq_true rfl) (Nat.le_refl 411) (Nat.le_refl 411) cSty_colorOf ?_
    rintro rr h' ⟨rfl, rfl⟩ -
    refine zb_ifne (tgt := 16) bkSty_markValue_9 bdSty_markValue_9 (by decide) (lv' := [(0, .int s), (1, .int k)]) (st' := []) (h' := zN sg) (x := fCo s) (Ps := []) rfl trivial (fun c5 => ?_) (fun c5 => ?_)
    · skip
      refine zG_run bkSty_markValue_16 (lv' := [(0, .int s), (1, .int k)]) (st' := [.int s]) (h' := zN sg) (Ps := []) rfl trivial ?_
      refine zG_calls (As := [.int s]) (rest := []) (N2 := 411) bdSty_markValue_17 okSty_colorOf lk12_15 (And.intro (by decide) (by decide)) rfl rfl (Nat.le_of_ble_eq_true rfl) (Nat.le_of_ble_eq_true rfl) (Nat.le_refl 411) (Nat.le_refl 411) cSty_colorOf ?_
      rintro rr h' ⟨rfl, rfl⟩ -
      refine zb_iret bkSty_markValue_20 bdSty_markValue_20 rfl (x := fCo s) (h' := zN sg) (Ps := []) rfl trivial rfl ?_
      exact ⟨by grind [fMv], rfl⟩
    · skip
      refine zb_iret bkSty_markValue_12 bdSty_markValue_20 rfl (x := (-1)) (h' := zN sg) (Ps := []) rfl trivial rfl ?_
      exact ⟨by grind [fMv], rfl⟩
theorem bkSty_suits_0 : zBk mSty_suits 0 [(1, 0, 0, 0, 0)] = some 1 := by decide +kernel
theorem bkSty_suits_4 : zBk mSty_suits 4 [(1, 2, 0, 0, 0), (4, 5, 0, 0, 0), (1, 1, 0, 0, 0), (4, 3, 0, 0, 0)] = some 8 := by decide +kernel
theorem bkSty_suits_15 : zBk mSty_suits 15 [(0, 0, 0, 0, 0), (2, 4, 0, 0, 0), (1, 4, 0, 0, 0)] = some 20 := by decide +kernel
theorem bkSty_suits_40 : zBk mSty_suits 40 [(0, 0, 0, 0, 0)] = some 41 := by decide +kernel
theorem bkSty_suits_11 : zBk mSty_suits 11 [(0, 0, 0, 0, 1), (22, 16, 0, 0, 0), (2, 4, 0, 0, 0), (1, 4, 0, 0, 0)] = some 20 := by decide +kernel
theorem bkSty_suits_23 : zBk mSty_suits 23 [(1, 3, 0, 0, 0), (0, 0, 0, 0, -1)] = some 25 := by decide +kernel
theorem bkSty_suits_36 : zBk mSty_suits 36 [(0, 0, 0, 0, 1), (22, 41, 0, 0, 0)] = some 41 := by decide +kernel
theorem bkSty_suits_28 : zBk mSty_suits 28 [(1, 0, 0, 0, 0)] = some 29 := by decide +kernel
theorem bkSty_suits_32 : zBk mSty_suits 32 [(1, 3, 0, 0, 0)] = some 33 := by decide +kernel
theorem bdSty_suits_1 : decode mSty_suits.2.2.1 1 = .ok (.invokestatic 9, 3) := by decide +kernel
theorem bdSty_suits_8 : decode mSty_suits.2.2.1 8 = .ok (.ifCond .ne 7, 3) := by decide +kernel
theorem bdSty_suits_20 : decode mSty_suits.2.2.1 20 = .ok (.ifCond .eq 20, 3) := by decide +kernel
theorem bdSty_suits_25 : decode mSty_suits.2.2.1 25 = .ok (.if_icmp .eq 11, 3) := by decide +kernel
theorem bdSty_suits_29 : decode mSty_suits.2.2.1 29 = .ok (.invokestatic 15, 3) := by decide +kernel
theorem bdSty_suits_33 : decode mSty_suits.2.2.1 33 = .ok (.if_icmp .ne 7, 3) := by decide +kernel
theorem bdSty_suits_41 : decode mSty_suits.2.2.1 41 = .ok (.ireturn, 1) := by decide +kernel
theorem cSty_suits {sg : zSig} {s m f c : Int32}  : zG mSty_suits 411 (fun rr h' => rr = some (.int (fSu s m f c)) ∧ h' = zN sg) 0 [(0, .int s), (1, .int m), (2, .int f), (3, .int c)] [] (zN sg) := by
  refine zG_run bkSty_suits_0 (lv' := [(0, .int s), (1, .int m), (2, .int f), (3, .int c)]) (st' := [.int s]) (h' := zN sg) (Ps := []) rfl trivial ?_
  refine zG_calls (As := [.int s]) (rest := []) (N2 := 411) bdSty_suits_1 okSty_flagsOf lk12_9 (And.intro (by decide) (by decide)) rfl rfl (Nat.le_of_ble_eq_true rfl) (Nat.le_of_ble_eq_true rfl) (Nat.le_refl 411) (Nat.le_refl 411) cSty_flagsOf ?_
  rintro rr h' ⟨rfl, rfl⟩ -
  refine zb_ifne (tgt := 15) bkSty_suits_4 bdSty_suits_8 (by decide) (lv' := [(0, .int s), (1, .int m), (2, .int f), (3, .int c)]) (st' := []) (h' := zN sg) (x := ((fFl s) ^^^ f) &&& m) (Ps := []) rfl trivial (fun c1 => ?_) (fun c1 => ?_)
  · skip
    refine zb_ifeq (tgt := 40) bkSty_suits_15 bdSty_suits_20 (by decide) (lv' := [(4, .int 0), (0, .int s), (1, .int m), (2, .int f), (3, .int c)]) (st' := []) (h' := zN sg) (x := 0) (Ps := []) rfl trivial (fun c2 => ?_) (fun c2 => ?_)
    · skip
      refine zb_zret bkSty_suits_40 bdSty_suits_41 rfl (x := 0) (h' := zN sg) (Ps := []) rfl trivial rfl (Or.inl rfl) ?_
      exact ⟨by grind [fSu], rfl⟩
    · exact absurd c2 (by decide)
  · skip
    refine zb_ifeq (tgt := 40) bkSty_suits_11 bdSty_suits_20 (by decide) (lv' := [(4, .int 1), (0, .int s), (1, .int m), (2, .int f), (3, .int c)]) (st' := []) (h' := zN sg) (x := 1) (Ps := []) rfl trivial (fun c3 => ?_) (fun c3 => ?_)
    · exact absurd c3 (by decide)
    · skip
      refine zb_iceq (tgt := 36) bkSty_suits_23 bdSty_suits_25 (by decide) (lv' := [(4, .int 1), (0, .int s), (1, .int m), (2, .int f), (3, .int c)]) (st' := []) (h' := zN sg) (x := c) (y := (-1)) (Ps := []) rfl trivial (fun c4 => ?_) (fun c4 => ?_)
      · skip
        refine zb_zret bkSty_suits_36 bdSty_suits_41 rfl (x := 1) (h' := zN sg) (Ps := []) rfl trivial rfl (Or.inr rfl) ?_
        exact ⟨by grind [fSu], rfl⟩
      · skip
        refine zG_run bkSty_suits_28 (lv' := [(4, .int 1), (0, .int s), (1, .int m), (2, .int f), (3, .int c)]) (st' := [.int s]) (h' := zN sg) (Ps := []) rfl trivial ?_
        refine zG_calls (As := [.int s]) (rest := []) (N2 := 411) bdSty_suits_29 okSty_colorOf lk12_15 (And.intro (by decide) (by decide)) rfl rfl (Nat.le_of_ble_eq_true rfl) (Nat.le_of_ble_eq_true rfl) (Nat.le_refl 411) (Nat.le_refl 411) cSty_colorOf ?_
        rintro rr h' ⟨rfl, rfl⟩ -
        refine zb_icne (tgt := 40) bkSty_suits_32 bdSty_suits_33 (by decide) (lv' := [(4, .int 1), (0, .int s), (1, .int m), (2, .int f), (3, .int c)]) (st' := []) (h' := zN sg) (x := fCo s) (y := c) (Ps := []) rfl trivial (fun c5 => ?_) (fun c5 => ?_)
        · skip
          refine zb_zret bkSty_suits_40 bdSty_suits_41 rfl (x := 0) (h' := zN sg) (Ps := []) rfl trivial rfl (Or.inl rfl) ?_
          exact ⟨by grind [fSu], rfl⟩
        · skip
          refine zb_zret bkSty_suits_36 bdSty_suits_41 rfl (x := 1) (h' := zN sg) (Ps := []) rfl trivial rfl (Or.inr rfl) ?_
          exact ⟨by grind [fSu], rfl⟩
theorem bkPla_afterComing_0 : zBk mPla_afterComing 0 [(1, 0, 0, 0, 0), (1, 2, 0, 0, 0)] = some 2 := by decide +kernel
theorem bkPla_afterComing_15 : zBk mPla_afterComing 15 [(1, 0, 0, 0, 0), (1, 3, 0, 0, 0), (4, 0, 0, 0, 0), (22, 22, 0, 0, 0)] = some 22 := by decide +kernel
theorem bkPla_afterComing_5 : zBk mPla_afterComing 5 [(1, 0, 0, 0, 0), (1, 2, 0, 0, 0)] = some 7 := by decide +kernel
theorem bkPla_afterComing_21 : zBk mPla_afterComing 21 [(1, 0, 0, 0, 0)] = some 22 := by decide +kernel
theorem bkPla_afterComing_10 : zBk mPla_afterComing 10 [(1, 1, 0, 0, 0), (0, 0, 0, 0, 1)] = some 12 := by decide +kernel
theorem bdPla_afterComing_2 : decode mPla_afterComing.2.2.1 2 = .ok (.if_icmp .gt 13, 3) := by decide +kernel
theorem bdPla_afterComing_7 : decode mPla_afterComing.2.2.1 7 = .ok (.if_icmp .ne 14, 3) := by decide +kernel
theorem bdPla_afterComing_12 : decode mPla_afterComing.2.2.1 12 = .ok (.if_icmp .ne 9, 3) := by decide +kernel
theorem bdPla_afterComing_22 : decode mPla_afterComing.2.2.1 22 = .ok (.ireturn, 1) := by decide +kernel
theorem cPla_afterComing {sg : zSig} {x l p m : Int32}  : zG mPla_afterComing 411 (fun rr h' => rr = some (.int (pOn x l p m)) ∧ h' = zN sg) 0 [(0, .int x), (1, .int l), (2, .int p), (3, .int m)] [] (zN sg) := by
  refine zb_icgt (tgt := 15) bkPla_afterComing_0 bdPla_afterComing_2 (by decide) (lv' := [(0, .int x), (1, .int l), (2, .int p), (3, .int m)]) (st' := []) (h' := zN sg) (x := x) (y := p) (Ps := []) rfl trivial (fun c1 => ?_) (fun c1 => ?_)
  · skip
    refine zb_iret bkPla_afterComing_15 bdPla_afterComing_22 rfl (x := x + m) (h' := zN sg) (Ps := []) rfl trivial rfl ?_
    exact ⟨by grind [pOn], rfl⟩
  · skip
    refine zb_icne (tgt := 21) bkPla_afterComing_5 bdPla_afterComing_7 (by decide) (lv' := [(0, .int x), (1, .int l), (2, .int p), (3, .int m)]) (st' := []) (h' := zN sg) (x := x) (y := p) (Ps := []) rfl trivial (fun c2 => ?_) (fun c2 => ?_)
    · skip
      refine zb_iret bkPla_afterComing_21 bdPla_afterComing_22 rfl (x := x) (h' := zN sg) (Ps := []) rfl trivial rfl ?_
      exact ⟨by grind [pOn], rfl⟩
    · skip
      refine zb_icne (tgt := 21) bkPla_afterComing_10 bdPla_afterComing_12 (by decide) (lv' := [(0, .int x), (1, .int l), (2, .int p), (3, .int m)]) (st' := []) (h' := zN sg) (x := l) (y := 1) (Ps := []) rfl trivial (fun c3 => ?_) (fun c3 => ?_)
      · skip
        refine zb_iret bkPla_afterComing_21 bdPla_afterComing_22 rfl (x := x) (h' := zN sg) (Ps := []) rfl trivial rfl ?_
        exact ⟨by grind [pOn], rfl⟩
      · skip
        refine zb_iret bkPla_afterComing_15 bdPla_afterComing_22 rfl (x := x + m) (h' := zN sg) (Ps := []) rfl trivial rfl ?_
        exact ⟨by grind [pOn], rfl⟩
theorem bkPla_afterGoing_0 : zBk mPla_afterGoing 0 [(1, 0, 0, 0, 0), (1, 2, 0, 0, 0)] = some 2 := by decide +kernel
theorem bkPla_afterGoing_11 : zBk mPla_afterGoing 11 [(1, 0, 0, 0, 0), (1, 1, 0, 0, 0)] = some 13 := by decide +kernel
theorem bkPla_afterGoing_16 : zBk mPla_afterGoing 16 [] = some 16 := by decide +kernel
theorem bkPla_afterGoing_5 : zBk mPla_afterGoing 5 [(1, 0, 0, 0, 0), (1, 2, 0, 0, 0), (1, 1, 0, 0, 0), (4, 1, 0, 0, 0), (4, 1, 0, 0, 0)] = some 10 := by decide +kernel
theorem bdPla_afterGoing_2 : decode mPla_afterGoing.2.2.1 2 = .ok (.if_icmp .lt 9, 3) := by decide +kernel
theorem bdPla_afterGoing_10 : decode mPla_afterGoing.2.2.1 10 = .ok (.ireturn, 1) := by decide +kernel
theorem bdPla_afterGoing_13 : decode mPla_afterGoing.2.2.1 13 = .ok (.invokestatic 7, 3) := by decide +kernel
theorem bdPla_afterGoing_16 : decode mPla_afterGoing.2.2.1 16 = .ok (.ireturn, 1) := by decide +kernel
theorem cPla_afterGoing {sg : zSig} {x p q : Int32}  : zG mPla_afterGoing 411 (fun rr h' => rr = some (.int (pBk x p q)) ∧ h' = zN sg) 0 [(0, .int x), (1, .int p), (2, .int q)] [] (zN sg) := by
  refine zb_iclt (tgt := 11) bkPla_afterGoing_0 bdPla_afterGoing_2 (by decide) (lv' := [(0, .int x), (1, .int p), (2, .int q)]) (st' := []) (h' := zN sg) (x := x) (y := q) (Ps := []) rfl trivial (fun c1 => ?_) (fun c1 => ?_)
  · skip
    refine zG_run bkPla_afterGoing_11 (lv' := [(0, .int x), (1, .int p), (2, .int q)]) (st' := [.int p, .int x]) (h' := zN sg) (Ps := []) rfl trivial ?_
    refine zG_calls (As := [.int x, .int p]) (rest := []) (N2 := 411) bdPla_afterGoing_13 okMa_min lk11_7 (And.intro (by decide) (by decide)) rfl rfl (Nat.le_of_ble_eq_true rfl) (Nat.le_of_ble_eq_true rfl) (Nat.le_refl 411) (Nat.le_refl 411) cMa_min ?_
    rintro rr h' ⟨rfl, rfl⟩ -
    refine zb_iret bkPla_afterGoing_16 bdPla_afterGoing_16 rfl (x := fMin x p) (h' := zN sg) (Ps := []) rfl trivial rfl ?_
    exact ⟨by grind [pBk, fMin], rfl⟩
  · skip
    refine zb_iret bkPla_afterGoing_5 bdPla_afterGoing_10 rfl (x := x - (q - p)) (h' := zN sg) (Ps := []) rfl trivial rfl ?_
    exact ⟨by grind [pBk, fMin], rfl⟩
theorem bkPla_landing_0 : zBk mPla_landing 0 [(1, 2, 0, 0, 0), (1, 0, 0, 0, 0)] = some 2 := by decide +kernel
theorem bkPla_landing_13 : zBk mPla_landing 13 [(1, 2, 0, 0, 0)] = some 14 := by decide +kernel
theorem bkPla_landing_5 : zBk mPla_landing 5 [(1, 2, 0, 0, 0), (1, 1, 0, 0, 0), (1, 0, 0, 0, 0), (4, 1, 0, 0, 0), (4, 1, 0, 0, 0), (22, 14, 0, 0, 0)] = some 14 := by decide +kernel
theorem bdPla_landing_2 : decode mPla_landing.2.2.1 2 = .ok (.if_icmp .le 11, 3) := by decide +kernel
theorem bdPla_landing_14 : decode mPla_landing.2.2.1 14 = .ok (.ireturn, 1) := by decide +kernel
theorem cPla_landing {sg : zSig} {p q r : Int32}  : zG mPla_landing 411 (fun rr h' => rr = some (.int (pLd p q r)) ∧ h' = zN sg) 0 [(0, .int p), (1, .int q), (2, .int r)] [] (zN sg) := by
  refine zb_icle (tgt := 13) bkPla_landing_0 bdPla_landing_2 (by decide) (lv' := [(0, .int p), (1, .int q), (2, .int r)]) (st' := []) (h' := zN sg) (x := r) (y := p) (Ps := []) rfl trivial (fun c1 => ?_) (fun c1 => ?_)
  · skip
    refine zb_iret bkPla_landing_13 bdPla_landing_14 rfl (x := r) (h' := zN sg) (Ps := []) rfl trivial rfl ?_
    exact ⟨by grind [pLd], rfl⟩
  · skip
    refine zb_iret bkPla_landing_5 bdPla_landing_14 rfl (x := r - (q - p)) (h' := zN sg) (Ps := []) rfl trivial rfl ?_
    exact ⟨by grind [pLd], rfl⟩
theorem bkPla_leftByMove_0 : zBk mPla_leftByMove 0 [(1, 0, 0, 0, 0), (1, 2, 0, 0, 0), (1, 3, 0, 0, 0)] = some 3 := by decide +kernel
theorem bkPla_leftByMove_6 : zBk mPla_leftByMove 6 [(1, 1, 0, 0, 0), (1, 2, 0, 0, 0), (1, 3, 0, 0, 0), (1, 4, 0, 0, 0)] = some 11 := by decide +kernel
theorem bkPla_leftByMove_14 : zBk mPla_leftByMove 14 [(1, 3, 0, 0, 0), (1, 2, 0, 0, 0), (4, 1, 0, 0, 0)] = some 17 := by decide +kernel
theorem bkPla_leftByMove_20 : zBk mPla_leftByMove 20 [] = some 20 := by decide +kernel
theorem bdPla_leftByMove_3 : decode mPla_leftByMove.2.2.1 3 = .ok (.invokestatic 13, 3) := by decide +kernel
theorem bdPla_leftByMove_11 : decode mPla_leftByMove.2.2.1 11 = .ok (.invokestatic 19, 3) := by decide +kernel
theorem bdPla_leftByMove_17 : decode mPla_leftByMove.2.2.1 17 = .ok (.invokestatic 22, 3) := by decide +kernel
theorem bdPla_leftByMove_20 : decode mPla_leftByMove.2.2.1 20 = .ok (.ireturn, 1) := by decide +kernel
theorem cPla_leftByMove {sg : zSig} {x l p q r : Int32}  : zG mPla_leftByMove 411 (fun rr h' => rr = some (.int (pLb x l p q r)) ∧ h' = zN sg) 0 [(0, .int x), (1, .int l), (2, .int p), (3, .int q), (4, .int r)] [] (zN sg) := by
  refine zG_run bkPla_leftByMove_0 (lv' := [(0, .int x), (1, .int l), (2, .int p), (3, .int q), (4, .int r)]) (st' := [.int q, .int p, .int x]) (h' := zN sg) (Ps := []) rfl trivial ?_
  refine zG_calls (As := [.int x, .int p, .int q]) (rest := []) (N2 := 411) bdPla_leftByMove_3 okPla_afterGoing lk11_13 (And.intro (by decide) (by decide)) rfl rfl (Nat.le_of_ble_eq_true rfl) (Nat.le_of_ble_eq_true rfl) (Nat.le_refl 411) (Nat.le_refl 411) cPla_afterGoing ?_
  rintro rr h' ⟨rfl, rfl⟩ -
  refine zG_run bkPla_leftByMove_6 (lv' := [(0, .int x), (1, .int l), (2, .int p), (3, .int q), (4, .int r)]) (st' := [.int r, .int q, .int p, .int l, .int (pBk x p q)]) (h' := zN sg) (Ps := []) rfl trivial ?_
  refine zG_calls (As := [.int p, .int q, .int r]) (rest := [.int l, .int (pBk x p q)]) (N2 := 411) bdPla_leftByMove_11 okPla_landing lk11_19 (And.intro (by decide) (by decide)) rfl rfl (Nat.le_of_ble_eq_true rfl) (Nat.le_of_ble_eq_true rfl) (Nat.le_refl 411) (Nat.le_refl 411) cPla_landing ?_
  rintro rr h' ⟨rfl, rfl⟩ -
  refine zG_run bkPla_leftByMove_14 (lv' := [(0, .int x), (1, .int l), (2, .int p), (3, .int q), (4, .int r)]) (st' := [.int (q - p), .int (pLd p q r), .int l, .int (pBk x p q)]) (h' := zN sg) (Ps := []) rfl trivial ?_
  refine zG_calls (As := [.int (pBk x p q), .int l, .int (pLd p q r), .int (q - p)]) (rest := []) (N2 := 411) bdPla_leftByMove_17 okPla_afterComing lk11_22 (And.intro (by decide) (by decide)) rfl rfl (Nat.le_of_ble_eq_true rfl) (Nat.le_of_ble_eq_true rfl) (Nat.le_refl 411) (Nat.le_refl 411) cPla_afterComing ?_
  rintro rr h' ⟨rfl, rfl⟩ -
  refine zb_iret bkPla_leftByMove_20 bdPla_leftByMove_20 rfl (x := pOn (pBk x p q) l (pLd p q r) (q - p)) (h' := zN sg) (Ps := []) rfl trivial rfl ?_
  exact ⟨by grind [pLb], rfl⟩
theorem bkPla_afterMove_0 : zBk mPla_afterMove 0 [(1, 2, 0, 0, 0), (1, 0, 0, 0, 0)] = some 2 := by decide +kernel
theorem bkPla_afterMove_22 : zBk mPla_afterMove 22 [(1, 0, 0, 0, 0), (1, 1, 0, 0, 0), (1, 2, 0, 0, 0), (1, 3, 0, 0, 0), (1, 4, 0, 0, 0)] = some 28 := by decide +kernel
theorem bkPla_afterMove_31 : zBk mPla_afterMove 31 [] = some 31 := by decide +kernel
theorem bkPla_afterMove_5 : zBk mPla_afterMove 5 [(1, 0, 0, 0, 0), (1, 3, 0, 0, 0)] = some 7 := by decide +kernel
theorem bkPla_afterMove_10 : zBk mPla_afterMove 10 [(1, 0, 0, 0, 0), (1, 2, 0, 0, 0), (1, 3, 0, 0, 0), (1, 4, 0, 0, 0)] = some 15 := by decide +kernel
theorem bkPla_afterMove_18 : zBk mPla_afterMove 18 [(4, 0, 0, 0, 0), (1, 2, 0, 0, 0), (4, 1, 0, 0, 0)] = some 21 := by decide +kernel
theorem bdPla_afterMove_2 : decode mPla_afterMove.2.2.1 2 = .ok (.if_icmp .ge 20, 3) := by decide +kernel
theorem bdPla_afterMove_7 : decode mPla_afterMove.2.2.1 7 = .ok (.if_icmp .ge 15, 3) := by decide +kernel
theorem bdPla_afterMove_15 : decode mPla_afterMove.2.2.1 15 = .ok (.invokestatic 19, 3) := by decide +kernel
theorem bdPla_afterMove_21 : decode mPla_afterMove.2.2.1 21 = .ok (.ireturn, 1) := by decide +kernel
theorem bdPla_afterMove_28 : decode mPla_afterMove.2.2.1 28 = .ok (.invokestatic 26, 3) := by decide +kernel
theorem bdPla_afterMove_31 : decode mPla_afterMove.2.2.1 31 = .ok (.ireturn, 1) := by decide +kernel
theorem cPla_afterMove {sg : zSig} {x l p q r : Int32}  : zG mPla_afterMove 411 (fun rr h' => rr = some (.int (pMv x l p q r)) ∧ h' = zN sg) 0 [(0, .int x), (1, .int l), (2, .int p), (3, .int q), (4, .int r)] [] (zN sg) := by
  refine zb_icge (tgt := 22) bkPla_afterMove_0 bdPla_afterMove_2 (by decide) (lv' := [(0, .int x), (1, .int l), (2, .int p), (3, .int q), (4, .int r)]) (st' := []) (h' := zN sg) (x := p) (y := x) (Ps := []) rfl trivial (fun c1 => ?_) (fun c1 => ?_)
  · skip
    refine zG_run bkPla_afterMove_22 (lv' := [(0, .int x), (1, .int l), (2, .int p), (3, .int q), (4, .int r)]) (st' := [.int r, .int q, .int p, .int l, .int x]) (h' := zN sg) (Ps := []) rfl trivial ?_
    refine zG_calls (As := [.int x, .int l, .int p, .int q, .int r]) (rest := []) (N2 := 411) bdPla_afterMove_28 okPla_leftByMove lk11_26 (And.intro (by decide) (by decide)) rfl rfl (Nat.le_of_ble_eq_true rfl) (Nat.le_of_ble_eq_true rfl) (Nat.le_refl 411) (Nat.le_refl 411) cPla_leftByMove ?_
    rintro rr h' ⟨rfl, rfl⟩ -
    refine zb_iret bkPla_afterMove_31 bdPla_afterMove_31 rfl (x := pLb x l p q r) (h' := zN sg) (Ps := []) rfl trivial rfl ?_
    exact ⟨by grind [pMv], rfl⟩
  · skip
    refine zb_icge (tgt := 22) bkPla_afterMove_5 bdPla_afterMove_7 (by decide) (lv' := [(0, .int x), (1, .int l), (2, .int p), (3, .int q), (4, .int r)]) (st' := []) (h' := zN sg) (x := x) (y := q) (Ps := []) rfl trivial (fun c2 => ?_) (fun c2 => ?_)
    · skip
      refine zG_run bkPla_afterMove_22 (lv' := [(0, .int x), (1, .int l), (2, .int p), (3, .int q), (4, .int r)]) (st' := [.int r, .int q, .int p, .int l, .int x]) (h' := zN sg) (Ps := []) rfl trivial ?_
      refine zG_calls (As := [.int x, .int l, .int p, .int q, .int r]) (rest := []) (N2 := 411) bdPla_afterMove_28 okPla_leftByMove lk11_26 (And.intro (by decide) (by decide)) rfl rfl (Nat.le_of_ble_eq_true rfl) (Nat.le_of_ble_eq_true rfl) (Nat.le_refl 411) (Nat.le_refl 411) cPla_leftByMove ?_
      rintro rr h' ⟨rfl, rfl⟩ -
      refine zb_iret bkPla_afterMove_31 bdPla_afterMove_31 rfl (x := pLb x l p q r) (h' := zN sg) (Ps := []) rfl trivial rfl ?_
      exact ⟨by grind [pMv], rfl⟩
    · skip
      refine zG_run bkPla_afterMove_10 (lv' := [(0, .int x), (1, .int l), (2, .int p), (3, .int q), (4, .int r)]) (st' := [.int r, .int q, .int p, .int x]) (h' := zN sg) (Ps := []) rfl trivial ?_
      refine zG_calls (As := [.int p, .int q, .int r]) (rest := [.int x]) (N2 := 411) bdPla_afterMove_15 okPla_landing lk11_19 (And.intro (by decide) (by decide)) rfl rfl (Nat.le_of_ble_eq_true rfl) (Nat.le_of_ble_eq_true rfl) (Nat.le_refl 411) (Nat.le_refl 411) cPla_landing ?_
      rintro rr h' ⟨rfl, rfl⟩ -
      refine zb_iret bkPla_afterMove_18 bdPla_afterMove_21 rfl (x := (x + (pLd p q r)) - p) (h' := zN sg) (Ps := []) rfl trivial rfl ?_
      exact ⟨by grind [pMv], rfl⟩
theorem bkPla_afterSwap_0 : zBk mPla_afterSwap 0 [(1, 0, 0, 0, 0), (1, 1, 0, 0, 0), (1, 2, 0, 0, 0), (0, 0, 0, 0, 1), (4, 0, 0, 0, 0), (1, 4, 0, 0, 0)] = some 7 := by decide +kernel
theorem bkPla_afterSwap_10 : zBk mPla_afterSwap 10 [(2, 5, 0, 0, 0), (1, 5, 0, 0, 0), (1, 2, 0, 0, 0), (1, 2, 0, 0, 0), (0, 0, 0, 0, 1), (4, 0, 0, 0, 0)] = some 18 := by decide +kernel
theorem bkPla_afterSwap_21 : zBk mPla_afterSwap 21 [(2, 6, 0, 0, 0), (1, 6, 0, 0, 0), (1, 2, 0, 0, 0), (1, 4, 0, 0, 0), (4, 0, 0, 0, 0), (1, 3, 0, 0, 0), (0, 0, 0, 0, 1), (4, 1, 0, 0, 0), (1, 4, 0, 0, 0), (4, 0, 0, 0, 0)] = some 35 := by decide +kernel
theorem bkPla_afterSwap_38 : zBk mPla_afterSwap 38 [] = some 38 := by decide +kernel
theorem bdPla_afterSwap_7 : decode mPla_afterSwap.2.2.1 7 = .ok (.invokestatic 22, 3) := by decide +kernel
theorem bdPla_afterSwap_18 : decode mPla_afterSwap.2.2.1 18 = .ok (.invokestatic 13, 3) := by decide +kernel
theorem bdPla_afterSwap_35 : decode mPla_afterSwap.2.2.1 35 = .ok (.invokestatic 13, 3) := by decide +kernel
theorem bdPla_afterSwap_38 : decode mPla_afterSwap.2.2.1 38 = .ok (.ireturn, 1) := by decide +kernel
theorem cPla_afterSwap {sg : zSig} {x l f t c : Int32}  : zG mPla_afterSwap 411 (fun rr h' => rr = some (.int (pSw x l f t c)) ∧ h' = zN sg) 0 [(0, .int x), (1, .int l), (2, .int f), (3, .int t), (4, .int c)] [] (zN sg) := by
  refine zG_run bkPla_afterSwap_0 (lv' := [(0, .int x), (1, .int l), (2, .int f), (3, .int t), (4, .int c)]) (st' := [.int c, .int (f + 1), .int l, .int x]) (h' := zN sg) (Ps := []) rfl trivial ?_
  refine zG_calls (As := [.int x, .int l, .int (f + 1), .int c]) (rest := []) (N2 := 411) bdPla_afterSwap_7 okPla_afterComing lk11_22 (And.intro (by decide) (by decide)) rfl rfl (Nat.le_of_ble_eq_true rfl) (Nat.le_of_ble_eq_true rfl) (Nat.le_refl 411) (Nat.le_refl 411) cPla_afterComing ?_
  rintro rr h' ⟨rfl, rfl⟩ -
  refine zG_run bkPla_afterSwap_10 (lv' := [(5, .int (pOn x l (f + 1) c)), (0, .int x), (1, .int l), (2, .int f), (3, .int t), (4, .int c)]) (st' := [.int (f + 1), .int f, .int (pOn x l (f + 1) c)]) (h' := zN sg) (Ps := []) rfl trivial ?_
  refine zG_calls (As := [.int (pOn x l (f + 1) c), .int f, .int (f + 1)]) (rest := []) (N2 := 411) bdPla_afterSwap_18 okPla_afterGoing lk11_13 (And.intro (by decide) (by decide)) rfl rfl (Nat.le_of_ble_eq_true rfl) (Nat.le_of_ble_eq_true rfl) (Nat.le_refl 411) (Nat.le_refl 411) cPla_afterGoing ?_
  rintro rr h' ⟨rfl, rfl⟩ -
  refine zG_run bkPla_afterSwap_21 (lv' := [(6, .int (pBk (pOn x l (f + 1) c) f (f + 1))), (5, .int (pOn x l (f + 1) c)), (0, .int x), (1, .int l), (2, .int f), (3, .int t), (4, .int c)]) (st' := [.int ((t - 1) + c), .int (f + c), .int (pBk (pOn x l (f + 1) c) f (f + 1))]) (h' := zN sg) (Ps := []) rfl trivial ?_
  refine zG_calls (As := [.int (pBk (pOn x l (f + 1) c) f (f + 1)), .int (f + c), .int ((t - 1) + c)]) (rest := []) (N2 := 411) bdPla_afterSwap_35 okPla_afterGoing lk11_13 (And.intro (by decide) (by decide)) rfl rfl (Nat.le_of_ble_eq_true rfl) (Nat.le_of_ble_eq_true rfl) (Nat.le_refl 411) (Nat.le_refl 411) cPla_afterGoing ?_
  rintro rr h' ⟨rfl, rfl⟩ -
  refine zb_iret bkPla_afterSwap_38 bdPla_afterSwap_38 rfl (x := pBk (pBk (pOn x l (f + 1) c) f (f + 1)) (f + c) ((t - 1) + c)) (h' := zN sg) (Ps := []) rfl trivial rfl ?_
  exact ⟨by grind [pSw], rfl⟩
theorem bkShe_hasLetter_0 : zBk mShe_hasLetter 0 [(1, 1, 0, 0, 0)] = some 1 := by decide +kernel
theorem bkShe_hasLetter_16 : zBk mShe_hasLetter 16 [(0, 0, 0, 0, 0)] = some 17 := by decide +kernel
theorem bkShe_hasLetter_4 : zBk mShe_hasLetter 4 [(1, 1, 0, 0, 0), (1, 0, 1, 0, 0), (5, 5, 2, 0, 2)] = some 9 := by decide +kernel
theorem bkShe_hasLetter_12 : zBk mShe_hasLetter 12 [(0, 0, 0, 0, 1), (22, 17, 0, 0, 0)] = some 17 := by decide +kernel
theorem bdShe_hasLetter_1 : decode mShe_hasLetter.2.2.1 1 = .ok (.ifCond .lt 15, 3) := by decide +kernel
theorem bdShe_hasLetter_9 : decode mShe_hasLetter.2.2.1 9 = .ok (.if_icmp .ge 7, 3) := by decide +kernel
theorem bdShe_hasLetter_17 : decode mShe_hasLetter.2.2.1 17 = .ok (.ireturn, 1) := by decide +kernel
theorem cShe_hasLetter {sg : zSig} {i : Int32}  : zG mShe_hasLetter 411 (fun rr h' => rr = some (.int (if 0 ≤ i ∧ i < sg 1 2 then 1 else 0)) ∧ h' = zN sg) 0 [(0, .ref 1), (1, .int i)] [] (zN sg) := by
  refine zb_iflt (tgt := 16) bkShe_hasLetter_0 bdShe_hasLetter_1 (by decide) (lv' := [(0, .ref 1), (1, .int i)]) (st' := []) (h' := zN sg) (x := i) (Ps := []) rfl trivial (fun c1 => ?_) (fun c1 => ?_)
  · skip
    refine zb_zret bkShe_hasLetter_16 bdShe_hasLetter_17 rfl (x := 0) (h' := zN sg) (Ps := []) rfl trivial rfl (Or.inl rfl) ?_
    exact ⟨by grind, rfl⟩
  · skip
    refine zb_icge (tgt := 16) bkShe_hasLetter_4 bdShe_hasLetter_9 (by decide) (lv' := [(0, .ref 1), (1, .int i)]) (st' := []) (h' := zN sg) (x := i) (y := sg 1 2) (Ps := [zOb (zN sg) 1 5]) rfl (zA zob_1 trivial) (fun c2 => ?_) (fun c2 => ?_)
    · skip
      refine zb_zret bkShe_hasLetter_16 bdShe_hasLetter_17 rfl (x := 0) (h' := zN sg) (Ps := []) rfl trivial rfl (Or.inl rfl) ?_
      exact ⟨by grind, rfl⟩
    · skip
      refine zb_zret bkShe_hasLetter_12 bdShe_hasLetter_17 rfl (x := 1) (h' := zN sg) (Ps := []) rfl trivial rfl (Or.inr rfl) ?_
      exact ⟨by grind, rfl⟩
theorem bkShe_isRange_0 : zBk mShe_isRange 0 [(1, 1, 0, 0, 0)] = some 1 := by decide +kernel
theorem bkShe_isRange_21 : zBk mShe_isRange 21 [(0, 0, 0, 0, 0)] = some 22 := by decide +kernel
theorem bkShe_isRange_4 : zBk mShe_isRange 4 [(1, 1, 0, 0, 0), (1, 2, 0, 0, 0)] = some 6 := by decide +kernel
theorem bkShe_isRange_9 : zBk mShe_isRange 9 [(1, 2, 0, 0, 0), (1, 0, 1, 0, 0), (5, 5, 2, 0, 2)] = some 14 := by decide +kernel
theorem bkShe_isRange_17 : zBk mShe_isRange 17 [(0, 0, 0, 0, 1), (22, 22, 0, 0, 0)] = some 22 := by decide +kernel
theorem bdShe_isRange_1 : decode mShe_isRange.2.2.1 1 = .ok (.ifCond .lt 20, 3) := by decide +kernel
theorem bdShe_isRange_6 : decode mShe_isRange.2.2.1 6 = .ok (.if_icmp .ge 15, 3) := by decide +kernel
theorem bdShe_isRange_14 : decode mShe_isRange.2.2.1 14 = .ok (.if_icmp .gt 7, 3) := by decide +kernel
theorem bdShe_isRange_22 : decode mShe_isRange.2.2.1 22 = .ok (.ireturn, 1) := by decide +kernel
theorem cShe_isRange {sg : zSig} {f t : Int32}  : zG mShe_isRange 411 (fun rr h' => rr = some (.int (if 0 ≤ f ∧ f < t ∧ t ≤ sg 1 2 then 1 else 0)) ∧ h' = zN sg) 0 [(0, .ref 1), (1, .int f), (2, .int t)] [] (zN sg) := by
  refine zb_iflt (tgt := 21) bkShe_isRange_0 bdShe_isRange_1 (by decide) (lv' := [(0, .ref 1), (1, .int f), (2, .int t)]) (st' := []) (h' := zN sg) (x := f) (Ps := []) rfl trivial (fun c1 => ?_) (fun c1 => ?_)
  · skip
    refine zb_zret bkShe_isRange_21 bdShe_isRange_22 rfl (x := 0) (h' := zN sg) (Ps := []) rfl trivial rfl (Or.inl rfl) ?_
    exact ⟨by grind, rfl⟩
  · skip
    refine zb_icge (tgt := 21) bkShe_isRange_4 bdShe_isRange_6 (by decide) (lv' := [(0, .ref 1), (1, .int f), (2, .int t)]) (st' := []) (h' := zN sg) (x := f) (y := t) (Ps := []) rfl trivial (fun c2 => ?_) (fun c2 => ?_)
    · skip
      refine zb_zret bkShe_isRange_21 bdShe_isRange_22 rfl (x := 0) (h' := zN sg) (Ps := []) rfl trivial rfl (Or.inl rfl) ?_
      exact ⟨by grind, rfl⟩
    · skip
      refine zb_icgt (tgt := 21) bkShe_isRange_9 bdShe_isRange_14 (by decide) (lv' := [(0, .ref 1), (1, .int f), (2, .int t)]) (st' := []) (h' := zN sg) (x := t) (y := sg 1 2) (Ps := [zOb (zN sg) 1 5]) rfl (zA zob_1 trivial) (fun c3 => ?_) (fun c3 => ?_)
      · skip
        refine zb_zret bkShe_isRange_21 bdShe_isRange_22 rfl (x := 0) (h' := zN sg) (Ps := []) rfl trivial rfl (Or.inl rfl) ?_
        exact ⟨by grind, rfl⟩
      · skip
        refine zb_zret bkShe_isRange_17 bdShe_isRange_22 rfl (x := 1) (h' := zN sg) (Ps := []) rfl trivial rfl (Or.inr rfl) ?_
        exact ⟨by grind, rfl⟩
theorem bkShe_hasPlace_0 : zBk mShe_hasPlace 0 [(1, 1, 0, 0, 0)] = some 1 := by decide +kernel
theorem bkShe_hasPlace_16 : zBk mShe_hasPlace 16 [(0, 0, 0, 0, 0)] = some 17 := by decide +kernel
theorem bkShe_hasPlace_4 : zBk mShe_hasPlace 4 [(1, 1, 0, 0, 0), (1, 0, 1, 0, 0), (5, 5, 2, 0, 2)] = some 9 := by decide +kernel
theorem bkShe_hasPlace_12 : zBk mShe_hasPlace 12 [(0, 0, 0, 0, 1), (22, 17, 0, 0, 0)] = some 17 := by decide +kernel
theorem bdShe_hasPlace_1 : decode mShe_hasPlace.2.2.1 1 = .ok (.ifCond .lt 15, 3) := by decide +kernel
theorem bdShe_hasPlace_9 : decode mShe_hasPlace.2.2.1 9 = .ok (.if_icmp .gt 7, 3) := by decide +kernel
theorem bdShe_hasPlace_17 : decode mShe_hasPlace.2.2.1 17 = .ok (.ireturn, 1) := by decide +kernel
theorem cShe_hasPlace {sg : zSig} {a : Nat} {i : Int32} (ha : zOb (zN sg) a 5)  : zG mShe_hasPlace 411 (fun rr h' => rr = some (.int (if 0 ≤ i ∧ i ≤ sg a 2 then 1 else 0)) ∧ h' = zN sg) 0 [(0, .ref a), (1, .int i)] [] (zN sg) := by
  refine zb_iflt (tgt := 16) bkShe_hasPlace_0 bdShe_hasPlace_1 (by decide) (lv' := [(0, .ref a), (1, .int i)]) (st' := []) (h' := zN sg) (x := i) (Ps := []) rfl trivial (fun c1 => ?_) (fun c1 => ?_)
  · skip
    refine zb_zret bkShe_hasPlace_16 bdShe_hasPlace_17 rfl (x := 0) (h' := zN sg) (Ps := []) rfl trivial rfl (Or.inl rfl) ?_
    exact ⟨by grind, rfl⟩
  · skip
    refine zb_icgt (tgt := 16) bkShe_hasPlace_4 bdShe_hasPlace_9 (by decide) (lv' := [(0, .ref a), (1, .int i)]) (st' := []) (h' := zN sg) (x := i) (y := sg a 2) (Ps := [zOb (zN sg) a 5]) rfl (zA ha trivial) (fun c2 => ?_) (fun c2 => ?_)
    · skip
      refine zb_zret bkShe_hasPlace_16 bdShe_hasPlace_17 rfl (x := 0) (h' := zN sg) (Ps := []) rfl trivial rfl (Or.inl rfl) ?_
      exact ⟨by grind, rfl⟩
    · skip
      refine zb_zret bkShe_hasPlace_12 bdShe_hasPlace_17 rfl (x := 1) (h' := zN sg) (Ps := []) rfl trivial rfl (Or.inr rfl) ?_
      exact ⟨by grind, rfl⟩
theorem bkSpa_liesOver_0 : zBk mSpa_liesOver 0 [(1, 0, 1, 0, 0), (5, 6, 0, 0, 0)] = some 4 := by decide +kernel
theorem bkSpa_liesOver_27 : zBk mSpa_liesOver 27 [(0, 0, 0, 0, 0)] = some 28 := by decide +kernel
theorem bkSpa_liesOver_7 : zBk mSpa_liesOver 7 [(1, 0, 1, 0, 0), (5, 6, 1, 0, 1), (1, 1, 0, 0, 0)] = some 12 := by decide +kernel
theorem bkSpa_liesOver_15 : zBk mSpa_liesOver 15 [(1, 1, 0, 0, 0), (1, 0, 1, 0, 0), (5, 6, 2, 0, 2)] = some 20 := by decide +kernel
theorem bkSpa_liesOver_23 : zBk mSpa_liesOver 23 [(0, 0, 0, 0, 1), (22, 28, 0, 0, 0)] = some 28 := by decide +kernel
theorem bdSpa_liesOver_4 : decode mSpa_liesOver.2.2.1 4 = .ok (.ifCond .eq 23, 3) := by decide +kernel
theorem bdSpa_liesOver_12 : decode mSpa_liesOver.2.2.1 12 = .ok (.if_icmp .gt 15, 3) := by decide +kernel
theorem bdSpa_liesOver_20 : decode mSpa_liesOver.2.2.1 20 = .ok (.if_icmp .ge 7, 3) := by decide +kernel
theorem bdSpa_liesOver_28 : decode mSpa_liesOver.2.2.1 28 = .ok (.ireturn, 1) := by decide +kernel
theorem cSpa_liesOver {sg : zSig} {a : Nat} {i : Int32} (ha : zOb (zN sg) a 6)  : zG mSpa_liesOver 411 (fun rr h' => rr = some (.int (if sg a 0 ≠ 0 ∧ sg a 1 ≤ i ∧ i < sg a 2 then 1 else 0)) ∧ h' = zN sg) 0 [(0, .ref a), (1, .int i)] [] (zN sg) := by
  refine zb_ifeq (tgt := 27) bkSpa_liesOver_0 bdSpa_liesOver_4 (by decide) (lv' := [(0, .ref a), (1, .int i)]) (st' := []) (h' := zN sg) (x := sg a 0) (Ps := [zOb (zN sg) a 6]) rfl (zA ha trivial) (fun c1 => ?_) (fun c1 => ?_)
  · skip
    refine zb_zret bkSpa_liesOver_27 bdSpa_liesOver_28 rfl (x := 0) (h' := zN sg) (Ps := []) rfl trivial rfl (Or.inl rfl) ?_
    exact ⟨by grind, rfl⟩
  · skip
    refine zb_icgt (tgt := 27) bkSpa_liesOver_7 bdSpa_liesOver_12 (by decide) (lv' := [(0, .ref a), (1, .int i)]) (st' := []) (h' := zN sg) (x := sg a 1) (y := i) (Ps := [zOb (zN sg) a 6]) rfl (zA ha trivial) (fun c2 => ?_) (fun c2 => ?_)
    · skip
      refine zb_zret bkSpa_liesOver_27 bdSpa_liesOver_28 rfl (x := 0) (h' := zN sg) (Ps := []) rfl trivial rfl (Or.inl rfl) ?_
      exact ⟨by grind, rfl⟩
    · skip
      refine zb_icge (tgt := 27) bkSpa_liesOver_15 bdSpa_liesOver_20 (by decide) (lv' := [(0, .ref a), (1, .int i)]) (st' := []) (h' := zN sg) (x := i) (y := sg a 2) (Ps := [zOb (zN sg) a 6]) rfl (zA ha trivial) (fun c3 => ?_) (fun c3 => ?_)
      · skip
        refine zb_zret bkSpa_liesOver_27 bdSpa_liesOver_28 rfl (x := 0) (h' := zN sg) (Ps := []) rfl trivial rfl (Or.inl rfl) ?_
        exact ⟨by grind, rfl⟩
      · skip
        refine zb_zret bkSpa_liesOver_23 bdSpa_liesOver_28 rfl (x := 1) (h' := zN sg) (Ps := []) rfl trivial rfl (Or.inr rfl) ?_
        exact ⟨by grind, rfl⟩
theorem bkSpa_speaksOf_0 : zBk mSpa_speaksOf 0 [(1, 1, 0, 0, 0)] = some 1 := by decide +kernel
theorem bkSpa_speaksOf_18 : zBk mSpa_speaksOf 18 [(1, 1, 0, 0, 0), (0, 0, 0, 0, 1)] = some 20 := by decide +kernel
theorem bkSpa_speaksOf_36 : zBk mSpa_speaksOf 36 [(1, 1, 0, 0, 0), (0, 0, 0, 0, 2)] = some 38 := by decide +kernel
theorem bkSpa_speaksOf_69 : zBk mSpa_speaksOf 69 [(0, 0, 0, 0, 0)] = some 70 := by decide +kernel
theorem bkSpa_speaksOf_41 : zBk mSpa_speaksOf 41 [(1, 1, 0, 0, 0), (0, 0, 0, 0, 5)] = some 43 := by decide +kernel
theorem bkSpa_speaksOf_46 : zBk mSpa_speaksOf 46 [(1, 0, 1, 0, 0), (5, 6, 4, 0, 4), (1, 0, 1, 0, 0), (5, 6, 5, 0, 5), (4, 4, 0, 0, 0), (1, 1, 0, 0, 0), (0, 0, 0, 0, 2), (4, 1, 0, 0, 0), (4, 7, 0, 0, 0), (0, 0, 0, 0, 1), (4, 3, 0, 0, 0), (0, 0, 0, 0, 1)] = some 62 := by decide +kernel
theorem bkSpa_speaksOf_65 : zBk mSpa_speaksOf 65 [(0, 0, 0, 0, 1), (22, 70, 0, 0, 0)] = some 70 := by decide +kernel
theorem bkSpa_speaksOf_23 : zBk mSpa_speaksOf 23 [(1, 0, 1, 0, 0), (5, 6, 7, 0, 7)] = some 27 := by decide +kernel
theorem bkSpa_speaksOf_34 : zBk mSpa_speaksOf 34 [(0, 0, 0, 0, 0)] = some 35 := by decide +kernel
theorem bkSpa_speaksOf_30 : zBk mSpa_speaksOf 30 [(0, 0, 0, 0, 1), (22, 35, 0, 0, 0)] = some 35 := by decide +kernel
theorem bkSpa_speaksOf_4 : zBk mSpa_speaksOf 4 [(1, 0, 1, 0, 0), (5, 6, 6, 0, 6), (0, 0, 0, 0, -1)] = some 9 := by decide +kernel
theorem bkSpa_speaksOf_16 : zBk mSpa_speaksOf 16 [(0, 0, 0, 0, 0)] = some 17 := by decide +kernel
theorem bkSpa_speaksOf_12 : zBk mSpa_speaksOf 12 [(0, 0, 0, 0, 1), (22, 17, 0, 0, 0)] = some 17 := by decide +kernel
theorem bdSpa_speaksOf_1 : decode mSpa_speaksOf.2.2.1 1 = .ok (.ifCond .ne 17, 3) := by decide +kernel
theorem bdSpa_speaksOf_9 : decode mSpa_speaksOf.2.2.1 9 = .ok (.if_icmp .eq 7, 3) := by decide +kernel
theorem bdSpa_speaksOf_17 : decode mSpa_speaksOf.2.2.1 17 = .ok (.ireturn, 1) := by decide +kernel
theorem bdSpa_speaksOf_20 : decode mSpa_speaksOf.2.2.1 20 = .ok (.if_icmp .ne 16, 3) := by decide +kernel
theorem bdSpa_speaksOf_27 : decode mSpa_speaksOf.2.2.1 27 = .ok (.ifCond .eq 7, 3) := by decide +kernel
theorem bdSpa_speaksOf_35 : decode mSpa_speaksOf.2.2.1 35 = .ok (.ireturn, 1) := by decide +kernel
theorem bdSpa_speaksOf_38 : decode mSpa_speaksOf.2.2.1 38 = .ok (.if_icmp .lt 31, 3) := by decide +kernel
theorem bdSpa_speaksOf_43 : decode mSpa_speaksOf.2.2.1 43 = .ok (.if_icmp .gt 26, 3) := by decide +kernel
theorem bdSpa_speaksOf_62 : decode mSpa_speaksOf.2.2.1 62 = .ok (.if_icmp .ne 7, 3) := by decide +kernel
theorem bdSpa_speaksOf_70 : decode mSpa_speaksOf.2.2.1 70 = .ok (.ireturn, 1) := by decide +kernel
theorem cSpa_speaksOf {sg : zSig} {a : Nat} {w : Int32} (ha : zOb (zN sg) a 6)  : zG mSpa_speaksOf 411 (fun rr h' => rr = some (.int (if w = 0 then (if sg a 6 = -1 then 0 else 1) else if w = 1 then (if sg a 7 = 0 then 0 else 1) else if 2 ≤ w ∧ w ≤ 5 ∧ ((sg a 4 ||| sg a 5) >>> ((w - 2) &&& 31)) &&& 1 = 1 then 1 else 0)) ∧ h' = zN sg) 0 [(0, .ref a), (1, .int w)] [] (zN sg) := by
  refine zb_ifne (tgt := 18) bkSpa_speaksOf_0 bdSpa_speaksOf_1 (by decide) (lv' := [(0, .ref a), (1, .int w)]) (st' := []) (h' := zN sg) (x := w) (Ps := []) rfl trivial (fun c1 => ?_) (fun c1 => ?_)
  · skip
    refine zb_icne (tgt := 36) bkSpa_speaksOf_18 bdSpa_speaksOf_20 (by decide) (lv' := [(0, .ref a), (1, .int w)]) (st' := []) (h' := zN sg) (x := w) (y := 1) (Ps := []) rfl trivial (fun c2 => ?_) (fun c2 => ?_)
    · skip
      refine zb_iclt (tgt := 69) bkSpa_speaksOf_36 bdSpa_speaksOf_38 (by decide) (lv' := [(0, .ref a), (1, .int w)]) (st' := []) (h' := zN sg) (x := w) (y := 2) (Ps := []) rfl trivial (fun c3 => ?_) (fun c3 => ?_)
      · skip
        refine zb_zret bkSpa_speaksOf_69 bdSpa_speaksOf_70 rfl (x := 0) (h' := zN sg) (Ps := []) rfl trivial rfl (Or.inl rfl) ?_
        exact ⟨by grind, rfl⟩
      · skip
        refine zb_icgt (tgt := 69) bkSpa_speaksOf_41 bdSpa_speaksOf_43 (by decide) (lv' := [(0, .ref a), (1, .int w)]) (st' := []) (h' := zN sg) (x := w) (y := 5) (Ps := []) rfl trivial (fun c4 => ?_) (fun c4 => ?_)
        · skip
          refine zb_zret bkSpa_speaksOf_69 bdSpa_speaksOf_70 rfl (x := 0) (h' := zN sg) (Ps := []) rfl trivial rfl (Or.inl rfl) ?_
          exact ⟨by grind, rfl⟩
        · skip
          refine zb_icne (tgt := 69) bkSpa_speaksOf_46 bdSpa_speaksOf_62 (by decide) (lv' := [(0, .ref a), (1, .int w)]) (st' := []) (h' := zN sg) (x := (((sg a 4) ||| (sg a 5)) >>> ((w - 2) &&& 31)) &&& 1) (y := 1) (Ps := [zOb (zN sg) a 6, zOb (zN sg) a 6]) rfl (zA ha (zA ha trivial)) (fun c5 => ?_) (fun c5 => ?_)
          · skip
            refine zb_zret bkSpa_speaksOf_69 bdSpa_speaksOf_70 rfl (x := 0) (h' := zN sg) (Ps := []) rfl trivial rfl (Or.inl rfl) ?_
            exact ⟨by grind, rfl⟩
          · skip
            refine zb_zret bkSpa_speaksOf_65 bdSpa_speaksOf_70 rfl (x := 1) (h' := zN sg) (Ps := []) rfl trivial rfl (Or.inr rfl) ?_
            exact ⟨by grind, rfl⟩
    · skip
      refine zb_ifeq (tgt := 34) bkSpa_speaksOf_23 bdSpa_speaksOf_27 (by decide) (lv' := [(0, .ref a), (1, .int w)]) (st' := []) (h' := zN sg) (x := sg a 7) (Ps := [zOb (zN sg) a 6]) rfl (zA ha trivial) (fun c6 => ?_) (fun c6 => ?_)
      · skip
        refine zb_zret bkSpa_speaksOf_34 bdSpa_speaksOf_35 rfl (x := 0) (h' := zN sg) (Ps := []) rfl trivial rfl (Or.inl rfl) ?_
        exact ⟨by grind, rfl⟩
      · skip
        refine zb_zret bkSpa_speaksOf_30 bdSpa_speaksOf_35 rfl (x := 1) (h' := zN sg) (Ps := []) rfl trivial rfl (Or.inr rfl) ?_
        exact ⟨by grind, rfl⟩
  · skip
    refine zb_iceq (tgt := 16) bkSpa_speaksOf_4 bdSpa_speaksOf_9 (by decide) (lv' := [(0, .ref a), (1, .int w)]) (st' := []) (h' := zN sg) (x := sg a 6) (y := (-1)) (Ps := [zOb (zN sg) a 6]) rfl (zA ha trivial) (fun c7 => ?_) (fun c7 => ?_)
    · skip
      refine zb_zret bkSpa_speaksOf_16 bdSpa_speaksOf_17 rfl (x := 0) (h' := zN sg) (Ps := []) rfl trivial rfl (Or.inl rfl) ?_
      exact ⟨by grind, rfl⟩
    · skip
      refine zb_zret bkSpa_speaksOf_12 bdSpa_speaksOf_17 rfl (x := 1) (h' := zN sg) (Ps := []) rfl trivial rfl (Or.inr rfl) ?_
      exact ⟨by grind, rfl⟩
theorem bkSpa_covers_0 : zBk mSpa_covers 0 [(1, 0, 1, 0, 0), (5, 6, 1, 0, 1), (1, 1, 1, 0, 0), (5, 6, 1, 0, 1)] = some 8 := by decide +kernel
theorem bkSpa_covers_26 : zBk mSpa_covers 26 [(0, 0, 0, 0, 0)] = some 27 := by decide +kernel
theorem bkSpa_covers_11 : zBk mSpa_covers 11 [(1, 1, 1, 0, 0), (5, 6, 2, 0, 2), (1, 0, 1, 0, 0), (5, 6, 2, 0, 2)] = some 19 := by decide +kernel
theorem bkSpa_covers_22 : zBk mSpa_covers 22 [(0, 0, 0, 0, 1), (22, 27, 0, 0, 0)] = some 27 := by decide +kernel
theorem bdSpa_covers_8 : decode mSpa_covers.2.2.1 8 = .ok (.if_icmp .gt 18, 3) := by decide +kernel
theorem bdSpa_covers_19 : decode mSpa_covers.2.2.1 19 = .ok (.if_icmp .gt 7, 3) := by decide +kernel
theorem bdSpa_covers_27 : decode mSpa_covers.2.2.1 27 = .ok (.ireturn, 1) := by decide +kernel
theorem cSpa_covers {sg : zSig} {a b : Nat} (ha : zOb (zN sg) a 6) (hb : zOb (zN sg) b 6)  : zG mSpa_covers 411 (fun rr h' => rr = some (.int (if sg a 1 ≤ sg b 1 ∧ sg b 2 ≤ sg a 2 then 1 else 0)) ∧ h' = zN sg) 0 [(0, .ref a), (1, .ref b)] [] (zN sg) := by
  refine zb_icgt (tgt := 26) bkSpa_covers_0 bdSpa_covers_8 (by decide) (lv' := [(0, .ref a), (1, .ref b)]) (st' := []) (h' := zN sg) (x := sg a 1) (y := sg b 1) (Ps := [zOb (zN sg) a 6, zOb (zN sg) b 6]) rfl (zA ha (zA hb trivial)) (fun c1 => ?_) (fun c1 => ?_)
  · skip
    refine zb_zret bkSpa_covers_26 bdSpa_covers_27 rfl (x := 0) (h' := zN sg) (Ps := []) rfl trivial rfl (Or.inl rfl) ?_
    exact ⟨by grind, rfl⟩
  · skip
    refine zb_icgt (tgt := 26) bkSpa_covers_11 bdSpa_covers_19 (by decide) (lv' := [(0, .ref a), (1, .ref b)]) (st' := []) (h' := zN sg) (x := sg b 2) (y := sg a 2) (Ps := [zOb (zN sg) b 6, zOb (zN sg) a 6]) rfl (zA hb (zA ha trivial)) (fun c2 => ?_) (fun c2 => ?_)
    · skip
      refine zb_zret bkSpa_covers_26 bdSpa_covers_27 rfl (x := 0) (h' := zN sg) (Ps := []) rfl trivial rfl (Or.inl rfl) ?_
      exact ⟨by grind, rfl⟩
    · skip
      refine zb_zret bkSpa_covers_22 bdSpa_covers_27 rfl (x := 1) (h' := zN sg) (Ps := []) rfl trivial rfl (Or.inr rfl) ?_
      exact ⟨by grind, rfl⟩
theorem bkSpa_crosses_0 : zBk mSpa_crosses 0 [(1, 0, 1, 0, 0), (5, 6, 1, 0, 1), (1, 1, 1, 0, 0), (5, 6, 2, 0, 2)] = some 8 := by decide +kernel
theorem bkSpa_crosses_26 : zBk mSpa_crosses 26 [(0, 0, 0, 0, 0), (2, 2, 0, 0, 0), (1, 2, 0, 0, 0)] = some 29 := by decide +kernel
theorem bkSpa_crosses_52 : zBk mSpa_crosses 52 [(0, 0, 0, 0, 0)] = some 53 := by decide +kernel
theorem bkSpa_crosses_11 : zBk mSpa_crosses 11 [(1, 1, 1, 0, 0), (5, 6, 1, 0, 1), (1, 0, 1, 0, 0), (5, 6, 2, 0, 2)] = some 19 := by decide +kernel
theorem bkSpa_crosses_22 : zBk mSpa_crosses 22 [(0, 0, 0, 0, 1), (22, 27, 0, 0, 0), (2, 2, 0, 0, 0), (1, 2, 0, 0, 0)] = some 29 := by decide +kernel
theorem bkSpa_crosses_32 : zBk mSpa_crosses 32 [(1, 0, 1, 0, 0), (1, 1, 1, 0, 0)] = some 34 := by decide +kernel
theorem bkSpa_crosses_37 : zBk mSpa_crosses 37 [] = some 37 := by decide +kernel
theorem bkSpa_crosses_40 : zBk mSpa_crosses 40 [(1, 1, 1, 0, 0), (1, 0, 1, 0, 0)] = some 42 := by decide +kernel
theorem bkSpa_crosses_45 : zBk mSpa_crosses 45 [] = some 45 := by decide +kernel
theorem bkSpa_crosses_48 : zBk mSpa_crosses 48 [(0, 0, 0, 0, 1), (22, 53, 0, 0, 0)] = some 53 := by decide +kernel
theorem bdSpa_crosses_8 : decode mSpa_crosses.2.2.1 8 = .ok (.if_icmp .ge 18, 3) := by decide +kernel
theorem bdSpa_crosses_19 : decode mSpa_crosses.2.2.1 19 = .ok (.if_icmp .ge 7, 3) := by decide +kernel
theorem bdSpa_crosses_29 : decode mSpa_crosses.2.2.1 29 = .ok (.ifCond .eq 23, 3) := by decide +kernel
theorem bdSpa_crosses_34 : decode mSpa_crosses.2.2.1 34 = .ok (.invokevirtual 40, 3) := by decide +kernel
theorem bdSpa_crosses_37 : decode mSpa_crosses.2.2.1 37 = .ok (.ifCond .ne 15, 3) := by decide +kernel
theorem bdSpa_crosses_42 : decode mSpa_crosses.2.2.1 42 = .ok (.invokevirtual 40, 3) := by decide +kernel
theorem bdSpa_crosses_45 : decode mSpa_crosses.2.2.1 45 = .ok (.ifCond .ne 7, 3) := by decide +kernel
theorem bdSpa_crosses_53 : decode mSpa_crosses.2.2.1 53 = .ok (.ireturn, 1) := by decide +kernel
theorem cSpa_crosses {sg : zSig} {a b : Nat} (ha : zOb (zN sg) a 6) (hb : zOb (zN sg) b 6)  : zG mSpa_crosses 411 (fun rr h' => rr = some (.int (if (sg a 1 < sg b 2 ∧ sg b 1 < sg a 2) ∧ ¬ (sg a 1 ≤ sg b 1 ∧ sg b 2 ≤ sg a 2) ∧ ¬ (sg b 1 ≤ sg a 1 ∧ sg a 2 ≤ sg b 2) then 1 else 0)) ∧ h' = zN sg) 0 [(0, .ref a), (1, .ref b)] [] (zN sg) := by
  refine zb_icge (tgt := 26) bkSpa_crosses_0 bdSpa_crosses_8 (by decide) (lv' := [(0, .ref a), (1, .ref b)]) (st' := []) (h' := zN sg) (x := sg a 1) (y := sg b 2) (Ps := [zOb (zN sg) a 6, zOb (zN sg) b 6]) rfl (zA ha (zA hb trivial)) (fun c1 => ?_) (fun c1 => ?_)
  · skip
    refine zb_ifeq (tgt := 52) bkSpa_crosses_26 bdSpa_crosses_29 (by decide) (lv' := [(2, .int 0), (0, .ref a), (1, .ref b)]) (st' := []) (h' := zN sg) (x := 0) (Ps := []) rfl trivial (fun c2 => ?_) (fun c2 => ?_)
    · skip
      refine zb_zret bkSpa_crosses_52 bdSpa_crosses_53 rfl (x := 0) (h' := zN sg) (Ps := []) rfl trivial rfl (Or.inl rfl) ?_
      exact ⟨by grind, rfl⟩
    · exact absurd c2 (by decide)
  · skip
    refine zb_icge (tgt := 26) bkSpa_crosses_11 bdSpa_crosses_19 (by decide) (lv' := [(0, .ref a), (1, .ref b)]) (st' := []) (h' := zN sg) (x := sg b 1) (y := sg a 2) (Ps := [zOb (zN sg) b 6, zOb (zN sg) a 6]) rfl (zA hb (zA ha trivial)) (fun c3 => ?_) (fun c3 => ?_)
    · skip
      refine zb_ifeq (tgt := 52) bkSpa_crosses_26 bdSpa_crosses_29 (by decide) (lv' := [(2, .int 0), (0, .ref a), (1, .ref b)]) (st' := []) (h' := zN sg) (x := 0) (Ps := []) rfl trivial (fun c4 => ?_) (fun c4 => ?_)
      · skip
        refine zb_zret bkSpa_crosses_52 bdSpa_crosses_53 rfl (x := 0) (h' := zN sg) (Ps := []) rfl trivial rfl (Or.inl rfl) ?_
        exact ⟨by grind, rfl⟩
      · exact absurd c4 (by decide)
    · skip
      refine zb_ifeq (tgt := 52) bkSpa_crosses_22 bdSpa_crosses_29 (by decide) (lv' := [(2, .int 1), (0, .ref a), (1, .ref b)]) (st' := []) (h' := zN sg) (x := 1) (Ps := []) rfl trivial (fun c5 => ?_) (fun c5 => ?_)
      · exact absurd c5 (by decide)
      · skip
        refine zG_run bkSpa_crosses_32 (lv' := [(2, .int 1), (0, .ref a), (1, .ref b)]) (st' := [.ref b, .ref a]) (h' := zN sg) (Ps := []) rfl trivial ?_
        refine zG_callv (a := a) (c := 6) (As := [.ref b]) (rest := []) (N2 := 411) bdSpa_crosses_34 okSpa_covers lk6_40 (And.intro (by decide) (by decide)) (by decide) rfl rfl rfl (Nat.le_of_ble_eq_true rfl) (Nat.le_of_ble_eq_true rfl) (Nat.le_refl 411) (Nat.le_refl 411) ha (cSpa_covers ha hb) ?_
        rintro rr h' ⟨rfl, rfl⟩ -
        refine zb_ifne (tgt := 52) bkSpa_crosses_37 bdSpa_crosses_37 (by decide) (lv' := [(2, .int 1), (0, .ref a), (1, .ref b)]) (st' := []) (h' := zN sg) (x := if sg a 1 ≤ sg b 1 ∧ sg b 2 ≤ sg a 2 then 1 else 0) (Ps := []) rfl trivial (fun c6 => ?_) (fun c6 => ?_)
        · skip
          refine zb_zret bkSpa_crosses_52 bdSpa_crosses_53 rfl (x := 0) (h' := zN sg) (Ps := []) rfl trivial rfl (Or.inl rfl) ?_
          exact ⟨by grind, rfl⟩
        · skip
          refine zG_run bkSpa_crosses_40 (lv' := [(2, .int 1), (0, .ref a), (1, .ref b)]) (st' := [.ref a, .ref b]) (h' := zN sg) (Ps := []) rfl trivial ?_
          refine zG_callv (a := b) (c := 6) (As := [.ref a]) (rest := []) (N2 := 411) bdSpa_crosses_42 okSpa_covers lk6_40 (And.intro (by decide) (by decide)) (by decide) rfl rfl rfl (Nat.le_of_ble_eq_true rfl) (Nat.le_of_ble_eq_true rfl) (Nat.le_refl 411) (Nat.le_refl 411) hb (cSpa_covers hb ha) ?_
          rintro rr h' ⟨rfl, rfl⟩ -
          refine zb_ifne (tgt := 52) bkSpa_crosses_45 bdSpa_crosses_45 (by decide) (lv' := [(2, .int 1), (0, .ref a), (1, .ref b)]) (st' := []) (h' := zN sg) (x := if sg b 1 ≤ sg a 1 ∧ sg a 2 ≤ sg b 2 then 1 else 0) (Ps := []) rfl trivial (fun c7 => ?_) (fun c7 => ?_)
          · skip
            refine zb_zret bkSpa_crosses_52 bdSpa_crosses_53 rfl (x := 0) (h' := zN sg) (Ps := []) rfl trivial rfl (Or.inl rfl) ?_
            exact ⟨by grind, rfl⟩
          · skip
            refine zb_zret bkSpa_crosses_48 bdSpa_crosses_53 rfl (x := 1) (h' := zN sg) (Ps := []) rfl trivial rfl (Or.inr rfl) ?_
            exact ⟨by grind, rfl⟩
def hSpB (sg : zSig) (a b : Nat) : zSig := zup (zup (zup (zup (zup (zup (zup (zup (zup sg a 0 (sg b 0)) a 1 (sg b 1)) a 2 (sg b 2)) a 3 (sg b 3)) a 4 (sg b 4)) a 5 (sg b 5)) a 6 (sg b 6)) a 7 (sg b 7)) a 8 (sg b 8)
def hSpC (sg : zSig) (a : Nat) (p m : Int32) : zSig := zup (zup sg a 1 (pOn (sg a 1) (sg a 8 &&& 1) p m)) a 2 (pOn (sg a 2) (sg a 8 >>> (1 &&& 31)) p m)
def hSpG (sg : zSig) (a : Nat) (p q : Int32) : zSig := if pBk (sg a 2) p q ≤ pBk (sg a 1) p q then zup (zup (zup sg a 1 (pBk (sg a 1) p q)) a 2 (pBk (sg a 2) p q)) a 0 0 else zup (zup sg a 1 (pBk (sg a 1) p q)) a 2 (pBk (sg a 2) p q)
def hSpM (sg : zSig) (a : Nat) (p q r : Int32) : zSig := if p ≤ sg a 1 ∧ sg a 2 ≤ q then zup (zup sg a 1 (sg a 1 + (pLd p q r - p))) a 2 (sg a 2 + (pLd p q r - p)) else zup (zup sg a 1 (pLb (sg a 1) (sg a 8 &&& 1) p q r)) a 2 (pLb (sg a 2) (sg a 8 >>> (1 &&& 31)) p q r)
def hAnB (sg : zSig) (a b : Nat) : zSig := zup (zup (zup (zup sg a 0 (sg b 0)) a 1 (sg b 1)) a 2 (sg b 2)) a 3 (sg b 3)
def hAnG (sg : zSig) (a : Nat) (p q : Int32) : zSig := if p < sg a 1 ∧ sg a 1 < q then zup (zup sg a 3 (sg a 3 + 1)) a 1 (pBk (sg a 1) p q) else zup sg a 1 (pBk (sg a 1) p q)
def hAcB (sg : zSig) (a : Nat) (k x y z : Int32) : zSig := zup (zup (zup (zup sg a 0 k) a 1 x) a 2 y) a 3 z
theorem bkSpa_become_0 : zBk mSpa_become 0 [(1, 0, 1, 0, 0), (1, 1, 1, 0, 0), (5, 6, 0, 0, 0), (6, 6, 0, 1, 0), (1, 0, 1, 0, 0), (1, 1, 1, 0, 0), (5, 6, 1, 0, 1), (6, 6, 1, 0, 1), (1, 0, 1, 0, 0), (1, 1, 1, 0, 0), (5, 6, 2, 0, 2), (6, 6, 2, 0, 2), (1, 0, 1, 0, 0), (1, 1, 1, 0, 0), (5, 6, 3, 0, 3), (6, 6, 3, 0, 3), (1, 0, 1, 0, 0), (1, 1, 1, 0, 0), (5, 6, 4, 0, 4), (6, 6, 4, 0, 4), (1, 0, 1, 0, 0), (1, 1, 1, 0, 0), (5, 6, 5, 0, 5), (6, 6, 5, 0, 5), (1, 0, 1, 0, 0), (1, 1, 1, 0, 0), (5, 6, 6, 0, 6), (6, 6, 6, 0, 6), (1, 0, 1, 0, 0), (1, 1, 1, 0, 0), (5, 6, 7, 0, 7), (6, 6, 7, 0, 7), (1, 0, 1, 0, 0), (1, 1, 1, 0, 0), (5, 6, 8, 0, 8), (6, 6, 8, 0, 8)] = some 72 := by decide +kernel
theorem bdSpa_become_72 : decode mSpa_become.2.2.1 72 = .ok (.return_, 1) := by decide +kernel
theorem cSpa_become {sg : zSig} {a b : Nat} (ha : zOb (zN sg) a 6) (hb : zOb (zN sg) b 6) (hne : b ≠ a) (hz : sg b 0 = 0 ∨ sg b 0 = 1)  : zG mSpa_become 411 (fun rr h' => rr = none ∧ h' = zN (hSpB sg a b)) 0 [(0, .ref a), (1, .ref b)] [] (zN sg) := by
  refine zb_vret bkSpa_become_0 bdSpa_become_72 rfl (h' := zN (zup (zup (zup (zup (zup (zup (zup (zup (zup sg a 0 (sg b 0)) a 1 ((zup sg a 0 (sg b 0)) b 1)) a 2 ((zup (zup sg a 0 (sg b 0)) a 1 ((zup sg a 0 (sg b 0)) b 1)) b 2)) a 3 ((zup (zup (zup sg a 0 (sg b 0)) a 1 ((zup sg a 0 (sg b 0)) b 1)) a 2 ((zup (zup sg a 0 (sg b 0)) a 1 ((zup sg a 0 (sg b 0)) b 1)) b 2)) b 3)) a 4 ((zup (zup (zup (zup sg a 0 (sg b 0)) a 1 ((zup sg a 0 (sg b 0)) b 1)) a 2 ((zup (zup sg a 0 (sg b 0)) a 1 ((zup sg a 0 (sg b 0)) b 1)) b 2)) a 3 ((zup (zup (zup sg a 0 (sg b 0)) a 1 ((zup sg a 0 (sg b 0)) b 1)) a 2 ((zup (zup sg a 0 (sg b 0)) a 1 ((zup sg a 0 (sg b 0)) b 1)) b 2)) b 3)) b 4)) a 5 ((zup (zup (zup (zup (zup sg a 0 (sg b 0)) a 1 ((zup sg a 0 (sg b 0)) b 1)) a 2 ((zup (zup sg a 0 (sg b 0)) a 1 ((zup sg a 0 (sg b 0)) b 1)) b 2)) a 3 ((zup (zup (zup sg a 0 (sg b 0)) a 1 ((zup sg a 0 (sg b 0)) b 1)) a 2 ((zup (zup sg a 0 (sg b 0)) a 1 ((zup sg a 0 (sg b 0)) b 1)) b 2)) b 3)) a 4 ((zup (zup (zup (zup sg a 0 (sg b 0)) a 1 ((zup sg a 0 (sg b 0)) b 1)) a 2 ((zup (zup sg a 0 (sg b 0)) a 1 ((zup sg a 0 (sg b 0)) b 1)) b 2)) a 3 ((zup (zup (zup sg a 0 (sg b 0)) a 1 ((zup sg a 0 (sg b 0)) b 1)) a 2 ((zup (zup sg a 0 (sg b 0)) a 1 ((zup sg a 0 (sg b 0)) b 1)) b 2)) b 3)) b 4)) b 5)) a 6 ((zup (zup (zup (zup (zup (zup sg a 0 (sg b 0)) a 1 ((zup sg a 0 (sg b 0)) b 1)) a 2 ((zup (zup sg a 0 (sg b 0)) a 1 ((zup sg a 0 (sg b 0)) b 1)) b 2)) a 3 ((zup (zup (zup sg a 0 (sg b 0)) a 1 ((zup sg a 0 (sg b 0)) b 1)) a 2 ((zup (zup sg a 0 (sg b 0)) a 1 ((zup sg a 0 (sg b 0)) b 1)) b 2)) b 3)) a 4 ((zup (zup (zup (zup sg a 0 (sg b 0)) a 1 ((zup sg a 0 (sg b 0)) b 1)) a 2 ((zup (zup sg a 0 (sg b 0)) a 1 ((zup sg a 0 (sg b 0)) b 1)) b 2)) a 3 ((zup (zup (zup sg a 0 (sg b 0)) a 1 ((zup sg a 0 (sg b 0)) b 1)) a 2 ((zup (zup sg a 0 (sg b 0)) a 1 ((zup sg a 0 (sg b 0)) b 1)) b 2)) b 3)) b 4)) a 5 ((zup (zup (zup (zup (zup sg a 0 (sg b 0)) a 1 ((zup sg a 0 (sg b 0)) b 1)) a 2 ((zup (zup sg a 0 (sg b 0)) a 1 ((zup sg a 0 (sg b 0)) b 1)) b 2)) a 3 ((zup (zup (zup sg a 0 (sg b 0)) a 1 ((zup sg a 0 (sg b 0)) b 1)) a 2 ((zup (zup sg a 0 (sg b 0)) a 1 ((zup sg a 0 (sg b 0)) b 1)) b 2)) b 3)) a 4 ((zup (zup (zup (zup sg a 0 (sg b 0)) a 1 ((zup sg a 0 (sg b 0)) b 1)) a 2 ((zup (zup sg a 0 (sg b 0)) a 1 ((zup sg a 0 (sg b 0)) b 1)) b 2)) a 3 ((zup (zup (zup sg a 0 (sg b 0)) a 1 ((zup sg a 0 (sg b 0)) b 1)) a 2 ((zup (zup sg a 0 (sg b 0)) a 1 ((zup sg a 0 (sg b 0)) b 1)) b 2)) b 3)) b 4)) b 5)) b 6)) a 7 ((zup (zup (zup (zup (zup (zup (zup sg a 0 (sg b 0)) a 1 ((zup sg a 0 (sg b 0)) b 1)) a 2 ((zup (zup sg a 0 (sg b 0)) a 1 ((zup sg a 0 (sg b 0)) b 1)) b 2)) a 3 ((zup (zup (zup sg a 0 (sg b 0)) a 1 ((zup sg a 0 (sg b 0)) b 1)) a 2 ((zup (zup sg a 0 (sg b 0)) a 1 ((zup sg a 0 (sg b 0)) b 1)) b 2)) b 3)) a 4 ((zup (zup (zup (zup sg a 0 (sg b 0)) a 1 ((zup sg a 0 (sg b 0)) b 1)) a 2 ((zup (zup sg a 0 (sg b 0)) a 1 ((zup sg a 0 (sg b 0)) b 1)) b 2)) a 3 ((zup (zup (zup sg a 0 (sg b 0)) a 1 ((zup sg a 0 (sg b 0)) b 1)) a 2 ((zup (zup sg a 0 (sg b 0)) a 1 ((zup sg a 0 (sg b 0)) b 1)) b 2)) b 3)) b 4)) a 5 ((zup (zup (zup (zup (zup sg a 0 (sg b 0)) a 1 ((zup sg a 0 (sg b 0)) b 1)) a 2 ((zup (zup sg a 0 (sg b 0)) a 1 ((zup sg a 0 (sg b 0)) b 1)) b 2)) a 3 ((zup (zup (zup sg a 0 (sg b 0)) a 1 ((zup sg a 0 (sg b 0)) b 1)) a 2 ((zup (zup sg a 0 (sg b 0)) a 1 ((zup sg a 0 (sg b 0)) b 1)) b 2)) b 3)) a 4 ((zup (zup (zup (zup sg a 0 (sg b 0)) a 1 ((zup sg a 0 (sg b 0)) b 1)) a 2 ((zup (zup sg a 0 (sg b 0)) a 1 ((zup sg a 0 (sg b 0)) b 1)) b 2)) a 3 ((zup (zup (zup sg a 0 (sg b 0)) a 1 ((zup sg a 0 (sg b 0)) b 1)) a 2 ((zup (zup sg a 0 (sg b 0)) a 1 ((zup sg a 0 (sg b 0)) b 1)) b 2)) b 3)) b 4)) b 5)) a 6 ((zup (zup (zup (zup (zup (zup sg a 0 (sg b 0)) a 1 ((zup sg a 0 (sg b 0)) b 1)) a 2 ((zup (zup sg a 0 (sg b 0)) a 1 ((zup sg a 0 (sg b 0)) b 1)) b 2)) a 3 ((zup (zup (zup sg a 0 (sg b 0)) a 1 ((zup sg a 0 (sg b 0)) b 1)) a 2 ((zup (zup sg a 0 (sg b 0)) a 1 ((zup sg a 0 (sg b 0)) b 1)) b 2)) b 3)) a 4 ((zup (zup (zup (zup sg a 0 (sg b 0)) a 1 ((zup sg a 0 (sg b 0)) b 1)) a 2 ((zup (zup sg a 0 (sg b 0)) a 1 ((zup sg a 0 (sg b 0)) b 1)) b 2)) a 3 ((zup (zup (zup sg a 0 (sg b 0)) a 1 ((zup sg a 0 (sg b 0)) b 1)) a 2 ((zup (zup sg a 0 (sg b 0)) a 1 ((zup sg a 0 (sg b 0)) b 1)) b 2)) b 3)) b 4)) a 5 ((zup (zup (zup (zup (zup sg a 0 (sg b 0)) a 1 ((zup sg a 0 (sg b 0)) b 1)) a 2 ((zup (zup sg a 0 (sg b 0)) a 1 ((zup sg a 0 (sg b 0)) b 1)) b 2)) a 3 ((zup (zup (zup sg a 0 (sg b 0)) a 1 ((zup sg a 0 (sg b 0)) b 1)) a 2 ((zup (zup sg a 0 (sg b 0)) a 1 ((zup sg a 0 (sg b 0)) b 1)) b 2)) b 3)) a 4 ((zup (zup (zup (zup sg a 0 (sg b 0)) a 1 ((zup sg a 0 (sg b 0)) b 1)) a 2 ((zup (zup sg a 0 (sg b 0)) a 1 ((zup sg a 0 (sg b 0)) b 1)) b 2)) a 3 ((zup (zup (zup sg a 0 (sg b 0)) a 1 ((zup sg a 0 (sg b 0)) b 1)) a 2 ((zup (zup sg a 0 (sg b 0)) a 1 ((zup sg a 0 (sg b 0)) b 1)) b 2)) b 3)) b 4)) b 5)) b 6)) b 7)) a 8 ((zup (zup (zup (zup (zup (zup (zup (zup sg a 0 (sg b 0)) a 1 ((zup sg a 0 (sg b 0)) b 1)) a 2 ((zup (zup sg a 0 (sg b 0)) a 1 ((zup sg a 0 (sg b 0)) b 1)) b 2)) a 3 ((zup (zup (zup sg a 0 (sg b 0)) a 1 ((zup sg a 0 (sg b 0)) b 1)) a 2 ((zup (zup sg a 0 (sg b 0)) a 1 ((zup sg a 0 (sg b 0)) b 1)) b 2)) b 3)) a 4 ((zup (zup (zup (zup sg a 0 (sg b 0)) a 1 ((zup sg a 0 (sg b 0)) b 1)) a 2 ((zup (zup sg a 0 (sg b 0)) a 1 ((zup sg a 0 (sg b 0)) b 1)) b 2)) a 3 ((zup (zup (zup sg a 0 (sg b 0)) a 1 ((zup sg a 0 (sg b 0)) b 1)) a 2 ((zup (zup sg a 0 (sg b 0)) a 1 ((zup sg a 0 (sg b 0)) b 1)) b 2)) b 3)) b 4)) a 5 ((zup (zup (zup (zup (zup sg a 0 (sg b 0)) a 1 ((zup sg a 0 (sg b 0)) b 1)) a 2 ((zup (zup sg a 0 (sg b 0)) a 1 ((zup sg a 0 (sg b 0)) b 1)) b 2)) a 3 ((zup (zup (zup sg a 0 (sg b 0)) a 1 ((zup sg a 0 (sg b 0)) b 1)) a 2 ((zup (zup sg a 0 (sg b 0)) a 1 ((zup sg a 0 (sg b 0)) b 1)) b 2)) b 3)) a 4 ((zup (zup (zup (zup sg a 0 (sg b 0)) a 1 ((zup sg a 0 (sg b 0)) b 1)) a 2 ((zup (zup sg a 0 (sg b 0)) a 1 ((zup sg a 0 (sg b 0)) b 1)) b 2)) a 3 ((zup (zup (zup sg a 0 (sg b 0)) a 1 ((zup sg a 0 (sg b 0)) b 1)) a 2 ((zup (zup sg a 0 (sg b 0)) a 1 ((zup sg a 0 (sg b 0)) b 1)) b 2)) b 3)) b 4)) b 5)) a 6 ((zup (zup (zup (zup (zup (zup sg a 0 (sg b 0)) a 1 ((zup sg a 0 (sg b 0)) b 1)) a 2 ((zup (zup sg a 0 (sg b 0)) a 1 ((zup sg a 0 (sg b 0)) b 1)) b 2)) a 3 ((zup (zup (zup sg a 0 (sg b 0)) a 1 ((zup sg a 0 (sg b 0)) b 1)) a 2 ((zup (zup sg a 0 (sg b 0)) a 1 ((zup sg a 0 (sg b 0)) b 1)) b 2)) b 3)) a 4 ((zup (zup (zup (zup sg a 0 (sg b 0)) a 1 ((zup sg a 0 (sg b 0)) b 1)) a 2 ((zup (zup sg a 0 (sg b 0)) a 1 ((zup sg a 0 (sg b 0)) b 1)) b 2)) a 3 ((zup (zup (zup sg a 0 (sg b 0)) a 1 ((zup sg a 0 (sg b 0)) b 1)) a 2 ((zup (zup sg a 0 (sg b 0)) a 1 ((zup sg a 0 (sg b 0)) b 1)) b 2)) b 3)) b 4)) a 5 ((zup (zup (zup (zup (zup sg a 0 (sg b 0)) a 1 ((zup sg a 0 (sg b 0)) b 1)) a 2 ((zup (zup sg a 0 (sg b 0)) a 1 ((zup sg a 0 (sg b 0)) b 1)) b 2)) a 3 ((zup (zup (zup sg a 0 (sg b 0)) a 1 ((zup sg a 0 (sg b 0)) b 1)) a 2 ((zup (zup sg a 0 (sg b 0)) a 1 ((zup sg a 0 (sg b 0)) b 1)) b 2)) b 3)) a 4 ((zup (zup (zup (zup sg a 0 (sg b 0)) a 1 ((zup sg a 0 (sg b 0)) b 1)) a 2 ((zup (zup sg a 0 (sg b 0)) a 1 ((zup sg a 0 (sg b 0)) b 1)) b 2)) a 3 ((zup (zup (zup sg a 0 (sg b 0)) a 1 ((zup sg a 0 (sg b 0)) b 1)) a 2 ((zup (zup sg a 0 (sg b 0)) a 1 ((zup sg a 0 (sg b 0)) b 1)) b 2)) b 3)) b 4)) b 5)) b 6)) a 7 ((zup (zup (zup (zup (zup (zup (zup sg a 0 (sg b 0)) a 1 ((zup sg a 0 (sg b 0)) b 1)) a 2 ((zup (zup sg a 0 (sg b 0)) a 1 ((zup sg a 0 (sg b 0)) b 1)) b 2)) a 3 ((zup (zup (zup sg a 0 (sg b 0)) a 1 ((zup sg a 0 (sg b 0)) b 1)) a 2 ((zup (zup sg a 0 (sg b 0)) a 1 ((zup sg a 0 (sg b 0)) b 1)) b 2)) b 3)) a 4 ((zup (zup (zup (zup sg a 0 (sg b 0)) a 1 ((zup sg a 0 (sg b 0)) b 1)) a 2 ((zup (zup sg a 0 (sg b 0)) a 1 ((zup sg a 0 (sg b 0)) b 1)) b 2)) a 3 ((zup (zup (zup sg a 0 (sg b 0)) a 1 ((zup sg a 0 (sg b 0)) b 1)) a 2 ((zup (zup sg a 0 (sg b 0)) a 1 ((zup sg a 0 (sg b 0)) b 1)) b 2)) b 3)) b 4)) a 5 ((zup (zup (zup (zup (zup sg a 0 (sg b 0)) a 1 ((zup sg a 0 (sg b 0)) b 1)) a 2 ((zup (zup sg a 0 (sg b 0)) a 1 ((zup sg a 0 (sg b 0)) b 1)) b 2)) a 3 ((zup (zup (zup sg a 0 (sg b 0)) a 1 ((zup sg a 0 (sg b 0)) b 1)) a 2 ((zup (zup sg a 0 (sg b 0)) a 1 ((zup sg a 0 (sg b 0)) b 1)) b 2)) b 3)) a 4 ((zup (zup (zup (zup sg a 0 (sg b 0)) a 1 ((zup sg a 0 (sg b 0)) b 1)) a 2 ((zup (zup sg a 0 (sg b 0)) a 1 ((zup sg a 0 (sg b 0)) b 1)) b 2)) a 3 ((zup (zup (zup sg a 0 (sg b 0)) a 1 ((zup sg a 0 (sg b 0)) b 1)) a 2 ((zup (zup sg a 0 (sg b 0)) a 1 ((zup sg a 0 (sg b 0)) b 1)) b 2)) b 3)) b 4)) b 5)) a 6 ((zup (zup (zup (zup (zup (zup sg a 0 (sg b 0)) a 1 ((zup sg a 0 (sg b 0)) b 1)) a 2 ((zup (zup sg a 0 (sg b 0)) a 1 ((zup sg a 0 (sg b 0)) b 1)) b 2)) a 3 ((zup (zup (zup sg a 0 (sg b 0)) a 1 ((zup sg a 0 (sg b 0)) b 1)) a 2 ((zup (zup sg a 0 (sg b 0)) a 1 ((zup sg a 0 (sg b 0)) b 1)) b 2)) b 3)) a 4 ((zup (zup (zup (zup sg a 0 (sg b 0)) a 1 ((zup sg a 0 (sg b 0)) b 1)) a 2 ((zup (zup sg a 0 (sg b 0)) a 1 ((zup sg a 0 (sg b 0)) b 1)) b 2)) a 3 ((zup (zup (zup sg a 0 (sg b 0)) a 1 ((zup sg a 0 (sg b 0)) b 1)) a 2 ((zup (zup sg a 0 (sg b 0)) a 1 ((zup sg a 0 (sg b 0)) b 1)) b 2)) b 3)) b 4)) a 5 ((zup (zup (zup (zup (zup sg a 0 (sg b 0)) a 1 ((zup sg a 0 (sg b 0)) b 1)) a 2 ((zup (zup sg a 0 (sg b 0)) a 1 ((zup sg a 0 (sg b 0)) b 1)) b 2)) a 3 ((zup (zup (zup sg a 0 (sg b 0)) a 1 ((zup sg a 0 (sg b 0)) b 1)) a 2 ((zup (zup sg a 0 (sg b 0)) a 1 ((zup sg a 0 (sg b 0)) b 1)) b 2)) b 3)) a 4 ((zup (zup (zup (zup sg a 0 (sg b 0)) a 1 ((zup sg a 0 (sg b 0)) b 1)) a 2 ((zup (zup sg a 0 (sg b 0)) a 1 ((zup sg a 0 (sg b 0)) b 1)) b 2)) a 3 ((zup (zup (zup sg a 0 (sg b 0)) a 1 ((zup sg a 0 (sg b 0)) b 1)) a 2 ((zup (zup sg a 0 (sg b 0)) a 1 ((zup sg a 0 (sg b 0)) b 1)) b 2)) b 3)) b 4)) b 5)) b 6)) b 7)) b 8))) (Ps := [zOb (zN sg) b 6, zOb (zN sg) a 6, (sg b 0) = 0 ∨ (sg b 0) = 1, zOb (zN (zup sg a 0 (sg b 0))) b 6, zOb (zN (zup sg a 0 (sg b 0))) a 6, zOb (zN (zup (zup sg a 0 (sg b 0)) a 1 ((zup sg a 0 (sg b 0)) b 1))) b 6, zOb (zN (zup (zup sg a 0 (sg b 0)) a 1 ((zup sg a 0 (sg b 0)) b 1))) a 6, zOb (zN (zup (zup (zup sg a 0 (sg b 0)) a 1 ((zup sg a 0 (sg b 0)) b 1)) a 2 ((zup (zup sg a 0 (sg b 0)) a 1 ((zup sg a 0 (sg b 0)) b 1)) b 2))) b 6, zOb (zN (zup (zup (zup sg a 0 (sg b 0)) a 1 ((zup sg a 0 (sg b 0)) b 1)) a 2 ((zup (zup sg a 0 (sg b 0)) a 1 ((zup sg a 0 (sg b 0)) b 1)) b 2))) a 6, zOb (zN (zup (zup (zup (zup sg a 0 (sg b 0)) a 1 ((zup sg a 0 (sg b 0)) b 1)) a 2 ((zup (zup sg a 0 (sg b 0)) a 1 ((zup sg a 0 (sg b 0)) b 1)) b 2)) a 3 ((zup (zup (zup sg a 0 (sg b 0)) a 1 ((zup sg a 0 (sg b 0)) b 1)) a 2 ((zup (zup sg a 0 (sg b 0)) a 1 ((zup sg a 0 (sg b 0)) b 1)) b 2)) b 3))) b 6, zOb (zN (zup (zup (zup (zup sg a 0 (sg b 0)) a 1 ((zup sg a 0 (sg b 0)) b 1)) a 2 ((zup (zup sg a 0 (sg b 0)) a 1 ((zup sg a 0 (sg b 0)) b 1)) b 2)) a 3 ((zup (zup (zup sg a 0 (sg b 0)) a 1 ((zup sg a 0 (sg b 0)) b 1)) a 2 ((zup (zup sg a 0 (sg b 0)) a 1 ((zup sg a 0 (sg b 0)) b 1)) b 2)) b 3))) a 6, zOb (zN (zup (zup (zup (zup (zup sg a 0 (sg b 0)) a 1 ((zup sg a 0 (sg b 0)) b 1)) a 2 ((zup (zup sg a 0 (sg b 0)) a 1 ((zup sg a 0 (sg b 0)) b 1)) b 2)) a 3 ((zup (zup (zup sg a 0 (sg b 0)) a 1 ((zup sg a 0 (sg b 0)) b 1)) a 2 ((zup (zup sg a 0 (sg b 0)) a 1 ((zup sg a 0 (sg b 0)) b 1)) b 2)) b 3)) a 4 ((zup (zup (zup (zup sg a 0 (sg b 0)) a 1 ((zup sg a 0 (sg b 0)) b 1)) a 2 ((zup (zup sg a 0 (sg b 0)) a 1 ((zup sg a 0 (sg b 0)) b 1)) b 2)) a 3 ((zup (zup (zup sg a 0 (sg b 0)) a 1 ((zup sg a 0 (sg b 0)) b 1)) a 2 ((zup (zup sg a 0 (sg b 0)) a 1 ((zup sg a 0 (sg b 0)) b 1)) b 2)) b 3)) b 4))) b 6, zOb (zN (zup (zup (zup (zup (zup sg a 0 (sg b 0)) a 1 ((zup sg a 0 (sg b 0)) b 1)) a 2 ((zup (zup sg a 0 (sg b 0)) a 1 ((zup sg a 0 (sg b 0)) b 1)) b 2)) a 3 ((zup (zup (zup sg a 0 (sg b 0)) a 1 ((zup sg a 0 (sg b 0)) b 1)) a 2 ((zup (zup sg a 0 (sg b 0)) a 1 ((zup sg a 0 (sg b 0)) b 1)) b 2)) b 3)) a 4 ((zup (zup (zup (zup sg a 0 (sg b 0)) a 1 ((zup sg a 0 (sg b 0)) b 1)) a 2 ((zup (zup sg a 0 (sg b 0)) a 1 ((zup sg a 0 (sg b 0)) b 1)) b 2)) a 3 ((zup (zup (zup sg a 0 (sg b 0)) a 1 ((zup sg a 0 (sg b 0)) b 1)) a 2 ((zup (zup sg a 0 (sg b 0)) a 1 ((zup sg a 0 (sg b 0)) b 1)) b 2)) b 3)) b 4))) a 6, zOb (zN (zup (zup (zup (zup (zup (zup sg a 0 (sg b 0)) a 1 ((zup sg a 0 (sg b 0)) b 1)) a 2 ((zup (zup sg a 0 (sg b 0)) a 1 ((zup sg a 0 (sg b 0)) b 1)) b 2)) a 3 ((zup (zup (zup sg a 0 (sg b 0)) a 1 ((zup sg a 0 (sg b 0)) b 1)) a 2 ((zup (zup sg a 0 (sg b 0)) a 1 ((zup sg a 0 (sg b 0)) b 1)) b 2)) b 3)) a 4 ((zup (zup (zup (zup sg a 0 (sg b 0)) a 1 ((zup sg a 0 (sg b 0)) b 1)) a 2 ((zup (zup sg a 0 (sg b 0)) a 1 ((zup sg a 0 (sg b 0)) b 1)) b 2)) a 3 ((zup (zup (zup sg a 0 (sg b 0)) a 1 ((zup sg a 0 (sg b 0)) b 1)) a 2 ((zup (zup sg a 0 (sg b 0)) a 1 ((zup sg a 0 (sg b 0)) b 1)) b 2)) b 3)) b 4)) a 5 ((zup (zup (zup (zup (zup sg a 0 (sg b 0)) a 1 ((zup sg a 0 (sg b 0)) b 1)) a 2 ((zup (zup sg a 0 (sg b 0)) a 1 ((zup sg a 0 (sg b 0)) b 1)) b 2)) a 3 ((zup (zup (zup sg a 0 (sg b 0)) a 1 ((zup sg a 0 (sg b 0)) b 1)) a 2 ((zup (zup sg a 0 (sg b 0)) a 1 ((zup sg a 0 (sg b 0)) b 1)) b 2)) b 3)) a 4 ((zup (zup (zup (zup sg a 0 (sg b 0)) a 1 ((zup sg a 0 (sg b 0)) b 1)) a 2 ((zup (zup sg a 0 (sg b 0)) a 1 ((zup sg a 0 (sg b 0)) b 1)) b 2)) a 3 ((zup (zup (zup sg a 0 (sg b 0)) a 1 ((zup sg a 0 (sg b 0)) b 1)) a 2 ((zup (zup sg a 0 (sg b 0)) a 1 ((zup sg a 0 (sg b 0)) b 1)) b 2)) b 3)) b 4)) b 5))) b 6, zOb (zN (zup (zup (zup (zup (zup (zup sg a 0 (sg b 0)) a 1 ((zup sg a 0 (sg b 0)) b 1)) a 2 ((zup (zup sg a 0 (sg b 0)) a 1 ((zup sg a 0 (sg b 0)) b 1)) b 2)) a 3 ((zup (zup (zup sg a 0 (sg b 0)) a 1 ((zup sg a 0 (sg b 0)) b 1)) a 2 ((zup (zup sg a 0 (sg b 0)) a 1 ((zup sg a 0 (sg b 0)) b 1)) b 2)) b 3)) a 4 ((zup (zup (zup (zup sg a 0 (sg b 0)) a 1 ((zup sg a 0 (sg b 0)) b 1)) a 2 ((zup (zup sg a 0 (sg b 0)) a 1 ((zup sg a 0 (sg b 0)) b 1)) b 2)) a 3 ((zup (zup (zup sg a 0 (sg b 0)) a 1 ((zup sg a 0 (sg b 0)) b 1)) a 2 ((zup (zup sg a 0 (sg b 0)) a 1 ((zup sg a 0 (sg b 0)) b 1)) b 2)) b 3)) b 4)) a 5 ((zup (zup (zup (zup (zup sg a 0 (sg b 0)) a 1 ((zup sg a 0 (sg b 0)) b 1)) a 2 ((zup (zup sg a 0 (sg b 0)) a 1 ((zup sg a 0 (sg b 0)) b 1)) b 2)) a 3 ((zup (zup (zup sg a 0 (sg b 0)) a 1 ((zup sg a 0 (sg b 0)) b 1)) a 2 ((zup (zup sg a 0 (sg b 0)) a 1 ((zup sg a 0 (sg b 0)) b 1)) b 2)) b 3)) a 4 ((zup (zup (zup (zup sg a 0 (sg b 0)) a 1 ((zup sg a 0 (sg b 0)) b 1)) a 2 ((zup (zup sg a 0 (sg b 0)) a 1 ((zup sg a 0 (sg b 0)) b 1)) b 2)) a 3 ((zup (zup (zup sg a 0 (sg b 0)) a 1 ((zup sg a 0 (sg b 0)) b 1)) a 2 ((zup (zup sg a 0 (sg b 0)) a 1 ((zup sg a 0 (sg b 0)) b 1)) b 2)) b 3)) b 4)) b 5))) a 6, zOb (zN (zup (zup (zup (zup (zup (zup (zup sg a 0 (sg b 0)) a 1 ((zup sg a 0 (sg b 0)) b 1)) a 2 ((zup (zup sg a 0 (sg b 0)) a 1 ((zup sg a 0 (sg b 0)) b 1)) b 2)) a 3 ((zup (zup (zup sg a 0 (sg b 0)) a 1 ((zup sg a 0 (sg b 0)) b 1)) a 2 ((zup (zup sg a 0 (sg b 0)) a 1 ((zup sg a 0 (sg b 0)) b 1)) b 2)) b 3)) a 4 ((zup (zup (zup (zup sg a 0 (sg b 0)) a 1 ((zup sg a 0 (sg b 0)) b 1)) a 2 ((zup (zup sg a 0 (sg b 0)) a 1 ((zup sg a 0 (sg b 0)) b 1)) b 2)) a 3 ((zup (zup (zup sg a 0 (sg b 0)) a 1 ((zup sg a 0 (sg b 0)) b 1)) a 2 ((zup (zup sg a 0 (sg b 0)) a 1 ((zup sg a 0 (sg b 0)) b 1)) b 2)) b 3)) b 4)) a 5 ((zup (zup (zup (zup (zup sg a 0 (sg b 0)) a 1 ((zup sg a 0 (sg b 0)) b 1)) a 2 ((zup (zup sg a 0 (sg b 0)) a 1 ((zup sg a 0 (sg b 0)) b 1)) b 2)) a 3 ((zup (zup (zup sg a 0 (sg b 0)) a 1 ((zup sg a 0 (sg b 0)) b 1)) a 2 ((zup (zup sg a 0 (sg b 0)) a 1 ((zup sg a 0 (sg b 0)) b 1)) b 2)) b 3)) a 4 ((zup (zup (zup (zup sg a 0 (sg b 0)) a 1 ((zup sg a 0 (sg b 0)) b 1)) a 2 ((zup (zup sg a 0 (sg b 0)) a 1 ((zup sg a 0 (sg b 0)) b 1)) b 2)) a 3 ((zup (zup (zup sg a 0 (sg b 0)) a 1 ((zup sg a 0 (sg b 0)) b 1)) a 2 ((zup (zup sg a 0 (sg b 0)) a 1 ((zup sg a 0 (sg b 0)) b 1)) b 2)) b 3)) b 4)) b 5)) a 6 ((zup (zup (zup (zup (zup (zup sg a 0 (sg b 0)) a 1 ((zup sg a 0 (sg b 0)) b 1)) a 2 ((zup (zup sg a 0 (sg b 0)) a 1 ((zup sg a 0 (sg b 0)) b 1)) b 2)) a 3 ((zup (zup (zup sg a 0 (sg b 0)) a 1 ((zup sg a 0 (sg b 0)) b 1)) a 2 ((zup (zup sg a 0 (sg b 0)) a 1 ((zup sg a 0 (sg b 0)) b 1)) b 2)) b 3)) a 4 ((zup (zup (zup (zup sg a 0 (sg b 0)) a 1 ((zup sg a 0 (sg b 0)) b 1)) a 2 ((zup (zup sg a 0 (sg b 0)) a 1 ((zup sg a 0 (sg b 0)) b 1)) b 2)) a 3 ((zup (zup (zup sg a 0 (sg b 0)) a 1 ((zup sg a 0 (sg b 0)) b 1)) a 2 ((zup (zup sg a 0 (sg b 0)) a 1 ((zup sg a 0 (sg b 0)) b 1)) b 2)) b 3)) b 4)) a 5 ((zup (zup (zup (zup (zup sg a 0 (sg b 0)) a 1 ((zup sg a 0 (sg b 0)) b 1)) a 2 ((zup (zup sg a 0 (sg b 0)) a 1 ((zup sg a 0 (sg b 0)) b 1)) b 2)) a 3 ((zup (zup (zup sg a 0 (sg b 0)) a 1 ((zup sg a 0 (sg b 0)) b 1)) a 2 ((zup (zup sg a 0 (sg b 0)) a 1 ((zup sg a 0 (sg b 0)) b 1)) b 2)) b 3)) a 4 ((zup (zup (zup (zup sg a 0 (sg b 0)) a 1 ((zup sg a 0 (sg b 0)) b 1)) a 2 ((zup (zup sg a 0 (sg b 0)) a 1 ((zup sg a 0 (sg b 0)) b 1)) b 2)) a 3 ((zup (zup (zup sg a 0 (sg b 0)) a 1 ((zup sg a 0 (sg b 0)) b 1)) a 2 ((zup (zup sg a 0 (sg b 0)) a 1 ((zup sg a 0 (sg b 0)) b 1)) b 2)) b 3)) b 4)) b 5)) b 6))) b 6, zOb (zN (zup (zup (zup (zup (zup (zup (zup sg a 0 (sg b 0)) a 1 ((zup sg a 0 (sg b 0)) b 1)) a 2 ((zup (zup sg a 0 (sg b 0)) a 1 ((zup sg a 0 (sg b 0)) b 1)) b 2)) a 3 ((zup (zup (zup sg a 0 (sg b 0)) a 1 ((zup sg a 0 (sg b 0)) b 1)) a 2 ((zup (zup sg a 0 (sg b 0)) a 1 ((zup sg a 0 (sg b 0)) b 1)) b 2)) b 3)) a 4 ((zup (zup (zup (zup sg a 0 (sg b 0)) a 1 ((zup sg a 0 (sg b 0)) b 1)) a 2 ((zup (zup sg a 0 (sg b 0)) a 1 ((zup sg a 0 (sg b 0)) b 1)) b 2)) a 3 ((zup (zup (zup sg a 0 (sg b 0)) a 1 ((zup sg a 0 (sg b 0)) b 1)) a 2 ((zup (zup sg a 0 (sg b 0)) a 1 ((zup sg a 0 (sg b 0)) b 1)) b 2)) b 3)) b 4)) a 5 ((zup (zup (zup (zup (zup sg a 0 (sg b 0)) a 1 ((zup sg a 0 (sg b 0)) b 1)) a 2 ((zup (zup sg a 0 (sg b 0)) a 1 ((zup sg a 0 (sg b 0)) b 1)) b 2)) a 3 ((zup (zup (zup sg a 0 (sg b 0)) a 1 ((zup sg a 0 (sg b 0)) b 1)) a 2 ((zup (zup sg a 0 (sg b 0)) a 1 ((zup sg a 0 (sg b 0)) b 1)) b 2)) b 3)) a 4 ((zup (zup (zup (zup sg a 0 (sg b 0)) a 1 ((zup sg a 0 (sg b 0)) b 1)) a 2 ((zup (zup sg a 0 (sg b 0)) a 1 ((zup sg a 0 (sg b 0)) b 1)) b 2)) a 3 ((zup (zup (zup sg a 0 (sg b 0)) a 1 ((zup sg a 0 (sg b 0)) b 1)) a 2 ((zup (zup sg a 0 (sg b 0)) a 1 ((zup sg a 0 (sg b 0)) b 1)) b 2)) b 3)) b 4)) b 5)) a 6 ((zup (zup (zup (zup (zup (zup sg a 0 (sg b 0)) a 1 ((zup sg a 0 (sg b 0)) b 1)) a 2 ((zup (zup sg a 0 (sg b 0)) a 1 ((zup sg a 0 (sg b 0)) b 1)) b 2)) a 3 ((zup (zup (zup sg a 0 (sg b 0)) a 1 ((zup sg a 0 (sg b 0)) b 1)) a 2 ((zup (zup sg a 0 (sg b 0)) a 1 ((zup sg a 0 (sg b 0)) b 1)) b 2)) b 3)) a 4 ((zup (zup (zup (zup sg a 0 (sg b 0)) a 1 ((zup sg a 0 (sg b 0)) b 1)) a 2 ((zup (zup sg a 0 (sg b 0)) a 1 ((zup sg a 0 (sg b 0)) b 1)) b 2)) a 3 ((zup (zup (zup sg a 0 (sg b 0)) a 1 ((zup sg a 0 (sg b 0)) b 1)) a 2 ((zup (zup sg a 0 (sg b 0)) a 1 ((zup sg a 0 (sg b 0)) b 1)) b 2)) b 3)) b 4)) a 5 ((zup (zup (zup (zup (zup sg a 0 (sg b 0)) a 1 ((zup sg a 0 (sg b 0)) b 1)) a 2 ((zup (zup sg a 0 (sg b 0)) a 1 ((zup sg a 0 (sg b 0)) b 1)) b 2)) a 3 ((zup (zup (zup sg a 0 (sg b 0)) a 1 ((zup sg a 0 (sg b 0)) b 1)) a 2 ((zup (zup sg a 0 (sg b 0)) a 1 ((zup sg a 0 (sg b 0)) b 1)) b 2)) b 3)) a 4 ((zup (zup (zup (zup sg a 0 (sg b 0)) a 1 ((zup sg a 0 (sg b 0)) b 1)) a 2 ((zup (zup sg a 0 (sg b 0)) a 1 ((zup sg a 0 (sg b 0)) b 1)) b 2)) a 3 ((zup (zup (zup sg a 0 (sg b 0)) a 1 ((zup sg a 0 (sg b 0)) b 1)) a 2 ((zup (zup sg a 0 (sg b 0)) a 1 ((zup sg a 0 (sg b 0)) b 1)) b 2)) b 3)) b 4)) b 5)) b 6))) a 6, zOb (zN (zup (zup (zup (zup (zup (zup (zup (zup sg a 0 (sg b 0)) a 1 ((zup sg a 0 (sg b 0)) b 1)) a 2 ((zup (zup sg a 0 (sg b 0)) a 1 ((zup sg a 0 (sg b 0)) b 1)) b 2)) a 3 ((zup (zup (zup sg a 0 (sg b 0)) a 1 ((zup sg a 0 (sg b 0)) b 1)) a 2 ((zup (zup sg a 0 (sg b 0)) a 1 ((zup sg a 0 (sg b 0)) b 1)) b 2)) b 3)) a 4 ((zup (zup (zup (zup sg a 0 (sg b 0)) a 1 ((zup sg a 0 (sg b 0)) b 1)) a 2 ((zup (zup sg a 0 (sg b 0)) a 1 ((zup sg a 0 (sg b 0)) b 1)) b 2)) a 3 ((zup (zup (zup sg a 0 (sg b 0)) a 1 ((zup sg a 0 (sg b 0)) b 1)) a 2 ((zup (zup sg a 0 (sg b 0)) a 1 ((zup sg a 0 (sg b 0)) b 1)) b 2)) b 3)) b 4)) a 5 ((zup (zup (zup (zup (zup sg a 0 (sg b 0)) a 1 ((zup sg a 0 (sg b 0)) b 1)) a 2 ((zup (zup sg a 0 (sg b 0)) a 1 ((zup sg a 0 (sg b 0)) b 1)) b 2)) a 3 ((zup (zup (zup sg a 0 (sg b 0)) a 1 ((zup sg a 0 (sg b 0)) b 1)) a 2 ((zup (zup sg a 0 (sg b 0)) a 1 ((zup sg a 0 (sg b 0)) b 1)) b 2)) b 3)) a 4 ((zup (zup (zup (zup sg a 0 (sg b 0)) a 1 ((zup sg a 0 (sg b 0)) b 1)) a 2 ((zup (zup sg a 0 (sg b 0)) a 1 ((zup sg a 0 (sg b 0)) b 1)) b 2)) a 3 ((zup (zup (zup sg a 0 (sg b 0)) a 1 ((zup sg a 0 (sg b 0)) b 1)) a 2 ((zup (zup sg a 0 (sg b 0)) a 1 ((zup sg a 0 (sg b 0)) b 1)) b 2)) b 3)) b 4)) b 5)) a 6 ((zup (zup (zup (zup (zup (zup sg a 0 (sg b 0)) a 1 ((zup sg a 0 (sg b 0)) b 1)) a 2 ((zup (zup sg a 0 (sg b 0)) a 1 ((zup sg a 0 (sg b 0)) b 1)) b 2)) a 3 ((zup (zup (zup sg a 0 (sg b 0)) a 1 ((zup sg a 0 (sg b 0)) b 1)) a 2 ((zup (zup sg a 0 (sg b 0)) a 1 ((zup sg a 0 (sg b 0)) b 1)) b 2)) b 3)) a 4 ((zup (zup (zup (zup sg a 0 (sg b 0)) a 1 ((zup sg a 0 (sg b 0)) b 1)) a 2 ((zup (zup sg a 0 (sg b 0)) a 1 ((zup sg a 0 (sg b 0)) b 1)) b 2)) a 3 ((zup (zup (zup sg a 0 (sg b 0)) a 1 ((zup sg a 0 (sg b 0)) b 1)) a 2 ((zup (zup sg a 0 (sg b 0)) a 1 ((zup sg a 0 (sg b 0)) b 1)) b 2)) b 3)) b 4)) a 5 ((zup (zup (zup (zup (zup sg a 0 (sg b 0)) a 1 ((zup sg a 0 (sg b 0)) b 1)) a 2 ((zup (zup sg a 0 (sg b 0)) a 1 ((zup sg a 0 (sg b 0)) b 1)) b 2)) a 3 ((zup (zup (zup sg a 0 (sg b 0)) a 1 ((zup sg a 0 (sg b 0)) b 1)) a 2 ((zup (zup sg a 0 (sg b 0)) a 1 ((zup sg a 0 (sg b 0)) b 1)) b 2)) b 3)) a 4 ((zup (zup (zup (zup sg a 0 (sg b 0)) a 1 ((zup sg a 0 (sg b 0)) b 1)) a 2 ((zup (zup sg a 0 (sg b 0)) a 1 ((zup sg a 0 (sg b 0)) b 1)) b 2)) a 3 ((zup (zup (zup sg a 0 (sg b 0)) a 1 ((zup sg a 0 (sg b 0)) b 1)) a 2 ((zup (zup sg a 0 (sg b 0)) a 1 ((zup sg a 0 (sg b 0)) b 1)) b 2)) b 3)) b 4)) b 5)) b 6)) a 7 ((zup (zup (zup (zup (zup (zup (zup sg a 0 (sg b 0)) a 1 ((zup sg a 0 (sg b 0)) b 1)) a 2 ((zup (zup sg a 0 (sg b 0)) a 1 ((zup sg a 0 (sg b 0)) b 1)) b 2)) a 3 ((zup (zup (zup sg a 0 (sg b 0)) a 1 ((zup sg a 0 (sg b 0)) b 1)) a 2 ((zup (zup sg a 0 (sg b 0)) a 1 ((zup sg a 0 (sg b 0)) b 1)) b 2)) b 3)) a 4 ((zup (zup (zup (zup sg a 0 (sg b 0)) a 1 ((zup sg a 0 (sg b 0)) b 1)) a 2 ((zup (zup sg a 0 (sg b 0)) a 1 ((zup sg a 0 (sg b 0)) b 1)) b 2)) a 3 ((zup (zup (zup sg a 0 (sg b 0)) a 1 ((zup sg a 0 (sg b 0)) b 1)) a 2 ((zup (zup sg a 0 (sg b 0)) a 1 ((zup sg a 0 (sg b 0)) b 1)) b 2)) b 3)) b 4)) a 5 ((zup (zup (zup (zup (zup sg a 0 (sg b 0)) a 1 ((zup sg a 0 (sg b 0)) b 1)) a 2 ((zup (zup sg a 0 (sg b 0)) a 1 ((zup sg a 0 (sg b 0)) b 1)) b 2)) a 3 ((zup (zup (zup sg a 0 (sg b 0)) a 1 ((zup sg a 0 (sg b 0)) b 1)) a 2 ((zup (zup sg a 0 (sg b 0)) a 1 ((zup sg a 0 (sg b 0)) b 1)) b 2)) b 3)) a 4 ((zup (zup (zup (zup sg a 0 (sg b 0)) a 1 ((zup sg a 0 (sg b 0)) b 1)) a 2 ((zup (zup sg a 0 (sg b 0)) a 1 ((zup sg a 0 (sg b 0)) b 1)) b 2)) a 3 ((zup (zup (zup sg a 0 (sg b 0)) a 1 ((zup sg a 0 (sg b 0)) b 1)) a 2 ((zup (zup sg a 0 (sg b 0)) a 1 ((zup sg a 0 (sg b 0)) b 1)) b 2)) b 3)) b 4)) b 5)) a 6 ((zup (zup (zup (zup (zup (zup sg a 0 (sg b 0)) a 1 ((zup sg a 0 (sg b 0)) b 1)) a 2 ((zup (zup sg a 0 (sg b 0)) a 1 ((zup sg a 0 (sg b 0)) b 1)) b 2)) a 3 ((zup (zup (zup sg a 0 (sg b 0)) a 1 ((zup sg a 0 (sg b 0)) b 1)) a 2 ((zup (zup sg a 0 (sg b 0)) a 1 ((zup sg a 0 (sg b 0)) b 1)) b 2)) b 3)) a 4 ((zup (zup (zup (zup sg a 0 (sg b 0)) a 1 ((zup sg a 0 (sg b 0)) b 1)) a 2 ((zup (zup sg a 0 (sg b 0)) a 1 ((zup sg a 0 (sg b 0)) b 1)) b 2)) a 3 ((zup (zup (zup sg a 0 (sg b 0)) a 1 ((zup sg a 0 (sg b 0)) b 1)) a 2 ((zup (zup sg a 0 (sg b 0)) a 1 ((zup sg a 0 (sg b 0)) b 1)) b 2)) b 3)) b 4)) a 5 ((zup (zup (zup (zup (zup sg a 0 (sg b 0)) a 1 ((zup sg a 0 (sg b 0)) b 1)) a 2 ((zup (zup sg a 0 (sg b 0)) a 1 ((zup sg a 0 (sg b 0)) b 1)) b 2)) a 3 ((zup (zup (zup sg a 0 (sg b 0)) a 1 ((zup sg a 0 (sg b 0)) b 1)) a 2 ((zup (zup sg a 0 (sg b 0)) a 1 ((zup sg a 0 (sg b 0)) b 1)) b 2)) b 3)) a 4 ((zup (zup (zup (zup sg a 0 (sg b 0)) a 1 ((zup sg a 0 (sg b 0)) b 1)) a 2 ((zup (zup sg a 0 (sg b 0)) a 1 ((zup sg a 0 (sg b 0)) b 1)) b 2)) a 3 ((zup (zup (zup sg a 0 (sg b 0)) a 1 ((zup sg a 0 (sg b 0)) b 1)) a 2 ((zup (zup sg a 0 (sg b 0)) a 1 ((zup sg a 0 (sg b 0)) b 1)) b 2)) b 3)) b 4)) b 5)) b 6)) b 7))) b 6, zOb (zN (zup (zup (zup (zup (zup (zup (zup (zup sg a 0 (sg b 0)) a 1 ((zup sg a 0 (sg b 0)) b 1)) a 2 ((zup (zup sg a 0 (sg b 0)) a 1 ((zup sg a 0 (sg b 0)) b 1)) b 2)) a 3 ((zup (zup (zup sg a 0 (sg b 0)) a 1 ((zup sg a 0 (sg b 0)) b 1)) a 2 ((zup (zup sg a 0 (sg b 0)) a 1 ((zup sg a 0 (sg b 0)) b 1)) b 2)) b 3)) a 4 ((zup (zup (zup (zup sg a 0 (sg b 0)) a 1 ((zup sg a 0 (sg b 0)) b 1)) a 2 ((zup (zup sg a 0 (sg b 0)) a 1 ((zup sg a 0 (sg b 0)) b 1)) b 2)) a 3 ((zup (zup (zup sg a 0 (sg b 0)) a 1 ((zup sg a 0 (sg b 0)) b 1)) a 2 ((zup (zup sg a 0 (sg b 0)) a 1 ((zup sg a 0 (sg b 0)) b 1)) b 2)) b 3)) b 4)) a 5 ((zup (zup (zup (zup (zup sg a 0 (sg b 0)) a 1 ((zup sg a 0 (sg b 0)) b 1)) a 2 ((zup (zup sg a 0 (sg b 0)) a 1 ((zup sg a 0 (sg b 0)) b 1)) b 2)) a 3 ((zup (zup (zup sg a 0 (sg b 0)) a 1 ((zup sg a 0 (sg b 0)) b 1)) a 2 ((zup (zup sg a 0 (sg b 0)) a 1 ((zup sg a 0 (sg b 0)) b 1)) b 2)) b 3)) a 4 ((zup (zup (zup (zup sg a 0 (sg b 0)) a 1 ((zup sg a 0 (sg b 0)) b 1)) a 2 ((zup (zup sg a 0 (sg b 0)) a 1 ((zup sg a 0 (sg b 0)) b 1)) b 2)) a 3 ((zup (zup (zup sg a 0 (sg b 0)) a 1 ((zup sg a 0 (sg b 0)) b 1)) a 2 ((zup (zup sg a 0 (sg b 0)) a 1 ((zup sg a 0 (sg b 0)) b 1)) b 2)) b 3)) b 4)) b 5)) a 6 ((zup (zup (zup (zup (zup (zup sg a 0 (sg b 0)) a 1 ((zup sg a 0 (sg b 0)) b 1)) a 2 ((zup (zup sg a 0 (sg b 0)) a 1 ((zup sg a 0 (sg b 0)) b 1)) b 2)) a 3 ((zup (zup (zup sg a 0 (sg b 0)) a 1 ((zup sg a 0 (sg b 0)) b 1)) a 2 ((zup (zup sg a 0 (sg b 0)) a 1 ((zup sg a 0 (sg b 0)) b 1)) b 2)) b 3)) a 4 ((zup (zup (zup (zup sg a 0 (sg b 0)) a 1 ((zup sg a 0 (sg b 0)) b 1)) a 2 ((zup (zup sg a 0 (sg b 0)) a 1 ((zup sg a 0 (sg b 0)) b 1)) b 2)) a 3 ((zup (zup (zup sg a 0 (sg b 0)) a 1 ((zup sg a 0 (sg b 0)) b 1)) a 2 ((zup (zup sg a 0 (sg b 0)) a 1 ((zup sg a 0 (sg b 0)) b 1)) b 2)) b 3)) b 4)) a 5 ((zup (zup (zup (zup (zup sg a 0 (sg b 0)) a 1 ((zup sg a 0 (sg b 0)) b 1)) a 2 ((zup (zup sg a 0 (sg b 0)) a 1 ((zup sg a 0 (sg b 0)) b 1)) b 2)) a 3 ((zup (zup (zup sg a 0 (sg b 0)) a 1 ((zup sg a 0 (sg b 0)) b 1)) a 2 ((zup (zup sg a 0 (sg b 0)) a 1 ((zup sg a 0 (sg b 0)) b 1)) b 2)) b 3)) a 4 ((zup (zup (zup (zup sg a 0 (sg b 0)) a 1 ((zup sg a 0 (sg b 0)) b 1)) a 2 ((zup (zup sg a 0 (sg b 0)) a 1 ((zup sg a 0 (sg b 0)) b 1)) b 2)) a 3 ((zup (zup (zup sg a 0 (sg b 0)) a 1 ((zup sg a 0 (sg b 0)) b 1)) a 2 ((zup (zup sg a 0 (sg b 0)) a 1 ((zup sg a 0 (sg b 0)) b 1)) b 2)) b 3)) b 4)) b 5)) b 6)) a 7 ((zup (zup (zup (zup (zup (zup (zup sg a 0 (sg b 0)) a 1 ((zup sg a 0 (sg b 0)) b 1)) a 2 ((zup (zup sg a 0 (sg b 0)) a 1 ((zup sg a 0 (sg b 0)) b 1)) b 2)) a 3 ((zup (zup (zup sg a 0 (sg b 0)) a 1 ((zup sg a 0 (sg b 0)) b 1)) a 2 ((zup (zup sg a 0 (sg b 0)) a 1 ((zup sg a 0 (sg b 0)) b 1)) b 2)) b 3)) a 4 ((zup (zup (zup (zup sg a 0 (sg b 0)) a 1 ((zup sg a 0 (sg b 0)) b 1)) a 2 ((zup (zup sg a 0 (sg b 0)) a 1 ((zup sg a 0 (sg b 0)) b 1)) b 2)) a 3 ((zup (zup (zup sg a 0 (sg b 0)) a 1 ((zup sg a 0 (sg b 0)) b 1)) a 2 ((zup (zup sg a 0 (sg b 0)) a 1 ((zup sg a 0 (sg b 0)) b 1)) b 2)) b 3)) b 4)) a 5 ((zup (zup (zup (zup (zup sg a 0 (sg b 0)) a 1 ((zup sg a 0 (sg b 0)) b 1)) a 2 ((zup (zup sg a 0 (sg b 0)) a 1 ((zup sg a 0 (sg b 0)) b 1)) b 2)) a 3 ((zup (zup (zup sg a 0 (sg b 0)) a 1 ((zup sg a 0 (sg b 0)) b 1)) a 2 ((zup (zup sg a 0 (sg b 0)) a 1 ((zup sg a 0 (sg b 0)) b 1)) b 2)) b 3)) a 4 ((zup (zup (zup (zup sg a 0 (sg b 0)) a 1 ((zup sg a 0 (sg b 0)) b 1)) a 2 ((zup (zup sg a 0 (sg b 0)) a 1 ((zup sg a 0 (sg b 0)) b 1)) b 2)) a 3 ((zup (zup (zup sg a 0 (sg b 0)) a 1 ((zup sg a 0 (sg b 0)) b 1)) a 2 ((zup (zup sg a 0 (sg b 0)) a 1 ((zup sg a 0 (sg b 0)) b 1)) b 2)) b 3)) b 4)) b 5)) a 6 ((zup (zup (zup (zup (zup (zup sg a 0 (sg b 0)) a 1 ((zup sg a 0 (sg b 0)) b 1)) a 2 ((zup (zup sg a 0 (sg b 0)) a 1 ((zup sg a 0 (sg b 0)) b 1)) b 2)) a 3 ((zup (zup (zup sg a 0 (sg b 0)) a 1 ((zup sg a 0 (sg b 0)) b 1)) a 2 ((zup (zup sg a 0 (sg b 0)) a 1 ((zup sg a 0 (sg b 0)) b 1)) b 2)) b 3)) a 4 ((zup (zup (zup (zup sg a 0 (sg b 0)) a 1 ((zup sg a 0 (sg b 0)) b 1)) a 2 ((zup (zup sg a 0 (sg b 0)) a 1 ((zup sg a 0 (sg b 0)) b 1)) b 2)) a 3 ((zup (zup (zup sg a 0 (sg b 0)) a 1 ((zup sg a 0 (sg b 0)) b 1)) a 2 ((zup (zup sg a 0 (sg b 0)) a 1 ((zup sg a 0 (sg b 0)) b 1)) b 2)) b 3)) b 4)) a 5 ((zup (zup (zup (zup (zup sg a 0 (sg b 0)) a 1 ((zup sg a 0 (sg b 0)) b 1)) a 2 ((zup (zup sg a 0 (sg b 0)) a 1 ((zup sg a 0 (sg b 0)) b 1)) b 2)) a 3 ((zup (zup (zup sg a 0 (sg b 0)) a 1 ((zup sg a 0 (sg b 0)) b 1)) a 2 ((zup (zup sg a 0 (sg b 0)) a 1 ((zup sg a 0 (sg b 0)) b 1)) b 2)) b 3)) a 4 ((zup (zup (zup (zup sg a 0 (sg b 0)) a 1 ((zup sg a 0 (sg b 0)) b 1)) a 2 ((zup (zup sg a 0 (sg b 0)) a 1 ((zup sg a 0 (sg b 0)) b 1)) b 2)) a 3 ((zup (zup (zup sg a 0 (sg b 0)) a 1 ((zup sg a 0 (sg b 0)) b 1)) a 2 ((zup (zup sg a 0 (sg b 0)) a 1 ((zup sg a 0 (sg b 0)) b 1)) b 2)) b 3)) b 4)) b 5)) b 6)) b 7))) a 6]) rfl (zA hb (zA ha (zA hz (zA hb (zA ha (zA hb (zA ha (zA hb (zA ha (zA hb (zA ha (zA hb (zA ha (zA hb (zA ha (zA hb (zA ha (zA hb (zA ha trivial))))))))))))))))))) rfl ?_
  exact ⟨rfl, by simp [hSpB, zup_e, hne]⟩
theorem bkAnc_become_0 : zBk mAnc_become 0 [(1, 0, 1, 0, 0), (1, 1, 1, 0, 0), (5, 1, 0, 0, 0), (6, 1, 0, 1, 0), (1, 0, 1, 0, 0), (1, 1, 1, 0, 0), (5, 1, 1, 0, 1), (6, 1, 1, 0, 1), (1, 0, 1, 0, 0), (1, 1, 1, 0, 0), (5, 1, 2, 0, 2), (6, 1, 2, 0, 2), (1, 0, 1, 0, 0), (1, 1, 1, 0, 0), (5, 1, 3, 0, 3), (6, 1, 3, 0, 3)] = some 32 := by decide +kernel
theorem bdAnc_become_32 : decode mAnc_become.2.2.1 32 = .ok (.return_, 1) := by decide +kernel
theorem cAnc_become {sg : zSig} {a b : Nat} (ha : zOb (zN sg) a 1) (hb : zOb (zN sg) b 1) (hne : b ≠ a) (hz : sg b 0 = 0 ∨ sg b 0 = 1)  : zG mAnc_become 411 (fun rr h' => rr = none ∧ h' = zN (hAnB sg a b)) 0 [(0, .ref a), (1, .ref b)] [] (zN sg) := by
  refine zb_vret bkAnc_become_0 bdAnc_become_32 rfl (h' := zN (zup (zup (zup (zup sg a 0 (sg b 0)) a 1 ((zup sg a 0 (sg b 0)) b 1)) a 2 ((zup (zup sg a 0 (sg b 0)) a 1 ((zup sg a 0 (sg b 0)) b 1)) b 2)) a 3 ((zup (zup (zup sg a 0 (sg b 0)) a 1 ((zup sg a 0 (sg b 0)) b 1)) a 2 ((zup (zup sg a 0 (sg b 0)) a 1 ((zup sg a 0 (sg b 0)) b 1)) b 2)) b 3))) (Ps := [zOb (zN sg) b 1, zOb (zN sg) a 1, (sg b 0) = 0 ∨ (sg b 0) = 1, zOb (zN (zup sg a 0 (sg b 0))) b 1, zOb (zN (zup sg a 0 (sg b 0))) a 1, zOb (zN (zup (zup sg a 0 (sg b 0)) a 1 ((zup sg a 0 (sg b 0)) b 1))) b 1, zOb (zN (zup (zup sg a 0 (sg b 0)) a 1 ((zup sg a 0 (sg b 0)) b 1))) a 1, zOb (zN (zup (zup (zup sg a 0 (sg b 0)) a 1 ((zup sg a 0 (sg b 0)) b 1)) a 2 ((zup (zup sg a 0 (sg b 0)) a 1 ((zup sg a 0 (sg b 0)) b 1)) b 2))) b 1, zOb (zN (zup (zup (zup sg a 0 (sg b 0)) a 1 ((zup sg a 0 (sg b 0)) b 1)) a 2 ((zup (zup sg a 0 (sg b 0)) a 1 ((zup sg a 0 (sg b 0)) b 1)) b 2))) a 1]) rfl (zA hb (zA ha (zA hz (zA hb (zA ha (zA hb (zA ha (zA hb (zA ha trivial))))))))) rfl ?_
  exact ⟨rfl, by simp [hAnB, zup_e, hne]⟩
theorem bkAct_become_0 : zBk mAct_become 0 [(1, 0, 1, 0, 0), (1, 1, 0, 0, 0), (6, 0, 0, 0, 0), (1, 0, 1, 0, 0), (1, 2, 0, 0, 0), (6, 0, 1, 0, 1), (1, 0, 1, 0, 0), (1, 3, 0, 0, 0), (6, 0, 2, 0, 2), (1, 0, 1, 0, 0), (1, 4, 0, 0, 0), (6, 0, 3, 0, 3)] = some 21 := by decide +kernel
theorem bdAct_become_21 : decode mAct_become.2.2.1 21 = .ok (.return_, 1) := by decide +kernel
theorem cAct_become {sg : zSig} {a : Nat} {k x y z : Int32} (ha : zOb (zN sg) a 0)  : zG mAct_become 411 (fun rr h' => rr = none ∧ h' = zN (hAcB sg a k x y z)) 0 [(0, .ref a), (1, .int k), (2, .int x), (3, .int y), (4, .int z)] [] (zN sg) := by
  refine zb_vret bkAct_become_0 bdAct_become_21 rfl (h' := zN (zup (zup (zup (zup sg a 0 k) a 1 x) a 2 y) a 3 z)) (Ps := [zOb (zN sg) a 0, zOb (zN (zup sg a 0 k)) a 0, zOb (zN (zup (zup sg a 0 k) a 1 x)) a 0, zOb (zN (zup (zup (zup sg a 0 k) a 1 x) a 2 y)) a 0]) rfl (zA ha (zA ha (zA ha (zA ha trivial)))) rfl ?_
  exact ⟨rfl, rfl⟩
theorem bkSpa_lettersCome_0 : zBk mSpa_lettersCome 0 [(1, 0, 1, 0, 0), (1, 0, 1, 0, 0), (5, 6, 1, 0, 1), (1, 0, 1, 0, 0), (5, 6, 8, 0, 8), (0, 0, 0, 0, 1), (4, 3, 0, 0, 0), (1, 1, 0, 0, 0), (1, 2, 0, 0, 0)] = some 13 := by decide +kernel
theorem bkSpa_lettersCome_16 : zBk mSpa_lettersCome 16 [(6, 6, 1, 0, 1), (1, 0, 1, 0, 0), (1, 0, 1, 0, 0), (5, 6, 2, 0, 2), (1, 0, 1, 0, 0), (5, 6, 8, 0, 8), (0, 0, 0, 0, 1), (4, 7, 0, 0, 0), (1, 1, 0, 0, 0), (1, 2, 0, 0, 0)] = some 32 := by decide +kernel
theorem bkSpa_lettersCome_35 : zBk mSpa_lettersCome 35 [(6, 6, 2, 0, 2)] = some 38 := by decide +kernel
theorem bdSpa_lettersCome_13 : decode mSpa_lettersCome.2.2.1 13 = .ok (.invokestatic 44, 3) := by decide +kernel
theorem bdSpa_lettersCome_32 : decode mSpa_lettersCome.2.2.1 32 = .ok (.invokestatic 44, 3) := by decide +kernel
theorem bdSpa_lettersCome_38 : decode mSpa_lettersCome.2.2.1 38 = .ok (.return_, 1) := by decide +kernel
theorem cSpa_lettersCome {sg : zSig} {a : Nat} {p m : Int32} (ha : zOb (zN sg) a 6)  : zG mSpa_lettersCome 411 (fun rr h' => rr = none ∧ h' = zN (hSpC sg a p m)) 0 [(0, .ref a), (1, .int p), (2, .int m)] [] (zN sg) := by
  refine zG_run bkSpa_lettersCome_0 (lv' := [(0, .ref a), (1, .int p), (2, .int m)]) (st' := [.int m, .int p, .int ((sg a 8) &&& 1), .int (sg a 1), .ref a]) (h' := zN sg) (Ps := [zOb (zN sg) a 6, zOb (zN sg) a 6]) rfl (zA ha (zA ha trivial)) ?_
  refine zG_calls (As := [.int (sg a 1), .int ((sg a 8) &&& 1), .int p, .int m]) (rest := [.ref a]) (N2 := 411) bdSpa_lettersCome_13 okPla_afterComing lk6_44 (And.intro (by decide) (by decide)) rfl rfl (Nat.le_of_ble_eq_true rfl) (Nat.le_of_ble_eq_true rfl) (Nat.le_refl 411) (Nat.le_refl 411) cPla_afterComing ?_
  rintro rr h' ⟨rfl, rfl⟩ -
  refine zG_run bkSpa_lettersCome_16 (lv' := [(0, .ref a), (1, .int p), (2, .int m)]) (st' := [.int m, .int p, .int (((zup sg a 1 (pOn (sg a 1) ((sg a 8) &&& 1) p m)) a 8) >>> (1 &&& 31)), .int ((zup sg a 1 (pOn (sg a 1) ((sg a 8) &&& 1) p m)) a 2), .ref a]) (h' := zN (zup sg a 1 (pOn (sg a 1) ((sg a 8) &&& 1) p m))) (Ps := [zOb (zN sg) a 6, zOb (zN (zup sg a 1 (pOn (sg a 1) ((sg a 8) &&& 1) p m))) a 6, zOb (zN (zup sg a 1 (pOn (sg a 1) ((sg a 8) &&& 1) p m))) a 6]) rfl (zA ha (zA ha (zA ha trivial))) ?_
  refine zG_calls (As := [.int ((zup sg a 1 (pOn (sg a 1) ((sg a 8) &&& 1) p m)) a 2), .int (((zup sg a 1 (pOn (sg a 1) ((sg a 8) &&& 1) p m)) a 8) >>> (1 &&& 31)), .int p, .int m]) (rest := [.ref a]) (N2 := 411) bdSpa_lettersCome_32 okPla_afterComing lk6_44 (And.intro (by decide) (by decide)) rfl rfl (Nat.le_of_ble_eq_true rfl) (Nat.le_of_ble_eq_true rfl) (Nat.le_refl 411) (Nat.le_refl 411) cPla_afterComing ?_
  rintro rr h' ⟨rfl, rfl⟩ -
  refine zb_vret bkSpa_lettersCome_35 bdSpa_lettersCome_38 rfl (h' := zN (zup (zup sg a 1 (pOn (sg a 1) ((sg a 8) &&& 1) p m)) a 2 (pOn ((zup sg a 1 (pOn (sg a 1) ((sg a 8) &&& 1) p m)) a 2) (((zup sg a 1 (pOn (sg a 1) ((sg a 8) &&& 1) p m)) a 8) >>> (1 &&& 31)) p m))) (Ps := [zOb (zN (zup sg a 1 (pOn (sg a 1) ((sg a 8) &&& 1) p m))) a 6]) rfl (zA ha trivial) rfl ?_
  exact ⟨rfl, by simp [hSpC, zup_e]⟩
theorem bkSpa_lettersGo_0 : zBk mSpa_lettersGo 0 [(1, 0, 1, 0, 0), (1, 0, 1, 0, 0), (5, 6, 1, 0, 1), (1, 1, 0, 0, 0), (1, 2, 0, 0, 0)] = some 7 := by decide +kernel
theorem bkSpa_lettersGo_10 : zBk mSpa_lettersGo 10 [(6, 6, 1, 0, 1), (1, 0, 1, 0, 0), (1, 0, 1, 0, 0), (5, 6, 2, 0, 2), (1, 1, 0, 0, 0), (1, 2, 0, 0, 0)] = some 20 := by decide +kernel
theorem bkSpa_lettersGo_23 : zBk mSpa_lettersGo 23 [(6, 6, 2, 0, 2), (1, 0, 1, 0, 0), (5, 6, 1, 0, 1), (1, 0, 1, 0, 0), (5, 6, 2, 0, 2)] = some 34 := by decide +kernel
theorem bkSpa_lettersGo_42 : zBk mSpa_lettersGo 42 [] = some 42 := by decide +kernel
theorem bkSpa_lettersGo_37 : zBk mSpa_lettersGo 37 [(1, 0, 1, 0, 0), (0, 0, 0, 0, 0), (6, 6, 0, 1, 0)] = some 42 := by decide +kernel
theorem bdSpa_lettersGo_7 : decode mSpa_lettersGo.2.2.1 7 = .ok (.invokestatic 50, 3) := by decide +kernel
theorem bdSpa_lettersGo_20 : decode mSpa_lettersGo.2.2.1 20 = .ok (.invokestatic 50, 3) := by decide +kernel
theorem bdSpa_lettersGo_34 : decode mSpa_lettersGo.2.2.1 34 = .ok (.if_icmp .lt 8, 3) := by decide +kernel
theorem bdSpa_lettersGo_42 : decode mSpa_lettersGo.2.2.1 42 = .ok (.return_, 1) := by decide +kernel
theorem cSpa_lettersGo {sg : zSig} {a : Nat} {p q : Int32} (ha : zOb (zN sg) a 6)  : zG mSpa_lettersGo 411 (fun rr h' => rr = none ∧ h' = zN (hSpG sg a p q)) 0 [(0, .ref a), (1, .int p), (2, .int q)] [] (zN sg) := by
  refine zG_run bkSpa_lettersGo_0 (lv' := [(0, .ref a), (1, .int p), (2, .int q)]) (st' := [.int q, .int p, .int (sg a 1), .ref a]) (h' := zN sg) (Ps := [zOb (zN sg) a 6]) rfl (zA ha trivial) ?_
  refine zG_calls (As := [.int (sg a 1), .int p, .int q]) (rest := [.ref a]) (N2 := 411) bdSpa_lettersGo_7 okPla_afterGoing lk6_50 (And.intro (by decide) (by decide)) rfl rfl (Nat.le_of_ble_eq_true rfl) (Nat.le_of_ble_eq_true rfl) (Nat.le_refl 411) (Nat.le_refl 411) cPla_afterGoing ?_
  rintro rr h' ⟨rfl, rfl⟩ -
  refine zG_run bkSpa_lettersGo_10 (lv' := [(0, .ref a), (1, .int p), (2, .int q)]) (st' := [.int q, .int p, .int ((zup sg a 1 (pBk (sg a 1) p q)) a 2), .ref a]) (h' := zN (zup sg a 1 (pBk (sg a 1) p q))) (Ps := [zOb (zN sg) a 6, zOb (zN (zup sg a 1 (pBk (sg a 1) p q))) a 6]) rfl (zA ha (zA ha trivial)) ?_
  refine zG_calls (As := [.int ((zup sg a 1 (pBk (sg a 1) p q)) a 2), .int p, .int q]) (rest := [.ref a]) (N2 := 411) bdSpa_lettersGo_20 okPla_afterGoing lk6_50 (And.intro (by decide) (by decide)) rfl rfl (Nat.le_of_ble_eq_true rfl) (Nat.le_of_ble_eq_true rfl) (Nat.le_refl 411) (Nat.le_refl 411) cPla_afterGoing ?_
  rintro rr h' ⟨rfl, rfl⟩ -
  refine zb_iclt (tgt := 42) bkSpa_lettersGo_23 bdSpa_lettersGo_34 (by decide) (lv' := [(0, .ref a), (1, .int p), (2, .int q)]) (st' := []) (h' := zN (zup (zup sg a 1 (pBk (sg a 1) p q)) a 2 (pBk ((zup sg a 1 (pBk (sg a 1) p q)) a 2) p q))) (x := (zup (zup sg a 1 (pBk (sg a 1) p q)) a 2 (pBk ((zup sg a 1 (pBk (sg a 1) p q)) a 2) p q)) a 1) (y := (zup (zup sg a 1 (pBk (sg a 1) p q)) a 2 (pBk ((zup sg a 1 (pBk (sg a 1) p q)) a 2) p q)) a 2) (Ps := [zOb (zN (zup sg a 1 (pBk (sg a 1) p q))) a 6, zOb (zN (zup (zup sg a 1 (pBk (sg a 1) p q)) a 2 (pBk ((zup sg a 1 (pBk (sg a 1) p q)) a 2) p q))) a 6, zOb (zN (zup (zup sg a 1 (pBk (sg a 1) p q)) a 2 (pBk ((zup sg a 1 (pBk (sg a 1) p q)) a 2) p q))) a 6]) rfl (zA ha (zA ha (zA ha trivial))) (fun c1 => ?_) (fun c1 => ?_)
  · skip
    refine zb_vret bkSpa_lettersGo_42 bdSpa_lettersGo_42 rfl (h' := zN (zup (zup sg a 1 (pBk (sg a 1) p q)) a 2 (pBk ((zup sg a 1 (pBk (sg a 1) p q)) a 2) p q))) (Ps := []) rfl trivial rfl ?_
    simp [zup_e] at c1; exact ⟨rfl, by unfold hSpG; split <;> first | (exfalso; grind) | simp [zup_e]⟩
  · skip
    refine zb_vret bkSpa_lettersGo_37 bdSpa_lettersGo_42 rfl (h' := zN (zup (zup (zup sg a 1 (pBk (sg a 1) p q)) a 2 (pBk ((zup sg a 1 (pBk (sg a 1) p q)) a 2) p q)) a 0 0)) (Ps := [zOb (zN (zup (zup sg a 1 (pBk (sg a 1) p q)) a 2 (pBk ((zup sg a 1 (pBk (sg a 1) p q)) a 2) p q))) a 6, 0 = 0 ∨ 0 = 1]) rfl (zA ha (zA (Or.inl rfl) trivial)) rfl ?_
    simp [zup_e] at c1; exact ⟨rfl, by unfold hSpG; split <;> first | (exfalso; grind) | simp [zup_e]⟩
theorem bkSpa_lettersMove_0 : zBk mSpa_lettersMove 0 [(1, 1, 0, 0, 0), (1, 0, 1, 0, 0), (5, 6, 1, 0, 1)] = some 5 := by decide +kernel
theorem bkSpa_lettersMove_50 : zBk mSpa_lettersMove 50 [(1, 0, 1, 0, 0), (1, 0, 1, 0, 0), (5, 6, 1, 0, 1), (1, 0, 1, 0, 0), (5, 6, 8, 0, 8), (0, 0, 0, 0, 1), (4, 3, 0, 0, 0), (1, 1, 0, 0, 0), (1, 2, 0, 0, 0), (1, 3, 0, 0, 0)] = some 64 := by decide +kernel
theorem bkSpa_lettersMove_67 : zBk mSpa_lettersMove 67 [(6, 6, 1, 0, 1), (1, 0, 1, 0, 0), (1, 0, 1, 0, 0), (5, 6, 2, 0, 2), (1, 0, 1, 0, 0), (5, 6, 8, 0, 8), (0, 0, 0, 0, 1), (4, 7, 0, 0, 0), (1, 1, 0, 0, 0), (1, 2, 0, 0, 0), (1, 3, 0, 0, 0)] = some 84 := by decide +kernel
theorem bkSpa_lettersMove_87 : zBk mSpa_lettersMove 87 [(6, 6, 2, 0, 2), (0, 0, 0, 0, 0)] = some 91 := by decide +kernel
theorem bkSpa_lettersMove_8 : zBk mSpa_lettersMove 8 [(1, 0, 1, 0, 0), (5, 6, 2, 0, 2), (1, 2, 0, 0, 0)] = some 13 := by decide +kernel
theorem bkSpa_lettersMove_16 : zBk mSpa_lettersMove 16 [(1, 1, 0, 0, 0), (1, 2, 0, 0, 0), (1, 3, 0, 0, 0)] = some 19 := by decide +kernel
theorem bkSpa_lettersMove_22 : zBk mSpa_lettersMove 22 [(1, 1, 0, 0, 0), (4, 1, 0, 0, 0), (2, 4, 0, 0, 0), (1, 0, 1, 0, 0), (18, 0, 0, 0, 0), (5, 6, 1, 0, 1), (1, 4, 0, 0, 0), (4, 0, 0, 0, 0), (6, 6, 1, 0, 1), (1, 0, 1, 0, 0), (18, 0, 0, 0, 0), (5, 6, 2, 0, 2), (1, 4, 0, 0, 0), (4, 0, 0, 0, 0), (6, 6, 2, 0, 2), (0, 0, 0, 0, 1)] = some 49 := by decide +kernel
theorem bdSpa_lettersMove_5 : decode mSpa_lettersMove.2.2.1 5 = .ok (.if_icmp .gt 45, 3) := by decide +kernel
theorem bdSpa_lettersMove_13 : decode mSpa_lettersMove.2.2.1 13 = .ok (.if_icmp .gt 37, 3) := by decide +kernel
theorem bdSpa_lettersMove_19 : decode mSpa_lettersMove.2.2.1 19 = .ok (.invokestatic 54, 3) := by decide +kernel
theorem bdSpa_lettersMove_49 : decode mSpa_lettersMove.2.2.1 49 = .ok (.ireturn, 1) := by decide +kernel
theorem bdSpa_lettersMove_64 : decode mSpa_lettersMove.2.2.1 64 = .ok (.invokestatic 57, 3) := by decide +kernel
theorem bdSpa_lettersMove_84 : decode mSpa_lettersMove.2.2.1 84 = .ok (.invokestatic 57, 3) := by decide +kernel
theorem bdSpa_lettersMove_91 : decode mSpa_lettersMove.2.2.1 91 = .ok (.ireturn, 1) := by decide +kernel
theorem cSpa_lettersMove {sg : zSig} {a : Nat} {p q r : Int32} (ha : zOb (zN sg) a 6)  : zG mSpa_lettersMove 411 (fun rr h' => rr = some (.int (if p ≤ sg a 1 ∧ sg a 2 ≤ q then 1 else 0)) ∧ h' = zN (hSpM sg a p q r)) 0 [(0, .ref a), (1, .int p), (2, .int q), (3, .int r)] [] (zN sg) := by
  refine zb_icgt (tgt := 50) bkSpa_lettersMove_0 bdSpa_lettersMove_5 (by decide) (lv' := [(0, .ref a), (1, .int p), (2, .int q), (3, .int r)]) (st' := []) (h' := zN sg) (x := p) (y := sg a 1) (Ps := [zOb (zN sg) a 6]) rfl (zA ha trivial) (fun c1 => ?_) (fun c1 => ?_)
  · skip
    refine zG_run bkSpa_lettersMove_50 (lv' := [(0, .ref a), (1, .int p), (2, .int q), (3, .int r)]) (st' := [.int r, .int q, .int p, .int ((sg a 8) &&& 1), .int (sg a 1), .ref a]) (h' := zN sg) (Ps := [zOb (zN sg) a 6, zOb (zN sg) a 6]) rfl (zA ha (zA ha trivial)) ?_
    refine zG_calls (As := [.int (sg a 1), .int ((sg a 8) &&& 1), .int p, .int q, .int r]) (rest := [.ref a]) (N2 := 411) bdSpa_lettersMove_64 okPla_leftByMove lk6_57 (And.intro (by decide) (by decide)) rfl rfl (Nat.le_of_ble_eq_true rfl) (Nat.le_of_ble_eq_true rfl) (Nat.le_refl 411) (Nat.le_refl 411) cPla_leftByMove ?_
    rintro rr h' ⟨rfl, rfl⟩ -
    refine zG_run bkSpa_lettersMove_67 (lv' := [(0, .ref a), (1, .int p), (2, .int q), (3, .int r)]) (st' := [.int r, .int q, .int p, .int (((zup sg a 1 (pLb (sg a 1) ((sg a 8) &&& 1) p q r)) a 8) >>> (1 &&& 31)), .int ((zup sg a 1 (pLb (sg a 1) ((sg a 8) &&& 1) p q r)) a 2), .ref a]) (h' := zN (zup sg a 1 (pLb (sg a 1) ((sg a 8) &&& 1) p q r))) (Ps := [zOb (zN sg) a 6, zOb (zN (zup sg a 1 (pLb (sg a 1) ((sg a 8) &&& 1) p q r))) a 6, zOb (zN (zup sg a 1 (pLb (sg a 1) ((sg a 8) &&& 1) p q r))) a 6]) rfl (zA ha (zA ha (zA ha trivial))) ?_
    refine zG_calls (As := [.int ((zup sg a 1 (pLb (sg a 1) ((sg a 8) &&& 1) p q r)) a 2), .int (((zup sg a 1 (pLb (sg a 1) ((sg a 8) &&& 1) p q r)) a 8) >>> (1 &&& 31)), .int p, .int q, .int r]) (rest := [.ref a]) (N2 := 411) bdSpa_lettersMove_84 okPla_leftByMove lk6_57 (And.intro (by decide) (by decide)) rfl rfl (Nat.le_of_ble_eq_true rfl) (Nat.le_of_ble_eq_true rfl) (Nat.le_refl 411) (Nat.le_refl 411) cPla_leftByMove ?_
    rintro rr h' ⟨rfl, rfl⟩ -
    refine zb_zret bkSpa_lettersMove_87 bdSpa_lettersMove_91 rfl (x := 0) (h' := zN (zup (zup sg a 1 (pLb (sg a 1) ((sg a 8) &&& 1) p q r)) a 2 (pLb ((zup sg a 1 (pLb (sg a 1) ((sg a 8) &&& 1) p q r)) a 2) (((zup sg a 1 (pLb (sg a 1) ((sg a 8) &&& 1) p q r)) a 8) >>> (1 &&& 31)) p q r))) (Ps := [zOb (zN (zup sg a 1 (pLb (sg a 1) ((sg a 8) &&& 1) p q r))) a 6]) rfl (zA ha trivial) rfl (Or.inl rfl) ?_
    exact ⟨by grind, by unfold hSpM; split <;> first | (exfalso; grind) | simp [zup_e]⟩
  · skip
    refine zb_icgt (tgt := 50) bkSpa_lettersMove_8 bdSpa_lettersMove_13 (by decide) (lv' := [(0, .ref a), (1, .int p), (2, .int q), (3, .int r)]) (st' := []) (h' := zN sg) (x := sg a 2) (y := q) (Ps := [zOb (zN sg) a 6]) rfl (zA ha trivial) (fun c2 => ?_) (fun c2 => ?_)
    · skip
      refine zG_run bkSpa_lettersMove_50 (lv' := [(0, .ref a), (1, .int p), (2, .int q), (3, .int r)]) (st' := [.int r, .int q, .int p, .int ((sg a 8) &&& 1), .int (sg a 1), .ref a]) (h' := zN sg) (Ps := [zOb (zN sg) a 6, zOb (zN sg) a 6]) rfl (zA ha (zA ha trivial)) ?_
      refine zG_calls (As := [.int (sg a 1), .int ((sg a 8) &&& 1), .int p, .int q, .int r]) (rest := [.ref a]) (N2 := 411) bdSpa_lettersMove_64 okPla_leftByMove lk6_57 (And.intro (by decide) (by decide)) rfl rfl (Nat.le_of_ble_eq_true rfl) (Nat.le_of_ble_eq_true rfl) (Nat.le_refl 411) (Nat.le_refl 411) cPla_leftByMove ?_
      rintro rr h' ⟨rfl, rfl⟩ -
      refine zG_run bkSpa_lettersMove_67 (lv' := [(0, .ref a), (1, .int p), (2, .int q), (3, .int r)]) (st' := [.int r, .int q, .int p, .int (((zup sg a 1 (pLb (sg a 1) ((sg a 8) &&& 1) p q r)) a 8) >>> (1 &&& 31)), .int ((zup sg a 1 (pLb (sg a 1) ((sg a 8) &&& 1) p q r)) a 2), .ref a]) (h' := zN (zup sg a 1 (pLb (sg a 1) ((sg a 8) &&& 1) p q r))) (Ps := [zOb (zN sg) a 6, zOb (zN (zup sg a 1 (pLb (sg a 1) ((sg a 8) &&& 1) p q r))) a 6, zOb (zN (zup sg a 1 (pLb (sg a 1) ((sg a 8) &&& 1) p q r))) a 6]) rfl (zA ha (zA ha (zA ha trivial))) ?_
      refine zG_calls (As := [.int ((zup sg a 1 (pLb (sg a 1) ((sg a 8) &&& 1) p q r)) a 2), .int (((zup sg a 1 (pLb (sg a 1) ((sg a 8) &&& 1) p q r)) a 8) >>> (1 &&& 31)), .int p, .int q, .int r]) (rest := [.ref a]) (N2 := 411) bdSpa_lettersMove_84 okPla_leftByMove lk6_57 (And.intro (by decide) (by decide)) rfl rfl (Nat.le_of_ble_eq_true rfl) (Nat.le_of_ble_eq_true rfl) (Nat.le_refl 411) (Nat.le_refl 411) cPla_leftByMove ?_
      rintro rr h' ⟨rfl, rfl⟩ -
      refine zb_zret bkSpa_lettersMove_87 bdSpa_lettersMove_91 rfl (x := 0) (h' := zN (zup (zup sg a 1 (pLb (sg a 1) ((sg a 8) &&& 1) p q r)) a 2 (pLb ((zup sg a 1 (pLb (sg a 1) ((sg a 8) &&& 1) p q r)) a 2) (((zup sg a 1 (pLb (sg a 1) ((sg a 8) &&& 1) p q r)) a 8) >>> (1 &&& 31)) p q r))) (Ps := [zOb (zN (zup sg a 1 (pLb (sg a 1) ((sg a 8) &&& 1) p q r))) a 6]) rfl (zA ha trivial) rfl (Or.inl rfl) ?_
      exact ⟨by grind, by unfold hSpM; split <;> first | (exfalso; grind) | simp [zup_e]⟩
    · skip
      refine zG_run bkSpa_lettersMove_16 (lv' := [(0, .ref a), (1, .int p), (2, .int q), (3, .int r)]) (st' := [.int r, .int q, .int p]) (h' := zN sg) (Ps := []) rfl trivial ?_
      refine zG_calls (As := [.int p, .int q, .int r]) (rest := []) (N2 := 411) bdSpa_lettersMove_19 okPla_landing lk6_54 (And.intro (by decide) (by decide)) rfl rfl (Nat.le_of_ble_eq_true rfl) (Nat.le_of_ble_eq_true rfl) (Nat.le_refl 411) (Nat.le_refl 411) cPla_landing ?_
      rintro rr h' ⟨rfl, rfl⟩ -
      refine zb_zret bkSpa_lettersMove_22 bdSpa_lettersMove_49 rfl (x := 1) (h' := zN (zup (zup sg a 1 ((sg a 1) + ((pLd p q r) - p))) a 2 (((zup sg a 1 ((sg a 1) + ((pLd p q r) - p))) a 2) + ((pLd p q r) - p)))) (Ps := [zOb (zN sg) a 6, zOb (zN sg) a 6, zOb (zN (zup sg a 1 ((sg a 1) + ((pLd p q r) - p)))) a 6, zOb (zN (zup sg a 1 ((sg a 1) + ((pLd p q r) - p)))) a 6]) rfl (zA ha (zA ha (zA ha (zA ha trivial)))) rfl (Or.inr rfl) ?_
      exact ⟨by grind, by unfold hSpM; split <;> first | (exfalso; grind) | simp [zup_e]⟩
theorem bkAnc_lettersGo_0 : zBk mAnc_lettersGo 0 [(1, 1, 0, 0, 0), (1, 0, 1, 0, 0), (5, 1, 1, 0, 1)] = some 5 := by decide +kernel
theorem bkAnc_lettersGo_26 : zBk mAnc_lettersGo 26 [(1, 0, 1, 0, 0), (1, 0, 1, 0, 0), (5, 1, 1, 0, 1), (1, 1, 0, 0, 0), (1, 2, 0, 0, 0)] = some 33 := by decide +kernel
theorem bkAnc_lettersGo_36 : zBk mAnc_lettersGo 36 [(6, 1, 1, 0, 1)] = some 39 := by decide +kernel
theorem bkAnc_lettersGo_8 : zBk mAnc_lettersGo 8 [(1, 0, 1, 0, 0), (5, 1, 1, 0, 1), (1, 2, 0, 0, 0)] = some 13 := by decide +kernel
theorem bkAnc_lettersGo_16 : zBk mAnc_lettersGo 16 [(1, 0, 1, 0, 0), (18, 0, 0, 0, 0), (5, 1, 3, 0, 3), (0, 0, 0, 0, 1), (4, 0, 0, 0, 0), (6, 1, 3, 0, 3), (1, 0, 1, 0, 0), (1, 0, 1, 0, 0), (5, 1, 1, 0, 1), (1, 1, 0, 0, 0), (1, 2, 0, 0, 0)] = some 33 := by decide +kernel
theorem bdAnc_lettersGo_5 : decode mAnc_lettersGo.2.2.1 5 = .ok (.if_icmp .ge 21, 3) := by decide +kernel
theorem bdAnc_lettersGo_13 : decode mAnc_lettersGo.2.2.1 13 = .ok (.if_icmp .ge 13, 3) := by decide +kernel
theorem bdAnc_lettersGo_33 : decode mAnc_lettersGo.2.2.1 33 = .ok (.invokestatic 23, 3) := by decide +kernel
theorem bdAnc_lettersGo_39 : decode mAnc_lettersGo.2.2.1 39 = .ok (.return_, 1) := by decide +kernel
theorem cAnc_lettersGo {sg : zSig} {a : Nat} {p q : Int32} (ha : zOb (zN sg) a 1)  : zG mAnc_lettersGo 411 (fun rr h' => rr = none ∧ h' = zN (hAnG sg a p q)) 0 [(0, .ref a), (1, .int p), (2, .int q)] [] (zN sg) := by
  refine zb_icge (tgt := 26) bkAnc_lettersGo_0 bdAnc_lettersGo_5 (by decide) (lv' := [(0, .ref a), (1, .int p), (2, .int q)]) (st' := []) (h' := zN sg) (x := p) (y := sg a 1) (Ps := [zOb (zN sg) a 1]) rfl (zA ha trivial) (fun c1 => ?_) (fun c1 => ?_)
  · skip
    refine zG_run bkAnc_lettersGo_26 (lv' := [(0, .ref a), (1, .int p), (2, .int q)]) (st' := [.int q, .int p, .int (sg a 1), .ref a]) (h' := zN sg) (Ps := [zOb (zN sg) a 1]) rfl (zA ha trivial) ?_
    refine zG_calls (As := [.int (sg a 1), .int p, .int q]) (rest := [.ref a]) (N2 := 411) bdAnc_lettersGo_33 okPla_afterGoing lk1_23 (And.intro (by decide) (by decide)) rfl rfl (Nat.le_of_ble_eq_true rfl) (Nat.le_of_ble_eq_true rfl) (Nat.le_refl 411) (Nat.le_refl 411) cPla_afterGoing ?_
    rintro rr h' ⟨rfl, rfl⟩ -
    refine zb_vret bkAnc_lettersGo_36 bdAnc_lettersGo_39 rfl (h' := zN (zup sg a 1 (pBk (sg a 1) p q))) (Ps := [zOb (zN sg) a 1]) rfl (zA ha trivial) rfl ?_
    exact ⟨rfl, by unfold hAnG; split <;> first | (exfalso; grind) | simp [zup_e]⟩
  · skip
    refine zb_icge (tgt := 26) bkAnc_lettersGo_8 bdAnc_lettersGo_13 (by decide) (lv' := [(0, .ref a), (1, .int p), (2, .int q)]) (st' := []) (h' := zN sg) (x := sg a 1) (y := q) (Ps := [zOb (zN sg) a 1]) rfl (zA ha trivial) (fun c2 => ?_) (fun c2 => ?_)
    · skip
      refine zG_run bkAnc_lettersGo_26 (lv' := [(0, .ref a), (1, .int p), (2, .int q)]) (st' := [.int q, .int p, .int (sg a 1), .ref a]) (h' := zN sg) (Ps := [zOb (zN sg) a 1]) rfl (zA ha trivial) ?_
      refine zG_calls (As := [.int (sg a 1), .int p, .int q]) (rest := [.ref a]) (N2 := 411) bdAnc_lettersGo_33 okPla_afterGoing lk1_23 (And.intro (by decide) (by decide)) rfl rfl (Nat.le_of_ble_eq_true rfl) (Nat.le_of_ble_eq_true rfl) (Nat.le_refl 411) (Nat.le_refl 411) cPla_afterGoing ?_
      rintro rr h' ⟨rfl, rfl⟩ -
      refine zb_vret bkAnc_lettersGo_36 bdAnc_lettersGo_39 rfl (h' := zN (zup sg a 1 (pBk (sg a 1) p q))) (Ps := [zOb (zN sg) a 1]) rfl (zA ha trivial) rfl ?_
      exact ⟨rfl, by unfold hAnG; split <;> first | (exfalso; grind) | simp [zup_e]⟩
    · skip
      refine zG_run bkAnc_lettersGo_16 (lv' := [(0, .ref a), (1, .int p), (2, .int q)]) (st' := [.int q, .int p, .int ((zup sg a 3 ((sg a 3) + 1)) a 1), .ref a]) (h' := zN (zup sg a 3 ((sg a 3) + 1))) (Ps := [zOb (zN sg) a 1, zOb (zN sg) a 1, zOb (zN (zup sg a 3 ((sg a 3) + 1))) a 1]) rfl (zA ha (zA ha (zA ha trivial))) ?_
      refine zG_calls (As := [.int ((zup sg a 3 ((sg a 3) + 1)) a 1), .int p, .int q]) (rest := [.ref a]) (N2 := 411) bdAnc_lettersGo_33 okPla_afterGoing lk1_23 (And.intro (by decide) (by decide)) rfl rfl (Nat.le_of_ble_eq_true rfl) (Nat.le_of_ble_eq_true rfl) (Nat.le_refl 411) (Nat.le_refl 411) cPla_afterGoing ?_
      rintro rr h' ⟨rfl, rfl⟩ -
      refine zb_vret bkAnc_lettersGo_36 bdAnc_lettersGo_39 rfl (h' := zN (zup (zup sg a 3 ((sg a 3) + 1)) a 1 (pBk ((zup sg a 3 ((sg a 3) + 1)) a 1) p q))) (Ps := [zOb (zN (zup sg a 3 ((sg a 3) + 1))) a 1]) rfl (zA ha trivial) rfl ?_
      exact ⟨rfl, by unfold hAnG; split <;> first | (exfalso; grind) | simp [zup_e]⟩
end
section
/-! leaves of the reference: printed by wip/whole/p13.py -/
theorem zl_le (x y : Int32) : x.toInt64 ≤ y.toInt64 ↔ x ≤ y := by
  rw [Int64.le_iff_toInt_le, Int32.le_iff_toInt_le, Int32.toInt_toInt64, Int32.toInt_toInt64]
theorem zl_lt (x y : Int32) : x.toInt64 ≤ y.toInt64 - (1 : Int32).toInt64 ↔ x < y := by
  rw [Int64.le_iff_toInt_le, Int32.lt_iff_toInt_lt, Int64.toInt_sub, Int32.toInt_toInt64, Int32.toInt_toInt64, Int32.toInt_toInt64]
  have h1 := Int32.toInt_lt y
  have h2 := Int32.le_toInt y
  have : (1 : Int32).toInt = 1 := by decide
  rw [this, Int.bmod_eq_of_le] <;> omega
theorem bkMo_in_0 : zBk mMo_in 0 [(1, 0, 2, 0, 0), (1, 2, 2, 0, 0), (17, 0, 0, 0, 0)] = some 3 := by decide +kernel
theorem bkMo_in_17 : zBk mMo_in 17 [(0, 0, 0, 0, 0)] = some 18 := by decide +kernel
theorem bkMo_in_6 : zBk mMo_in 6 [(1, 0, 2, 0, 0), (1, 4, 2, 0, 0), (17, 0, 0, 0, 0)] = some 10 := by decide +kernel
theorem bkMo_in_13 : zBk mMo_in 13 [(0, 0, 0, 0, 1), (22, 18, 0, 0, 0)] = some 18 := by decide +kernel
theorem bdMo_in_3 : decode mMo_in.2.2.1 3 = .ok (.ifCond .lt 14, 3) := by decide +kernel
theorem bdMo_in_10 : decode mMo_in.2.2.1 10 = .ok (.ifCond .gt 7, 3) := by decide +kernel
theorem bdMo_in_18 : decode mMo_in.2.2.1 18 = .ok (.ireturn, 1) := by decide +kernel
theorem cMo_in {sg : zSig} {v lo hi : Int64}  : zG mMo_in 411 (fun rr h' => rr = some (.int (if lo ≤ v ∧ v ≤ hi then 1 else 0)) ∧ h' = zN sg) 0 [(0, .long v), (2, .long lo), (4, .long hi)] [] (zN sg) := by
  refine zb_iflt (tgt := 17) bkMo_in_0 bdMo_in_3 (by decide) (lv' := [(0, .long v), (2, .long lo), (4, .long hi)]) (st' := []) (h' := zN sg) (x := lg_cmp v lo) (Ps := []) rfl trivial (fun c1 => ?_) (fun c1 => ?_)
  · skip
    refine zb_zret bkMo_in_17 bdMo_in_18 rfl (x := 0) (h' := zN sg) (Ps := []) rfl trivial rfl (Or.inl rfl) ?_
    exact ⟨by grind [lg_cmp_ge, lg_cmp_le], rfl⟩
  · skip
    refine zb_ifgt (tgt := 17) bkMo_in_6 bdMo_in_10 (by decide) (lv' := [(0, .long v), (2, .long lo), (4, .long hi)]) (st' := []) (h' := zN sg) (x := lg_cmp v hi) (Ps := []) rfl trivial (fun c2 => ?_) (fun c2 => ?_)
    · skip
      refine zb_zret bkMo_in_17 bdMo_in_18 rfl (x := 0) (h' := zN sg) (Ps := []) rfl trivial rfl (Or.inl rfl) ?_
      exact ⟨by grind [lg_cmp_ge, lg_cmp_le], rfl⟩
    · skip
      refine zb_zret bkMo_in_13 bdMo_in_18 rfl (x := 1) (h' := zN sg) (Ps := []) rfl trivial rfl (Or.inr rfl) ?_
      exact ⟨by grind [lg_cmp_ge, lg_cmp_le], rfl⟩
theorem cMo_inA {sg : zSig} {v lo hi : Int32} : zG mMo_in 411 (fun rr h' => rr = some (.int (if lo ≤ v ∧ v ≤ hi then 1 else 0)) ∧ h' = zN sg) 0 [(0, .long v.toInt64), (2, .long lo.toInt64), (4, .long hi.toInt64)] [] (zN sg) :=
  zG_mono (fun rr h' q => by simp only [zl_le] at q; exact q) (cMo_in (v := v.toInt64) (lo := lo.toInt64) (hi := hi.toInt64))
theorem cMo_inB {sg : zSig} {v lo hi : Int32} : zG mMo_in 411 (fun rr h' => rr = some (.int (if lo ≤ v ∧ v < hi then 1 else 0)) ∧ h' = zN sg) 0 [(0, .long v.toInt64), (2, .long lo.toInt64), (4, .long (hi.toInt64 - (1 : Int32).toInt64))] [] (zN sg) :=
  zG_mono (fun rr h' q => by simp only [zl_le, zl_lt] at q; exact q) (cMo_in (v := v.toInt64) (lo := lo.toInt64) (hi := hi.toInt64 - (1 : Int32).toInt64))
theorem bkMo_letterAt_0 : zBk mMo_letterAt 0 [(0, 0, 0, 0, 3), (0, 0, 0, 0, 4), (1, 0, 0, 0, 0), (4, 2, 0, 0, 0), (4, 0, 0, 0, 0)] = some 5 := by decide +kernel
theorem bdMo_letterAt_5 : decode mMo_letterAt.2.2.1 5 = .ok (.ireturn, 1) := by decide +kernel
theorem cMo_letterAt {sg : zSig} {i : Int32}  : zG mMo_letterAt 411 (fun rr h' => rr = some (.int (3 + 4 * i)) ∧ h' = zN sg) 0 [(0, .int i)] [] (zN sg) := by
  refine zb_iret bkMo_letterAt_0 bdMo_letterAt_5 rfl (x := 3 + (4 * i)) (h' := zN sg) (Ps := []) rfl trivial rfl ?_
  exact ⟨by grind, rfl⟩
theorem bkMo_spanAt_0 : zBk mMo_spanAt 0 [(0, 0, 0, 0, 803), (0, 0, 0, 0, 9), (1, 0, 0, 0, 0), (4, 2, 0, 0, 0), (4, 0, 0, 0, 0)] = some 8 := by decide +kernel
theorem bdMo_spanAt_8 : decode mMo_spanAt.2.2.1 8 = .ok (.ireturn, 1) := by decide +kernel
theorem cMo_spanAt {sg : zSig} {i : Int32}  : zG mMo_spanAt 411 (fun rr h' => rr = some (.int (803 + 9 * i)) ∧ h' = zN sg) 0 [(0, .int i)] [] (zN sg) := by
  refine zb_iret bkMo_spanAt_0 bdMo_spanAt_8 rfl (x := 803 + (9 * i)) (h' := zN sg) (Ps := []) rfl trivial rfl ?_
  exact ⟨by grind, rfl⟩
theorem bkMo_anchorAt_0 : zBk mMo_anchorAt 0 [(0, 0, 0, 0, 947), (0, 0, 0, 0, 4), (1, 0, 0, 0, 0), (4, 2, 0, 0, 0), (4, 0, 0, 0, 0)] = some 7 := by decide +kernel
theorem bdMo_anchorAt_7 : decode mMo_anchorAt.2.2.1 7 = .ok (.ireturn, 1) := by decide +kernel
theorem cMo_anchorAt {sg : zSig} {i : Int32}  : zG mMo_anchorAt 411 (fun rr h' => rr = some (.int (947 + 4 * i)) ∧ h' = zN sg) 0 [(0, .int i)] [] (zN sg) := by
  refine zb_iret bkMo_anchorAt_0 bdMo_anchorAt_7 rfl (x := 947 + (4 * i)) (h' := zN sg) (Ps := []) rfl trivial rfl ?_
  exact ⟨by grind, rfl⟩
theorem bkMo_isLetter_0 : zBk mMo_isLetter 0 [(1, 1, 0, 0, 0), (14, 0, 0, 0, 0), (15, 0, 0, 0, 0), (1, 0, 1, 0, 0), (5, 10, 3, 2, 3), (0, 0, 0, 0, 0), (7, 0, 0, 0, 0), (14, 0, 0, 0, 0), (15, 0, 0, 0, 1), (16, 0, 0, 0, 0)] = some 12 := by decide +kernel
theorem bkMo_isLetter_15 : zBk mMo_isLetter 15 [] = some 15 := by decide +kernel
theorem bdMo_isLetter_12 : decode mMo_isLetter.2.2.1 12 = .ok (.invokestatic 87, 3) := by decide +kernel
theorem bdMo_isLetter_15 : decode mMo_isLetter.2.2.1 15 = .ok (.ireturn, 1) := by decide +kernel
theorem cMo_isLetter {sg : zSig} {i : Int32}  : zG mMo_isLetter 411 (fun rr h' => rr = some (.int (if 0 ≤ i ∧ i < sg 395 0 then 1 else 0)) ∧ h' = zN sg) 0 [(0, .ref 393), (1, .int i)] [] (zN sg) := by
  refine zG_run bkMo_isLetter_0 (lv' := [(0, .ref 393), (1, .int i)]) (st' := [.long (((sg 395 0).toInt64) - ((1 : Int32).toInt64)), .long ((0 : Int32).toInt64), .long i.toInt64]) (h' := zN sg) (Ps := [zOb (zN sg) 393 10 ∧ (zN sg).2.2 393 3 = true, zInL (zN sg) 395 0]) rfl (zA ⟨zob_393, rfl⟩ (zA (zinL_395 (i := 0) (by decide) (by decide)) trivial)) ?_
  refine zG_calls (As := [.long i.toInt64, .long ((0 : Int32).toInt64), .long (((sg 395 0).toInt64) - ((1 : Int32).toInt64))]) (rest := []) (N2 := 411) bdMo_isLetter_12 okMo_in lk10_87 (And.intro (by decide) (by decide)) rfl rfl (Nat.le_of_ble_eq_true rfl) (Nat.le_of_ble_eq_true rfl) (Nat.le_refl 411) (Nat.le_refl 411) cMo_inB ?_
  rintro rr h' ⟨rfl, rfl⟩ -
  refine zb_zret bkMo_isLetter_15 bdMo_isLetter_15 rfl (x := if 0 ≤ i ∧ i < (sg 395 0) then 1 else 0) (h' := zN sg) (Ps := []) rfl trivial rfl (by grind) ?_
  exact ⟨by grind, rfl⟩
theorem bkMo_isPlace_0 : zBk mMo_isPlace 0 [(1, 1, 0, 0, 0), (14, 0, 0, 0, 0), (15, 0, 0, 0, 0), (1, 0, 1, 0, 0), (5, 10, 3, 2, 3), (0, 0, 0, 0, 0), (7, 0, 0, 0, 0), (14, 0, 0, 0, 0)] = some 10 := by decide +kernel
theorem bkMo_isPlace_13 : zBk mMo_isPlace 13 [] = some 13 := by decide +kernel
theorem bdMo_isPlace_10 : decode mMo_isPlace.2.2.1 10 = .ok (.invokestatic 87, 3) := by decide +kernel
theorem bdMo_isPlace_13 : decode mMo_isPlace.2.2.1 13 = .ok (.ireturn, 1) := by decide +kernel
theorem cMo_isPlace {sg : zSig} {i : Int32}  : zG mMo_isPlace 411 (fun rr h' => rr = some (.int (if 0 ≤ i ∧ i ≤ sg 395 0 then 1 else 0)) ∧ h' = zN sg) 0 [(0, .ref 393), (1, .int i)] [] (zN sg) := by
  refine zG_run bkMo_isPlace_0 (lv' := [(0, .ref 393), (1, .int i)]) (st' := [.long ((sg 395 0).toInt64), .long ((0 : Int32).toInt64), .long i.toInt64]) (h' := zN sg) (Ps := [zOb (zN sg) 393 10 ∧ (zN sg).2.2 393 3 = true, zInL (zN sg) 395 0]) rfl (zA ⟨zob_393, rfl⟩ (zA (zinL_395 (i := 0) (by decide) (by decide)) trivial)) ?_
  refine zG_calls (As := [.long i.toInt64, .long ((0 : Int32).toInt64), .long ((sg 395 0).toInt64)]) (rest := []) (N2 := 411) bdMo_isPlace_10 okMo_in lk10_87 (And.intro (by decide) (by decide)) rfl rfl (Nat.le_of_ble_eq_true rfl) (Nat.le_of_ble_eq_true rfl) (Nat.le_refl 411) (Nat.le_refl 411) cMo_inA ?_
  rintro rr h' ⟨rfl, rfl⟩ -
  refine zb_zret bkMo_isPlace_13 bdMo_isPlace_13 rfl (x := if 0 ≤ i ∧ i ≤ (sg 395 0) then 1 else 0) (h' := zN sg) (Ps := []) rfl trivial rfl (by grind) ?_
  exact ⟨by grind, rfl⟩
theorem bkMo_isRange_0 : zBk mMo_isRange 0 [(1, 0, 1, 0, 0), (1, 1, 0, 0, 0)] = some 2 := by decide +kernel
theorem bkMo_isRange_5 : zBk mMo_isRange 5 [] = some 5 := by decide +kernel
theorem bkMo_isRange_25 : zBk mMo_isRange 25 [(0, 0, 0, 0, 0)] = some 26 := by decide +kernel
theorem bkMo_isRange_8 : zBk mMo_isRange 8 [(1, 0, 1, 0, 0), (1, 2, 0, 0, 0)] = some 10 := by decide +kernel
theorem bkMo_isRange_13 : zBk mMo_isRange 13 [] = some 13 := by decide +kernel
theorem bkMo_isRange_16 : zBk mMo_isRange 16 [(1, 1, 0, 0, 0), (1, 2, 0, 0, 0)] = some 18 := by decide +kernel
theorem bkMo_isRange_21 : zBk mMo_isRange 21 [(0, 0, 0, 0, 1), (22, 26, 0, 0, 0)] = some 26 := by decide +kernel
theorem bdMo_isRange_2 : decode mMo_isRange.2.2.1 2 = .ok (.invokevirtual 97, 3) := by decide +kernel
theorem bdMo_isRange_5 : decode mMo_isRange.2.2.1 5 = .ok (.ifCond .eq 20, 3) := by decide +kernel
theorem bdMo_isRange_10 : decode mMo_isRange.2.2.1 10 = .ok (.invokevirtual 97, 3) := by decide +kernel
theorem bdMo_isRange_13 : decode mMo_isRange.2.2.1 13 = .ok (.ifCond .eq 12, 3) := by decide +kernel
theorem bdMo_isRange_18 : decode mMo_isRange.2.2.1 18 = .ok (.if_icmp .ge 7, 3) := by decide +kernel
theorem bdMo_isRange_26 : decode mMo_isRange.2.2.1 26 = .ok (.ireturn, 1) := by decide +kernel
theorem cMo_isRange {sg : zSig} {f t : Int32}  : zG mMo_isRange 411 (fun rr h' => rr = some (.int (if 0 ≤ f ∧ f < t ∧ t ≤ sg 395 0 then 1 else 0)) ∧ h' = zN sg) 0 [(0, .ref 393), (1, .int f), (2, .int t)] [] (zN sg) := by
  refine zG_run bkMo_isRange_0 (lv' := [(0, .ref 393), (1, .int f), (2, .int t)]) (st' := [.int f, .ref 393]) (h' := zN sg) (Ps := []) rfl trivial ?_
  refine zG_callv (a := 393) (c := 10) (As := [.int f]) (rest := []) (N2 := 411) bdMo_isRange_2 okMo_isPlace lk10_97 (And.intro (by decide) (by decide)) (by decide) rfl rfl rfl (Nat.le_of_ble_eq_true rfl) (Nat.le_of_ble_eq_true rfl) (Nat.le_refl 411) (Nat.le_refl 411) zob_393 cMo_isPlace ?_
  rintro rr h' ⟨rfl, rfl⟩ -
  refine zb_ifeq (tgt := 25) bkMo_isRange_5 bdMo_isRange_5 (by decide) (lv' := [(0, .ref 393), (1, .int f), (2, .int t)]) (st' := []) (h' := zN sg) (x := if 0 ≤ f ∧ f ≤ sg 395 0 then 1 else 0) (Ps := []) rfl trivial (fun c1 => ?_) (fun c1 => ?_)
  · skip
    refine zb_zret bkMo_isRange_25 bdMo_isRange_26 rfl (x := 0) (h' := zN sg) (Ps := []) rfl trivial rfl (Or.inl rfl) ?_
    exact ⟨by grind, rfl⟩
  · skip
    refine zG_run bkMo_isRange_8 (lv' := [(0, .ref 393), (1, .int f), (2, .int t)]) (st' := [.int t, .ref 393]) (h' := zN sg) (Ps := []) rfl trivial ?_
    refine zG_callv (a := 393) (c := 10) (As := [.int t]) (rest := []) (N2 := 411) bdMo_isRange_10 okMo_isPlace lk10_97 (And.intro (by decide) (by decide)) (by decide) rfl rfl rfl (Nat.le_of_ble_eq_true rfl) (Nat.le_of_ble_eq_true rfl) (Nat.le_refl 411) (Nat.le_refl 411) zob_393 cMo_isPlace ?_
    rintro rr h' ⟨rfl, rfl⟩ -
    refine zb_ifeq (tgt := 25) bkMo_isRange_13 bdMo_isRange_13 (by decide) (lv' := [(0, .ref 393), (1, .int f), (2, .int t)]) (st' := []) (h' := zN sg) (x := if 0 ≤ t ∧ t ≤ sg 395 0 then 1 else 0) (Ps := []) rfl trivial (fun c2 => ?_) (fun c2 => ?_)
    · skip
      refine zb_zret bkMo_isRange_25 bdMo_isRange_26 rfl (x := 0) (h' := zN sg) (Ps := []) rfl trivial rfl (Or.inl rfl) ?_
      exact ⟨by grind, rfl⟩
    · skip
      refine zb_icge (tgt := 25) bkMo_isRange_16 bdMo_isRange_18 (by decide) (lv' := [(0, .ref 393), (1, .int f), (2, .int t)]) (st' := []) (h' := zN sg) (x := f) (y := t) (Ps := []) rfl trivial (fun c3 => ?_) (fun c3 => ?_)
      · skip
        refine zb_zret bkMo_isRange_25 bdMo_isRange_26 rfl (x := 0) (h' := zN sg) (Ps := []) rfl trivial rfl (Or.inl rfl) ?_
        exact ⟨by grind, rfl⟩
      · skip
        refine zb_zret bkMo_isRange_21 bdMo_isRange_26 rfl (x := 1) (h' := zN sg) (Ps := []) rfl trivial rfl (Or.inr rfl) ?_
        exact ⟨by grind, rfl⟩
theorem bkMo_isSpan_0 : zBk mMo_isSpan 0 [(1, 1, 0, 0, 0), (14, 0, 0, 0, 0), (15, 0, 0, 0, 0), (1, 0, 1, 0, 0), (5, 10, 3, 2, 3), (0, 0, 0, 0, 1), (7, 0, 0, 0, 0), (14, 0, 0, 0, 0), (15, 0, 0, 0, 1), (16, 0, 0, 0, 0)] = some 12 := by decide +kernel
theorem bkMo_isSpan_15 : zBk mMo_isSpan 15 [] = some 15 := by decide +kernel
theorem bkMo_isSpan_35 : zBk mMo_isSpan 35 [(0, 0, 0, 0, 0)] = some 36 := by decide +kernel
theorem bkMo_isSpan_18 : zBk mMo_isSpan 18 [(1, 0, 1, 0, 0), (5, 10, 3, 2, 3), (1, 1, 0, 0, 0)] = some 23 := by decide +kernel
theorem bkMo_isSpan_26 : zBk mMo_isSpan 26 [(7, 0, 0, 0, 0), (0, 0, 0, 0, 1)] = some 28 := by decide +kernel
theorem bkMo_isSpan_31 : zBk mMo_isSpan 31 [(0, 0, 0, 0, 1), (22, 36, 0, 0, 0)] = some 36 := by decide +kernel
theorem bdMo_isSpan_12 : decode mMo_isSpan.2.2.1 12 = .ok (.invokestatic 87, 3) := by decide +kernel
theorem bdMo_isSpan_15 : decode mMo_isSpan.2.2.1 15 = .ok (.ifCond .eq 20, 3) := by decide +kernel
theorem bdMo_isSpan_23 : decode mMo_isSpan.2.2.1 23 = .ok (.invokestatic 91, 3) := by decide +kernel
theorem bdMo_isSpan_28 : decode mMo_isSpan.2.2.1 28 = .ok (.if_icmp .ne 7, 3) := by decide +kernel
theorem bdMo_isSpan_36 : decode mMo_isSpan.2.2.1 36 = .ok (.ireturn, 1) := by decide +kernel
theorem cMo_isSpan {sg : zSig} {i : Int32} (hn : sg 395 1 ≤ 16) : zG mMo_isSpan 411 (fun rr h' => rr = some (.int (if (0 ≤ i ∧ i < sg 395 1) ∧ sg 395 (803 + 9 * i) = 1 then 1 else 0)) ∧ h' = zN sg) 0 [(0, .ref 393), (1, .int i)] [] (zN sg) := by
  refine zG_run bkMo_isSpan_0 (lv' := [(0, .ref 393), (1, .int i)]) (st' := [.long (((sg 395 1).toInt64) - ((1 : Int32).toInt64)), .long ((0 : Int32).toInt64), .long i.toInt64]) (h' := zN sg) (Ps := [zOb (zN sg) 393 10 ∧ (zN sg).2.2 393 3 = true, zInL (zN sg) 395 1]) rfl (zA ⟨zob_393, rfl⟩ (zA (zinL_395 (i := 1) (by decide) (by decide)) trivial)) ?_
  refine zG_calls (As := [.long i.toInt64, .long ((0 : Int32).toInt64), .long (((sg 395 1).toInt64) - ((1 : Int32).toInt64))]) (rest := []) (N2 := 411) bdMo_isSpan_12 okMo_in lk10_87 (And.intro (by decide) (by decide)) rfl rfl (Nat.le_of_ble_eq_true rfl) (Nat.le_of_ble_eq_true rfl) (Nat.le_refl 411) (Nat.le_refl 411) cMo_inB ?_
  rintro rr h' ⟨rfl, rfl⟩ -
  refine zb_ifeq (tgt := 35) bkMo_isSpan_15 bdMo_isSpan_15 (by decide) (lv' := [(0, .ref 393), (1, .int i)]) (st' := []) (h' := zN sg) (x := if 0 ≤ i ∧ i < (sg 395 1) then 1 else 0) (Ps := []) rfl trivial (fun c1 => ?_) (fun c1 => ?_)
  · skip
    refine zb_zret bkMo_isSpan_35 bdMo_isSpan_36 rfl (x := 0) (h' := zN sg) (Ps := []) rfl trivial rfl (Or.inl rfl) ?_
    exact ⟨by grind, rfl⟩
  · skip
    refine zG_run bkMo_isSpan_18 (lv' := [(0, .ref 393), (1, .int i)]) (st' := [.int i, .ref 395]) (h' := zN sg) (Ps := [zOb (zN sg) 393 10 ∧ (zN sg).2.2 393 3 = true]) rfl (zA ⟨zob_393, rfl⟩ trivial) ?_
    refine zG_calls (As := [.int i]) (rest := [.ref 395]) (N2 := 411) bdMo_isSpan_23 okMo_spanAt lk10_91 (And.intro (by decide) (by decide)) rfl rfl (Nat.le_of_ble_eq_true rfl) (Nat.le_of_ble_eq_true rfl) (Nat.le_refl 411) (Nat.le_refl 411) cMo_spanAt ?_
    rintro rr h' ⟨rfl, rfl⟩ -
    refine zb_icne (tgt := 35) bkMo_isSpan_26 bdMo_isSpan_28 (by decide) (lv' := [(0, .ref 393), (1, .int i)]) (st' := []) (h' := zN sg) (x := sg 395 (803 + 9 * i)) (y := 1) (Ps := [zInL (zN sg) 395 (803 + 9 * i)]) rfl (zA (zinL_395 (i := 803 + 9 * i) (by grind) (by grind)) trivial) (fun c2 => ?_) (fun c2 => ?_)
    · skip
      refine zb_zret bkMo_isSpan_35 bdMo_isSpan_36 rfl (x := 0) (h' := zN sg) (Ps := []) rfl trivial rfl (Or.inl rfl) ?_
      exact ⟨by grind, rfl⟩
    · skip
      refine zb_zret bkMo_isSpan_31 bdMo_isSpan_36 rfl (x := 1) (h' := zN sg) (Ps := []) rfl trivial rfl (Or.inr rfl) ?_
      exact ⟨by grind, rfl⟩
theorem bkMo_isAnchor_0 : zBk mMo_isAnchor 0 [(1, 1, 0, 0, 0), (14, 0, 0, 0, 0), (15, 0, 0, 0, 0), (1, 0, 1, 0, 0), (5, 10, 3, 2, 3), (0, 0, 0, 0, 2), (7, 0, 0, 0, 0), (14, 0, 0, 0, 0), (15, 0, 0, 0, 1), (16, 0, 0, 0, 0)] = some 12 := by decide +kernel
theorem bkMo_isAnchor_15 : zBk mMo_isAnchor 15 [] = some 15 := by decide +kernel
theorem bkMo_isAnchor_35 : zBk mMo_isAnchor 35 [(0, 0, 0, 0, 0)] = some 36 := by decide +kernel
theorem bkMo_isAnchor_18 : zBk mMo_isAnchor 18 [(1, 0, 1, 0, 0), (5, 10, 3, 2, 3), (1, 1, 0, 0, 0)] = some 23 := by decide +kernel
theorem bkMo_isAnchor_26 : zBk mMo_isAnchor 26 [(7, 0, 0, 0, 0), (0, 0, 0, 0, 1)] = some 28 := by decide +kernel
theorem bkMo_isAnchor_31 : zBk mMo_isAnchor 31 [(0, 0, 0, 0, 1), (22, 36, 0, 0, 0)] = some 36 := by decide +kernel
theorem bdMo_isAnchor_12 : decode mMo_isAnchor.2.2.1 12 = .ok (.invokestatic 87, 3) := by decide +kernel
theorem bdMo_isAnchor_15 : decode mMo_isAnchor.2.2.1 15 = .ok (.ifCond .eq 20, 3) := by decide +kernel
theorem bdMo_isAnchor_23 : decode mMo_isAnchor.2.2.1 23 = .ok (.invokestatic 94, 3) := by decide +kernel
theorem bdMo_isAnchor_28 : decode mMo_isAnchor.2.2.1 28 = .ok (.if_icmp .ne 7, 3) := by decide +kernel
theorem bdMo_isAnchor_36 : decode mMo_isAnchor.2.2.1 36 = .ok (.ireturn, 1) := by decide +kernel
theorem cMo_isAnchor {sg : zSig} {i : Int32} (hn : sg 395 2 ≤ 12) : zG mMo_isAnchor 411 (fun rr h' => rr = some (.int (if (0 ≤ i ∧ i < sg 395 2) ∧ sg 395 (947 + 4 * i) = 1 then 1 else 0)) ∧ h' = zN sg) 0 [(0, .ref 393), (1, .int i)] [] (zN sg) := by
  refine zG_run bkMo_isAnchor_0 (lv' := [(0, .ref 393), (1, .int i)]) (st' := [.long (((sg 395 2).toInt64) - ((1 : Int32).toInt64)), .long ((0 : Int32).toInt64), .long i.toInt64]) (h' := zN sg) (Ps := [zOb (zN sg) 393 10 ∧ (zN sg).2.2 393 3 = true, zInL (zN sg) 395 2]) rfl (zA ⟨zob_393, rfl⟩ (zA (zinL_395 (i := 2) (by decide) (by decide)) trivial)) ?_
  refine zG_calls (As := [.long i.toInt64, .long ((0 : Int32).toInt64), .long (((sg 395 2).toInt64) - ((1 : Int32).toInt64))]) (rest := []) (N2 := 411) bdMo_isAnchor_12 okMo_in lk10_87 (And.intro (by decide) (by decide)) rfl rfl (Nat.le_of_ble_eq_true rfl) (Nat.le_of_ble_eq_true rfl) (Nat.le_refl 411) (Nat.le_refl 411) cMo_inB ?_
  rintro rr h' ⟨rfl, rfl⟩ -
  refine zb_ifeq (tgt := 35) bkMo_isAnchor_15 bdMo_isAnchor_15 (by decide) (lv' := [(0, .ref 393), (1, .int i)]) (st' := []) (h' := zN sg) (x := if 0 ≤ i ∧ i < (sg 395 2) then 1 else 0) (Ps := []) rfl trivial (fun c1 => ?_) (fun c1 => ?_)
  · skip
    refine zb_zret bkMo_isAnchor_35 bdMo_isAnchor_36 rfl (x := 0) (h' := zN sg) (Ps := []) rfl trivial rfl (Or.inl rfl) ?_
    exact ⟨by grind, rfl⟩
  · skip
    refine zG_run bkMo_isAnchor_18 (lv' := [(0, .ref 393), (1, .int i)]) (st' := [.int i, .ref 395]) (h' := zN sg) (Ps := [zOb (zN sg) 393 10 ∧ (zN sg).2.2 393 3 = true]) rfl (zA ⟨zob_393, rfl⟩ trivial) ?_
    refine zG_calls (As := [.int i]) (rest := [.ref 395]) (N2 := 411) bdMo_isAnchor_23 okMo_anchorAt lk10_94 (And.intro (by decide) (by decide)) rfl rfl (Nat.le_of_ble_eq_true rfl) (Nat.le_of_ble_eq_true rfl) (Nat.le_refl 411) (Nat.le_refl 411) cMo_anchorAt ?_
    rintro rr h' ⟨rfl, rfl⟩ -
    refine zb_icne (tgt := 35) bkMo_isAnchor_26 bdMo_isAnchor_28 (by decide) (lv' := [(0, .ref 393), (1, .int i)]) (st' := []) (h' := zN sg) (x := sg 395 (947 + 4 * i)) (y := 1) (Ps := [zInL (zN sg) 395 (947 + 4 * i)]) rfl (zA (zinL_395 (i := 947 + 4 * i) (by grind) (by grind)) trivial) (fun c2 => ?_) (fun c2 => ?_)
    · skip
      refine zb_zret bkMo_isAnchor_35 bdMo_isAnchor_36 rfl (x := 0) (h' := zN sg) (Ps := []) rfl trivial rfl (Or.inl rfl) ?_
      exact ⟨by grind, rfl⟩
    · skip
      refine zb_zret bkMo_isAnchor_31 bdMo_isAnchor_36 rfl (x := 1) (h' := zN sg) (Ps := []) rfl trivial rfl (Or.inr rfl) ?_
      exact ⟨by grind, rfl⟩
theorem bkMo_isByte_0 : zBk mMo_isByte 0 [(1, 0, 0, 0, 0), (14, 0, 0, 0, 0), (15, 0, 0, 0, 32), (15, 0, 0, 0, 126)] = some 8 := by decide +kernel
theorem bkMo_isByte_11 : zBk mMo_isByte 11 [] = some 11 := by decide +kernel
theorem bkMo_isByte_30 : zBk mMo_isByte 30 [(0, 0, 0, 0, 0)] = some 31 := by decide +kernel
theorem bkMo_isByte_14 : zBk mMo_isByte 14 [(1, 0, 0, 0, 0), (0, 0, 0, 0, 91)] = some 17 := by decide +kernel
theorem bkMo_isByte_20 : zBk mMo_isByte 20 [(1, 0, 0, 0, 0), (0, 0, 0, 0, 93)] = some 23 := by decide +kernel
theorem bkMo_isByte_26 : zBk mMo_isByte 26 [(0, 0, 0, 0, 1), (22, 31, 0, 0, 0)] = some 31 := by decide +kernel
theorem bdMo_isByte_8 : decode mMo_isByte.2.2.1 8 = .ok (.invokestatic 87, 3) := by decide +kernel
theorem bdMo_isByte_11 : decode mMo_isByte.2.2.1 11 = .ok (.ifCond .eq 19, 3) := by decide +kernel
theorem bdMo_isByte_17 : decode mMo_isByte.2.2.1 17 = .ok (.if_icmp .eq 13, 3) := by decide +kernel
theorem bdMo_isByte_23 : decode mMo_isByte.2.2.1 23 = .ok (.if_icmp .eq 7, 3) := by decide +kernel
theorem bdMo_isByte_31 : decode mMo_isByte.2.2.1 31 = .ok (.ireturn, 1) := by decide +kernel
theorem cMo_isByte {sg : zSig} {c : Int32}  : zG mMo_isByte 411 (fun rr h' => rr = some (.int (if (32 ≤ c ∧ c ≤ 126) ∧ c ≠ 91 ∧ c ≠ 93 then 1 else 0)) ∧ h' = zN sg) 0 [(0, .int c)] [] (zN sg) := by
  refine zG_run bkMo_isByte_0 (lv' := [(0, .int c)]) (st' := [.long ((126 : Int32).toInt64), .long ((32 : Int32).toInt64), .long c.toInt64]) (h' := zN sg) (Ps := []) rfl trivial ?_
  refine zG_calls (As := [.long c.toInt64, .long ((32 : Int32).toInt64), .long ((126 : Int32).toInt64)]) (rest := []) (N2 := 411) bdMo_isByte_8 okMo_in lk10_87 (And.intro (by decide) (by decide)) rfl rfl (Nat.le_of_ble_eq_true rfl) (Nat.le_of_ble_eq_true rfl) (Nat.le_refl 411) (Nat.le_refl 411) cMo_inA ?_
  rintro rr h' ⟨rfl, rfl⟩ -
  refine zb_ifeq (tgt := 30) bkMo_isByte_11 bdMo_isByte_11 (by decide) (lv' := [(0, .int c)]) (st' := []) (h' := zN sg) (x := if 32 ≤ c ∧ c ≤ 126 then 1 else 0) (Ps := []) rfl trivial (fun c1 => ?_) (fun c1 => ?_)
  · skip
    refine zb_zret bkMo_isByte_30 bdMo_isByte_31 rfl (x := 0) (h' := zN sg) (Ps := []) rfl trivial rfl (Or.inl rfl) ?_
    exact ⟨by grind, rfl⟩
  · skip
    refine zb_iceq (tgt := 30) bkMo_isByte_14 bdMo_isByte_17 (by decide) (lv' := [(0, .int c)]) (st' := []) (h' := zN sg) (x := c) (y := 91) (Ps := []) rfl trivial (fun c2 => ?_) (fun c2 => ?_)
    · skip
      refine zb_zret bkMo_isByte_30 bdMo_isByte_31 rfl (x := 0) (h' := zN sg) (Ps := []) rfl trivial rfl (Or.inl rfl) ?_
      exact ⟨by grind, rfl⟩
    · skip
      refine zb_iceq (tgt := 30) bkMo_isByte_20 bdMo_isByte_23 (by decide) (lv' := [(0, .int c)]) (st' := []) (h' := zN sg) (x := c) (y := 93) (Ps := []) rfl trivial (fun c3 => ?_) (fun c3 => ?_)
      · skip
        refine zb_zret bkMo_isByte_30 bdMo_isByte_31 rfl (x := 0) (h' := zN sg) (Ps := []) rfl trivial rfl (Or.inl rfl) ?_
        exact ⟨by grind, rfl⟩
      · skip
        refine zb_zret bkMo_isByte_26 bdMo_isByte_31 rfl (x := 1) (h' := zN sg) (Ps := []) rfl trivial rfl (Or.inr rfl) ?_
        exact ⟨by grind, rfl⟩
theorem bkMo_onward_0 : zBk mMo_onward 0 [(1, 0, 0, 0, 0), (1, 2, 0, 0, 0)] = some 2 := by decide +kernel
theorem bkMo_onward_15 : zBk mMo_onward 15 [(1, 0, 0, 0, 0), (1, 3, 0, 0, 0), (4, 0, 0, 0, 0), (22, 22, 0, 0, 0)] = some 22 := by decide +kernel
theorem bkMo_onward_5 : zBk mMo_onward 5 [(1, 0, 0, 0, 0), (1, 2, 0, 0, 0)] = some 7 := by decide +kernel
theorem bkMo_onward_21 : zBk mMo_onward 21 [(1, 0, 0, 0, 0)] = some 22 := by decide +kernel
theorem bkMo_onward_10 : zBk mMo_onward 10 [(1, 1, 0, 0, 0), (0, 0, 0, 0, 1)] = some 12 := by decide +kernel
theorem bdMo_onward_2 : decode mMo_onward.2.2.1 2 = .ok (.if_icmp .gt 13, 3) := by decide +kernel
theorem bdMo_onward_7 : decode mMo_onward.2.2.1 7 = .ok (.if_icmp .ne 14, 3) := by decide +kernel
theorem bdMo_onward_12 : decode mMo_onward.2.2.1 12 = .ok (.if_icmp .ne 9, 3) := by decide +kernel
theorem bdMo_onward_22 : decode mMo_onward.2.2.1 22 = .ok (.ireturn, 1) := by decide +kernel
theorem cMo_onward {sg : zSig} {x l p m : Int32}  : zG mMo_onward 411 (fun rr h' => rr = some (.int (pOn x l p m)) ∧ h' = zN sg) 0 [(0, .int x), (1, .int l), (2, .int p), (3, .int m)] [] (zN sg) := by
  refine zb_icgt (tgt := 15) bkMo_onward_0 bdMo_onward_2 (by decide) (lv' := [(0, .int x), (1, .int l), (2, .int p), (3, .int m)]) (st' := []) (h' := zN sg) (x := x) (y := p) (Ps := []) rfl trivial (fun c1 => ?_) (fun c1 => ?_)
  · skip
    refine zb_iret bkMo_onward_15 bdMo_onward_22 rfl (x := x + m) (h' := zN sg) (Ps := []) rfl trivial rfl ?_
    exact ⟨by grind [pOn], rfl⟩
  · skip
    refine zb_icne (tgt := 21) bkMo_onward_5 bdMo_onward_7 (by decide) (lv' := [(0, .int x), (1, .int l), (2, .int p), (3, .int m)]) (st' := []) (h' := zN sg) (x := x) (y := p) (Ps := []) rfl trivial (fun c2 => ?_) (fun c2 => ?_)
    · skip
      refine zb_iret bkMo_onward_21 bdMo_onward_22 rfl (x := x) (h' := zN sg) (Ps := []) rfl trivial rfl ?_
      exact ⟨by grind [pOn], rfl⟩
    · skip
      refine zb_icne (tgt := 21) bkMo_onward_10 bdMo_onward_12 (by decide) (lv' := [(0, .int x), (1, .int l), (2, .int p), (3, .int m)]) (st' := []) (h' := zN sg) (x := l) (y := 1) (Ps := []) rfl trivial (fun c3 => ?_) (fun c3 => ?_)
      · skip
        refine zb_iret bkMo_onward_21 bdMo_onward_22 rfl (x := x) (h' := zN sg) (Ps := []) rfl trivial rfl ?_
        exact ⟨by grind [pOn], rfl⟩
      · skip
        refine zb_iret bkMo_onward_15 bdMo_onward_22 rfl (x := x + m) (h' := zN sg) (Ps := []) rfl trivial rfl ?_
        exact ⟨by grind [pOn], rfl⟩
theorem bkMo_backward_0 : zBk mMo_backward 0 [(1, 0, 0, 0, 0), (1, 2, 0, 0, 0)] = some 2 := by decide +kernel
theorem bkMo_backward_13 : zBk mMo_backward 13 [(1, 0, 0, 0, 0), (1, 1, 0, 0, 0)] = some 15 := by decide +kernel
theorem bkMo_backward_22 : zBk mMo_backward 22 [(1, 0, 0, 0, 0)] = some 23 := by decide +kernel
theorem bkMo_backward_18 : zBk mMo_backward 18 [(1, 1, 0, 0, 0), (22, 23, 0, 0, 0)] = some 23 := by decide +kernel
theorem bkMo_backward_5 : zBk mMo_backward 5 [(1, 0, 0, 0, 0), (1, 2, 0, 0, 0), (1, 1, 0, 0, 0), (4, 1, 0, 0, 0), (4, 1, 0, 0, 0), (22, 23, 0, 0, 0)] = some 23 := by decide +kernel
theorem bdMo_backward_2 : decode mMo_backward.2.2.1 2 = .ok (.if_icmp .lt 11, 3) := by decide +kernel
theorem bdMo_backward_15 : decode mMo_backward.2.2.1 15 = .ok (.if_icmp .le 7, 3) := by decide +kernel
theorem bdMo_backward_23 : decode mMo_backward.2.2.1 23 = .ok (.ireturn, 1) := by decide +kernel
theorem cMo_backward {sg : zSig} {x p q : Int32}  : zG mMo_backward 411 (fun rr h' => rr = some (.int (pBk x p q)) ∧ h' = zN sg) 0 [(0, .int x), (1, .int p), (2, .int q)] [] (zN sg) := by
  refine zb_iclt (tgt := 13) bkMo_backward_0 bdMo_backward_2 (by decide) (lv' := [(0, .int x), (1, .int p), (2, .int q)]) (st' := []) (h' := zN sg) (x := x) (y := q) (Ps := []) rfl trivial (fun c1 => ?_) (fun c1 => ?_)
  · skip
    refine zb_icle (tgt := 22) bkMo_backward_13 bdMo_backward_15 (by decide) (lv' := [(0, .int x), (1, .int p), (2, .int q)]) (st' := []) (h' := zN sg) (x := x) (y := p) (Ps := []) rfl trivial (fun c2 => ?_) (fun c2 => ?_)
    · skip
      refine zb_iret bkMo_backward_22 bdMo_backward_23 rfl (x := x) (h' := zN sg) (Ps := []) rfl trivial rfl ?_
      exact ⟨by grind [pBk], rfl⟩
    · skip
      refine zb_iret bkMo_backward_18 bdMo_backward_23 rfl (x := p) (h' := zN sg) (Ps := []) rfl trivial rfl ?_
      exact ⟨by grind [pBk], rfl⟩
  · skip
    refine zb_iret bkMo_backward_5 bdMo_backward_23 rfl (x := x - (q - p)) (h' := zN sg) (Ps := []) rfl trivial rfl ?_
    exact ⟨by grind [pBk], rfl⟩
theorem bkMo_isLook_0 : zBk mMo_isLook 0 [(1, 0, 0, 0, 0), (14, 0, 0, 0, 0), (15, 0, 0, 0, 0), (15, 0, 0, 0, 15)] = some 6 := by decide +kernel
theorem bkMo_isLook_9 : zBk mMo_isLook 9 [] = some 9 := by decide +kernel
theorem bkMo_isLook_56 : zBk mMo_isLook 56 [(0, 0, 0, 0, 0)] = some 57 := by decide +kernel
theorem bkMo_isLook_12 : zBk mMo_isLook 12 [(1, 1, 0, 0, 0), (14, 0, 0, 0, 0), (15, 0, 0, 0, 0), (15, 0, 0, 0, 15)] = some 18 := by decide +kernel
theorem bkMo_isLook_21 : zBk mMo_isLook 21 [] = some 21 := by decide +kernel
theorem bkMo_isLook_24 : zBk mMo_isLook 24 [(1, 2, 0, 0, 0), (14, 0, 0, 0, 0), (15, 0, 0, 0, -1), (15, 0, 0, 0, 7)] = some 32 := by decide +kernel
theorem bkMo_isLook_35 : zBk mMo_isLook 35 [] = some 35 := by decide +kernel
theorem bkMo_isLook_38 : zBk mMo_isLook 38 [(1, 3, 0, 0, 0), (14, 0, 0, 0, 0), (15, 0, 0, 0, -3), (15, 0, 0, 0, 3)] = some 46 := by decide +kernel
theorem bkMo_isLook_49 : zBk mMo_isLook 49 [] = some 49 := by decide +kernel
theorem bkMo_isLook_52 : zBk mMo_isLook 52 [(0, 0, 0, 0, 1), (22, 57, 0, 0, 0)] = some 57 := by decide +kernel
theorem bdMo_isLook_6 : decode mMo_isLook.2.2.1 6 = .ok (.invokestatic 87, 3) := by decide +kernel
theorem bdMo_isLook_9 : decode mMo_isLook.2.2.1 9 = .ok (.ifCond .eq 47, 3) := by decide +kernel
theorem bdMo_isLook_18 : decode mMo_isLook.2.2.1 18 = .ok (.invokestatic 87, 3) := by decide +kernel
theorem bdMo_isLook_21 : decode mMo_isLook.2.2.1 21 = .ok (.ifCond .eq 35, 3) := by decide +kernel
theorem bdMo_isLook_32 : decode mMo_isLook.2.2.1 32 = .ok (.invokestatic 87, 3) := by decide +kernel
theorem bdMo_isLook_35 : decode mMo_isLook.2.2.1 35 = .ok (.ifCond .eq 21, 3) := by decide +kernel
theorem bdMo_isLook_46 : decode mMo_isLook.2.2.1 46 = .ok (.invokestatic 87, 3) := by decide +kernel
theorem bdMo_isLook_49 : decode mMo_isLook.2.2.1 49 = .ok (.ifCond .eq 7, 3) := by decide +kernel
theorem bdMo_isLook_57 : decode mMo_isLook.2.2.1 57 = .ok (.ireturn, 1) := by decide +kernel
theorem cMo_isLook {sg : zSig} {n f c g : Int32}  : zG mMo_isLook 411 (fun rr h' => rr = some (.int (if (0 ≤ n ∧ n ≤ 15) ∧ (0 ≤ f ∧ f ≤ 15) ∧ (-1 ≤ c ∧ c ≤ 7) ∧ -3 ≤ g ∧ g ≤ 3 then 1 else 0)) ∧ h' = zN sg) 0 [(0, .int n), (1, .int f), (2, .int c), (3, .int g)] [] (zN sg) := by
  refine zG_run bkMo_isLook_0 (lv' := [(0, .int n), (1, .int f), (2, .int c), (3, .int g)]) (st' := [.long ((15 : Int32).toInt64), .long ((0 : Int32).toInt64), .long n.toInt64]) (h' := zN sg) (Ps := []) rfl trivial ?_
  refine zG_calls (As := [.long n.toInt64, .long ((0 : Int32).toInt64), .long ((15 : Int32).toInt64)]) (rest := []) (N2 := 411) bdMo_isLook_6 okMo_in lk10_87 (And.intro (by decide) (by decide)) rfl rfl (Nat.le_of_ble_eq_true rfl) (Nat.le_of_ble_eq_true rfl) (Nat.le_refl 411) (Nat.le_refl 411) cMo_inA ?_
  rintro rr h' ⟨rfl, rfl⟩ -
  refine zb_ifeq (tgt := 56) bkMo_isLook_9 bdMo_isLook_9 (by decide) (lv' := [(0, .int n), (1, .int f), (2, .int c), (3, .int g)]) (st' := []) (h' := zN sg) (x := if 0 ≤ n ∧ n ≤ 15 then 1 else 0) (Ps := []) rfl trivial (fun c1 => ?_) (fun c1 => ?_)
  · skip
    refine zb_zret bkMo_isLook_56 bdMo_isLook_57 rfl (x := 0) (h' := zN sg) (Ps := []) rfl trivial rfl (Or.inl rfl) ?_
    exact ⟨by grind, rfl⟩
  · skip
    refine zG_run bkMo_isLook_12 (lv' := [(0, .int n), (1, .int f), (2, .int c), (3, .int g)]) (st' := [.long ((15 : Int32).toInt64), .long ((0 : Int32).toInt64), .long f.toInt64]) (h' := zN sg) (Ps := []) rfl trivial ?_
    refine zG_calls (As := [.long f.toInt64, .long ((0 : Int32).toInt64), .long ((15 : Int32).toInt64)]) (rest := []) (N2 := 411) bdMo_isLook_18 okMo_in lk10_87 (And.intro (by decide) (by decide)) rfl rfl (Nat.le_of_ble_eq_true rfl) (Nat.le_of_ble_eq_true rfl) (Nat.le_refl 411) (Nat.le_refl 411) cMo_inA ?_
    rintro rr h' ⟨rfl, rfl⟩ -
    refine zb_ifeq (tgt := 56) bkMo_isLook_21 bdMo_isLook_21 (by decide) (lv' := [(0, .int n), (1, .int f), (2, .int c), (3, .int g)]) (st' := []) (h' := zN sg) (x := if 0 ≤ f ∧ f ≤ 15 then 1 else 0) (Ps := []) rfl trivial (fun c2 => ?_) (fun c2 => ?_)
    · skip
      refine zb_zret bkMo_isLook_56 bdMo_isLook_57 rfl (x := 0) (h' := zN sg) (Ps := []) rfl trivial rfl (Or.inl rfl) ?_
      exact ⟨by grind, rfl⟩
    · skip
      refine zG_run bkMo_isLook_24 (lv' := [(0, .int n), (1, .int f), (2, .int c), (3, .int g)]) (st' := [.long ((7 : Int32).toInt64), .long ((-1 : Int32).toInt64), .long c.toInt64]) (h' := zN sg) (Ps := []) rfl trivial ?_
      refine zG_calls (As := [.long c.toInt64, .long ((-1 : Int32).toInt64), .long ((7 : Int32).toInt64)]) (rest := []) (N2 := 411) bdMo_isLook_32 okMo_in lk10_87 (And.intro (by decide) (by decide)) rfl rfl (Nat.le_of_ble_eq_true rfl) (Nat.le_of_ble_eq_true rfl) (Nat.le_refl 411) (Nat.le_refl 411) cMo_inA ?_
      rintro rr h' ⟨rfl, rfl⟩ -
      refine zb_ifeq (tgt := 56) bkMo_isLook_35 bdMo_isLook_35 (by decide) (lv' := [(0, .int n), (1, .int f), (2, .int c), (3, .int g)]) (st' := []) (h' := zN sg) (x := if (-1) ≤ c ∧ c ≤ 7 then 1 else 0) (Ps := []) rfl trivial (fun c3 => ?_) (fun c3 => ?_)
      · skip
        refine zb_zret bkMo_isLook_56 bdMo_isLook_57 rfl (x := 0) (h' := zN sg) (Ps := []) rfl trivial rfl (Or.inl rfl) ?_
        exact ⟨by grind, rfl⟩
      · skip
        refine zG_run bkMo_isLook_38 (lv' := [(0, .int n), (1, .int f), (2, .int c), (3, .int g)]) (st' := [.long ((3 : Int32).toInt64), .long ((-3 : Int32).toInt64), .long g.toInt64]) (h' := zN sg) (Ps := []) rfl trivial ?_
        refine zG_calls (As := [.long g.toInt64, .long ((-3 : Int32).toInt64), .long ((3 : Int32).toInt64)]) (rest := []) (N2 := 411) bdMo_isLook_46 okMo_in lk10_87 (And.intro (by decide) (by decide)) rfl rfl (Nat.le_of_ble_eq_true rfl) (Nat.le_of_ble_eq_true rfl) (Nat.le_refl 411) (Nat.le_refl 411) cMo_inA ?_
        rintro rr h' ⟨rfl, rfl⟩ -
        refine zb_ifeq (tgt := 56) bkMo_isLook_49 bdMo_isLook_49 (by decide) (lv' := [(0, .int n), (1, .int f), (2, .int c), (3, .int g)]) (st' := []) (h' := zN sg) (x := if (-3) ≤ g ∧ g ≤ 3 then 1 else 0) (Ps := []) rfl trivial (fun c4 => ?_) (fun c4 => ?_)
        · skip
          refine zb_zret bkMo_isLook_56 bdMo_isLook_57 rfl (x := 0) (h' := zN sg) (Ps := []) rfl trivial rfl (Or.inl rfl) ?_
          exact ⟨by grind, rfl⟩
        · skip
          refine zb_zret bkMo_isLook_52 bdMo_isLook_57 rfl (x := 1) (h' := zN sg) (Ps := []) rfl trivial rfl (Or.inr rfl) ?_
          exact ⟨by grind, rfl⟩
def gFl (c : Int32) : Int32 := if c = 98 then 1 else if c = 105 then 2 else if c = 117 then 4 else if c = 115 then 8 else 0
theorem bkMo_flagOf_0 : zBk mMo_flagOf 0 [(1, 0, 0, 0, 0), (0, 0, 0, 0, 98)] = some 3 := by decide +kernel
theorem bkMo_flagOf_10 : zBk mMo_flagOf 10 [(1, 0, 0, 0, 0), (0, 0, 0, 0, 105)] = some 13 := by decide +kernel
theorem bkMo_flagOf_20 : zBk mMo_flagOf 20 [(1, 0, 0, 0, 0), (0, 0, 0, 0, 117)] = some 23 := by decide +kernel
theorem bkMo_flagOf_30 : zBk mMo_flagOf 30 [(1, 0, 0, 0, 0), (0, 0, 0, 0, 115)] = some 33 := by decide +kernel
theorem bkMo_flagOf_41 : zBk mMo_flagOf 41 [(0, 0, 0, 0, 0)] = some 42 := by decide +kernel
theorem bkMo_flagOf_36 : zBk mMo_flagOf 36 [(0, 0, 0, 0, 8), (22, 42, 0, 0, 0)] = some 42 := by decide +kernel
theorem bkMo_flagOf_26 : zBk mMo_flagOf 26 [(0, 0, 0, 0, 4), (22, 42, 0, 0, 0)] = some 42 := by decide +kernel
theorem bkMo_flagOf_16 : zBk mMo_flagOf 16 [(0, 0, 0, 0, 2), (22, 42, 0, 0, 0)] = some 42 := by decide +kernel
theorem bkMo_flagOf_6 : zBk mMo_flagOf 6 [(0, 0, 0, 0, 1), (22, 42, 0, 0, 0)] = some 42 := by decide +kernel
theorem bdMo_flagOf_3 : decode mMo_flagOf.2.2.1 3 = .ok (.if_icmp .ne 7, 3) := by decide +kernel
theorem bdMo_flagOf_13 : decode mMo_flagOf.2.2.1 13 = .ok (.if_icmp .ne 7, 3) := by decide +kernel
theorem bdMo_flagOf_23 : decode mMo_flagOf.2.2.1 23 = .ok (.if_icmp .ne 7, 3) := by decide +kernel
theorem bdMo_flagOf_33 : decode mMo_flagOf.2.2.1 33 = .ok (.if_icmp .ne 8, 3) := by decide +kernel
theorem bdMo_flagOf_42 : decode mMo_flagOf.2.2.1 42 = .ok (.ireturn, 1) := by decide +kernel
theorem cMo_flagOf {sg : zSig} {c : Int32}  : zG mMo_flagOf 411 (fun rr h' => rr = some (.int (gFl c)) ∧ h' = zN sg) 0 [(0, .int c)] [] (zN sg) := by
  refine zb_icne (tgt := 10) bkMo_flagOf_0 bdMo_flagOf_3 (by decide) (lv' := [(0, .int c)]) (st' := []) (h' := zN sg) (x := c) (y := 98) (Ps := []) rfl trivial (fun c1 => ?_) (fun c1 => ?_)
  · skip
    refine zb_icne (tgt := 20) bkMo_flagOf_10 bdMo_flagOf_13 (by decide) (lv' := [(0, .int c)]) (st' := []) (h' := zN sg) (x := c) (y := 105) (Ps := []) rfl trivial (fun c2 => ?_) (fun c2 => ?_)
    · skip
      refine zb_icne (tgt := 30) bkMo_flagOf_20 bdMo_flagOf_23 (by decide) (lv' := [(0, .int c)]) (st' := []) (h' := zN sg) (x := c) (y := 117) (Ps := []) rfl trivial (fun c3 => ?_) (fun c3 => ?_)
      · skip
        refine zb_icne (tgt := 41) bkMo_flagOf_30 bdMo_flagOf_33 (by decide) (lv' := [(0, .int c)]) (st' := []) (h' := zN sg) (x := c) (y := 115) (Ps := []) rfl trivial (fun c4 => ?_) (fun c4 => ?_)
        · skip
          refine zb_iret bkMo_flagOf_41 bdMo_flagOf_42 rfl (x := 0) (h' := zN sg) (Ps := []) rfl trivial rfl ?_
          exact ⟨by grind [gFl], rfl⟩
        · skip
          refine zb_iret bkMo_flagOf_36 bdMo_flagOf_42 rfl (x := 8) (h' := zN sg) (Ps := []) rfl trivial rfl ?_
          exact ⟨by grind [gFl], rfl⟩
      · skip
        refine zb_iret bkMo_flagOf_26 bdMo_flagOf_42 rfl (x := 4) (h' := zN sg) (Ps := []) rfl trivial rfl ?_
        exact ⟨by grind [gFl], rfl⟩
    · skip
      refine zb_iret bkMo_flagOf_16 bdMo_flagOf_42 rfl (x := 2) (h' := zN sg) (Ps := []) rfl trivial rfl ?_
      exact ⟨by grind [gFl], rfl⟩
  · skip
    refine zb_iret bkMo_flagOf_6 bdMo_flagOf_42 rfl (x := 1) (h' := zN sg) (Ps := []) rfl trivial rfl ?_
    exact ⟨by grind [gFl], rfl⟩
def hTell (sg : zSig) : zSig := zup sg 393 1 0
theorem bkMo_tell_0 : zBk mMo_tell 0 [(1, 0, 1, 0, 0), (0, 0, 0, 0, 0), (6, 10, 1, 0, 1), (1, 1, 0, 0, 0)] = some 6 := by decide +kernel
theorem bdMo_tell_6 : decode mMo_tell.2.2.1 6 = .ok (.ireturn, 1) := by decide +kernel
theorem cMo_tell {sg : zSig} {v : Int32}  : zG mMo_tell 411 (fun rr h' => rr = some (.int v) ∧ h' = zN (hTell sg)) 0 [(0, .ref 393), (1, .int v)] [] (zN sg) := by
  refine zb_iret bkMo_tell_0 bdMo_tell_6 rfl (x := v) (h' := zN (zup sg 393 1 0)) (Ps := [zOb (zN sg) 393 10]) rfl (zA zob_393 trivial) rfl ?_
  exact ⟨rfl, rfl⟩
def hRef (sg : zSig) (v : Int32) : zSig := zup (zup sg 393 1 v) 394 (-v) (sg 394 (-v) + 1)
theorem bkMo_refuse_0 : zBk mMo_refuse 0 [(1, 0, 1, 0, 0), (1, 1, 0, 0, 0), (6, 10, 1, 0, 1), (1, 0, 1, 0, 0), (5, 10, 2, 1, 2), (1, 1, 0, 0, 0), (12, 0, 0, 0, 0), (19, 0, 0, 0, 0), (7, 0, 0, 0, 0), (0, 0, 0, 0, 1), (4, 0, 0, 0, 0), (8, 0, 0, 0, 0), (1, 1, 0, 0, 0)] = some 17 := by decide +kernel
theorem bdMo_refuse_17 : decode mMo_refuse.2.2.1 17 = .ok (.ireturn, 1) := by decide +kernel
theorem cMo_refuse {sg : zSig} {v : Int32} (h1 : 0 ≤ -v) (h2 : -v < 7) : zG mMo_refuse 411 (fun rr h' => rr = some (.int v) ∧ h' = zN (hRef sg v)) 0 [(0, .ref 393), (1, .int v)] [] (zN sg) := by
  refine zb_iret bkMo_refuse_0 bdMo_refuse_17 rfl (x := v) (h' := zN (zup (zup sg 393 1 v) 394 (-v) (((zup sg 393 1 v) 394 (-v)) + 1))) (Ps := [zOb (zN sg) 393 10, zOb (zN (zup sg 393 1 v)) 393 10 ∧ (zN (zup sg 393 1 v)).2.2 393 2 = true, zInL (zN (zup sg 393 1 v)) 394 (-v), zIn (zN (zup sg 393 1 v)) 394 0 (-v)]) rfl (zA zob_393 (zA ⟨zob_393, rfl⟩ (zA (zinL_394 (i := -v) (by grind) (by grind)) (zA (zin_394 (i := -v) (by grind) (by grind)) trivial)))) rfl ?_
  exact ⟨rfl, by simp [hRef, zup_e]⟩
def hCm (sg : zSig) (v : Int32) : zSig := fun a j => if a = 393 ∧ j = 11 then sg 393 11 + 4 else if a = 401 ∧ j = sg 393 11 + 3 then v.toInt8.toInt32 else if a = 401 ∧ j = sg 393 11 + 2 then ((v.toUInt32 >>> ((8 : Int32).toUInt32 &&& Int32.toUInt32 31)).toInt32).toInt8.toInt32 else if a = 401 ∧ j = sg 393 11 + 1 then ((v.toUInt32 >>> ((16 : Int32).toUInt32 &&& Int32.toUInt32 31)).toInt32).toInt8.toInt32 else if a = 401 ∧ j = sg 393 11 then ((v.toUInt32 >>> ((24 : Int32).toUInt32 &&& Int32.toUInt32 31)).toInt32).toInt8.toInt32 else sg a j
theorem zush0 (v : Int32) : (v.toUInt32 >>> ((0 : Int32).toUInt32 &&& Int32.toUInt32 31)).toInt32 = v := by
  have : ((0 : Int32).toUInt32 &&& Int32.toUInt32 31) = 0 := by decide
  rw [this]; simp
theorem zi8i (v : Int32) : v.toInt8.toInt32.toInt8.toInt32 = v.toInt8.toInt32 := by simp
theorem bkMo_comes_0 : zBk mMo_comes 0 [(0, 0, 0, 0, 24), (2, 2, 0, 0, 0), (1, 2, 0, 0, 0)] = some 4 := by decide +kernel
theorem bkMo_comes_7 : zBk mMo_comes 7 [(1, 0, 1, 0, 0), (5, 10, 10, 8, 10), (1, 0, 1, 0, 0), (5, 10, 11, 0, 11), (1, 1, 0, 0, 0), (1, 2, 0, 0, 0), (4, 8, 0, 0, 0), (13, 0, 0, 0, 0), (8, 1, 0, 0, 0), (1, 0, 1, 0, 0), (18, 0, 0, 0, 0), (5, 10, 11, 0, 11), (0, 0, 0, 0, 1), (4, 0, 0, 0, 0), (6, 10, 11, 0, 11), (3, 2, 0, 0, -8), (22, 3, 0, 0, 0), (1, 2, 0, 0, 0)] = some 4 := by decide +kernel
theorem bkMo_comes_36 : zBk mMo_comes 36 [] = some 36 := by decide +kernel
theorem bdMo_comes_4 : decode mMo_comes.2.2.1 4 = .ok (.ifCond .lt 32, 3) := by decide +kernel
theorem bdMo_comes_36 : decode mMo_comes.2.2.1 36 = .ok (.return_, 1) := by decide +kernel
theorem cMo_comes {sg : zSig} {v : Int32} (h1 : 0 ≤ sg 393 11) (h2 : sg 393 11 ≤ 396) : zG mMo_comes 411 (fun rr h' => rr = none ∧ h' = zN (hCm sg v)) 0 [(0, .ref 393), (1, .int v)] [] (zN sg) := by
  refine zb_iflt (tgt := 36) bkMo_comes_0 bdMo_comes_4 (by decide) (lv' := [(2, .int 24), (0, .ref 393), (1, .int v)]) (st' := []) (h' := zN sg) (x := 24) (Ps := []) rfl trivial (fun c1 => ?_) (fun c1 => ?_)
  · exact absurd c1 (by decide)
  · skip
    refine zb_iflt (tgt := 36) bkMo_comes_7 bdMo_comes_4 (by decide) (lv' := [(2, .int 16), (0, .ref 393), (1, .int v)]) (st' := []) (h' := zN (zup (zup sg 401 (sg 393 11) (((v.toUInt32 >>> ((24 : Int32).toUInt32 &&& Int32.toUInt32 31)).toInt32).toInt8.toInt32).toInt8.toInt32) 393 11 (((zup sg 401 (sg 393 11) (((v.toUInt32 >>> ((24 : Int32).toUInt32 &&& Int32.toUInt32 31)).toInt32).toInt8.toInt32).toInt8.toInt32) 393 11) + 1))) (x := 16) (Ps := [zOb (zN sg) 393 10 ∧ (zN sg).2.2 393 10 = true, zOb (zN sg) 393 10, zIn (zN sg) 401 1 (sg 393 11), zOb (zN (zup sg 401 (sg 393 11) (((v.toUInt32 >>> ((24 : Int32).toUInt32 &&& Int32.toUInt32 31)).toInt32).toInt8.toInt32).toInt8.toInt32)) 393 10, zOb (zN (zup sg 401 (sg 393 11) (((v.toUInt32 >>> ((24 : Int32).toUInt32 &&& Int32.toUInt32 31)).toInt32).toInt8.toInt32).toInt8.toInt32)) 393 10]) rfl (zA ⟨zob_393, rfl⟩ (zA zob_393 (zA (zin_401 (i := sg 393 11) (by (try simp only [zup_e]); grind) (by (try simp only [zup_e]); grind)) (zA zob_393 (zA zob_393 trivial))))) (fun c2 => ?_) (fun c2 => ?_)
    · exact absurd c2 (by decide)
    · skip
      refine zb_iflt (tgt := 36) bkMo_comes_7 bdMo_comes_4 (by decide) (lv' := [(2, .int 8), (0, .ref 393), (1, .int v)]) (st' := []) (h' := zN (zup (zup (zup (zup sg 401 (sg 393 11) (((v.toUInt32 >>> ((24 : Int32).toUInt32 &&& Int32.toUInt32 31)).toInt32).toInt8.toInt32).toInt8.toInt32) 393 11 (((zup sg 401 (sg 393 11) (((v.toUInt32 >>> ((24 : Int32).toUInt32 &&& Int32.toUInt32 31)).toInt32).toInt8.toInt32).toInt8.toInt32) 393 11) + 1)) 401 ((zup (zup sg 401 (sg 393 11) (((v.toUInt32 >>> ((24 : Int32).toUInt32 &&& Int32.toUInt32 31)).toInt32).toInt8.toInt32).toInt8.toInt32) 393 11 (((zup sg 401 (sg 393 11) (((v.toUInt32 >>> ((24 : Int32).toUInt32 &&& Int32.toUInt32 31)).toInt32).toInt8.toInt32).toInt8.toInt32) 393 11) + 1)) 393 11) (((v.toUInt32 >>> ((16 : Int32).toUInt32 &&& Int32.toUInt32 31)).toInt32).toInt8.toInt32).toInt8.toInt32) 393 11 (((zup (zup (zup sg 401 (sg 393 11) (((v.toUInt32 >>> ((24 : Int32).toUInt32 &&& Int32.toUInt32 31)).toInt32).toInt8.toInt32).toInt8.toInt32) 393 11 (((zup sg 401 (sg 393 11) (((v.toUInt32 >>> ((24 : Int32).toUInt32 &&& Int32.toUInt32 31)).toInt32).toInt8.toInt32).toInt8.toInt32) 393 11) + 1)) 401 ((zup (zup sg 401 (sg 393 11) (((v.toUInt32 >>> ((24 : Int32).toUInt32 &&& Int32.toUInt32 31)).toInt32).toInt8.toInt32).toInt8.toInt32) 393 11 (((zup sg 401 (sg 393 11) (((v.toUInt32 >>> ((24 : Int32).toUInt32 &&& Int32.toUInt32 31)).toInt32).toInt8.toInt32).toInt8.toInt32) 393 11) + 1)) 393 11) (((v.toUInt32 >>> ((16 : Int32).toUInt32 &&& Int32.toUInt32 31)).toInt32).toInt8.toInt32).toInt8.toInt32) 393 11) + 1))) (x := 8) (Ps := [zOb (zN (zup (zup sg 401 (sg 393 11) (((v.toUInt32 >>> ((24 : Int32).toUInt32 &&& Int32.toUInt32 31)).toInt32).toInt8.toInt32).toInt8.toInt32) 393 11 (((zup sg 401 (sg 393 11) (((v.toUInt32 >>> ((24 : Int32).toUInt32 &&& Int32.toUInt32 31)).toInt32).toInt8.toInt32).toInt8.toInt32) 393 11) + 1))) 393 10 ∧ (zN (zup (zup sg 401 (sg 393 11) (((v.toUInt32 >>> ((24 : Int32).toUInt32 &&& Int32.toUInt32 31)).toInt32).toInt8.toInt32).toInt8.toInt32) 393 11 (((zup sg 401 (sg 393 11) (((v.toUInt32 >>> ((24 : Int32).toUInt32 &&& Int32.toUInt32 31)).toInt32).toInt8.toInt32).toInt8.toInt32) 393 11) + 1))).2.2 393 10 = true, zOb (zN (zup (zup sg 401 (sg 393 11) (((v.toUInt32 >>> ((24 : Int32).toUInt32 &&& Int32.toUInt32 31)).toInt32).toInt8.toInt32).toInt8.toInt32) 393 11 (((zup sg 401 (sg 393 11) (((v.toUInt32 >>> ((24 : Int32).toUInt32 &&& Int32.toUInt32 31)).toInt32).toInt8.toInt32).toInt8.toInt32) 393 11) + 1))) 393 10, zIn (zN (zup (zup sg 401 (sg 393 11) (((v.toUInt32 >>> ((24 : Int32).toUInt32 &&& Int32.toUInt32 31)).toInt32).toInt8.toInt32).toInt8.toInt32) 393 11 (((zup sg 401 (sg 393 11) (((v.toUInt32 >>> ((24 : Int32).toUInt32 &&& Int32.toUInt32 31)).toInt32).toInt8.toInt32).toInt8.toInt32) 393 11) + 1))) 401 1 ((zup (zup sg 401 (sg 393 11) (((v.toUInt32 >>> ((24 : Int32).toUInt32 &&& Int32.toUInt32 31)).toInt32).toInt8.toInt32).toInt8.toInt32) 393 11 (((zup sg 401 (sg 393 11) (((v.toUInt32 >>> ((24 : Int32).toUInt32 &&& Int32.toUInt32 31)).toInt32).toInt8.toInt32).toInt8.toInt32) 393 11) + 1)) 393 11), zOb (zN (zup (zup (zup sg 401 (sg 393 11) (((v.toUInt32 >>> ((24 : Int32).toUInt32 &&& Int32.toUInt32 31)).toInt32).toInt8.toInt32).toInt8.toInt32) 393 11 (((zup sg 401 (sg 393 11) (((v.toUInt32 >>> ((24 : Int32).toUInt32 &&& Int32.toUInt32 31)).toInt32).toInt8.toInt32).toInt8.toInt32) 393 11) + 1)) 401 ((zup (zup sg 401 (sg 393 11) (((v.toUInt32 >>> ((24 : Int32).toUInt32 &&& Int32.toUInt32 31)).toInt32).toInt8.toInt32).toInt8.toInt32) 393 11 (((zup sg 401 (sg 393 11) (((v.toUInt32 >>> ((24 : Int32).toUInt32 &&& Int32.toUInt32 31)).toInt32).toInt8.toInt32).toInt8.toInt32) 393 11) + 1)) 393 11) (((v.toUInt32 >>> ((16 : Int32).toUInt32 &&& Int32.toUInt32 31)).toInt32).toInt8.toInt32).toInt8.toInt32)) 393 10, zOb (zN (zup (zup (zup sg 401 (sg 393 11) (((v.toUInt32 >>> ((24 : Int32).toUInt32 &&& Int32.toUInt32 31)).toInt32).toInt8.toInt32).toInt8.toInt32) 393 11 (((zup sg 401 (sg 393 11) (((v.toUInt32 >>> ((24 : Int32).toUInt32 &&& Int32.toUInt32 31)).toInt32).toInt8.toInt32).toInt8.toInt32) 393 11) + 1)) 401 ((zup (zup sg 401 (sg 393 11) (((v.toUInt32 >>> ((24 : Int32).toUInt32 &&& Int32.toUInt32 31)).toInt32).toInt8.toInt32).toInt8.toInt32) 393 11 (((zup sg 401 (sg 393 11) (((v.toUInt32 >>> ((24 : Int32).toUInt32 &&& Int32.toUInt32 31)).toInt32).toInt8.toInt32).toInt8.toInt32) 393 11) + 1)) 393 11) (((v.toUInt32 >>> ((16 : Int32).toUInt32 &&& Int32.toUInt32 31)).toInt32).toInt8.toInt32).toInt8.toInt32)) 393 10]) rfl (zA ⟨zob_393, rfl⟩ (zA zob_393 (zA (zin_401 (i := (zup (zup sg 401 (sg 393 11) (((v.toUInt32 >>> ((24 : Int32).toUInt32 &&& Int32.toUInt32 31)).toInt32).toInt8.toInt32).toInt8.toInt32) 393 11 (((zup sg 401 (sg 393 11) (((v.toUInt32 >>> ((24 : Int32).toUInt32 &&& Int32.toUInt32 31)).toInt32).toInt8.toInt32).toInt8.toInt32) 393 11) + 1)) 393 11) (by (try simp only [zup_e]); grind) (by (try simp only [zup_e]); grind)) (zA zob_393 (zA zob_393 trivial))))) (fun c3 => ?_) (fun c3 => ?_)
      · exact absurd c3 (by decide)
      · skip
        refine zb_iflt (tgt := 36) bkMo_comes_7 bdMo_comes_4 (by decide) (lv' := [(2, .int 0), (0, .ref 393), (1, .int v)]) (st' := []) (h' := zN (zup (zup (zup (zup (zup (zup sg 401 (sg 393 11) (((v.toUInt32 >>> ((24 : Int32).toUInt32 &&& Int32.toUInt32 31)).toInt32).toInt8.toInt32).toInt8.toInt32) 393 11 (((zup sg 401 (sg 393 11) (((v.toUInt32 >>> ((24 : Int32).toUInt32 &&& Int32.toUInt32 31)).toInt32).toInt8.toInt32).toInt8.toInt32) 393 11) + 1)) 401 ((zup (zup sg 401 (sg 393 11) (((v.toUInt32 >>> ((24 : Int32).toUInt32 &&& Int32.toUInt32 31)).toInt32).toInt8.toInt32).toInt8.toInt32) 393 11 (((zup sg 401 (sg 393 11) (((v.toUInt32 >>> ((24 : Int32).toUInt32 &&& Int32.toUInt32 31)).toInt32).toInt8.toInt32).toInt8.toInt32) 393 11) + 1)) 393 11) (((v.toUInt32 >>> ((16 : Int32).toUInt32 &&& Int32.toUInt32 31)).toInt32).toInt8.toInt32).toInt8.toInt32) 393 11 (((zup (zup (zup sg 401 (sg 393 11) (((v.toUInt32 >>> ((24 : Int32).toUInt32 &&& Int32.toUInt32 31)).toInt32).toInt8.toInt32).toInt8.toInt32) 393 11 (((zup sg 401 (sg 393 11) (((v.toUInt32 >>> ((24 : Int32).toUInt32 &&& Int32.toUInt32 31)).toInt32).toInt8.toInt32).toInt8.toInt32) 393 11) + 1)) 401 ((zup (zup sg 401 (sg 393 11) (((v.toUInt32 >>> ((24 : Int32).toUInt32 &&& Int32.toUInt32 31)).toInt32).toInt8.toInt32).toInt8.toInt32) 393 11 (((zup sg 401 (sg 393 11) (((v.toUInt32 >>> ((24 : Int32).toUInt32 &&& Int32.toUInt32 31)).toInt32).toInt8.toInt32).toInt8.toInt32) 393 11) + 1)) 393 11) (((v.toUInt32 >>> ((16 : Int32).toUInt32 &&& Int32.toUInt32 31)).toInt32).toInt8.toInt32).toInt8.toInt32) 393 11) + 1)) 401 ((zup (zup (zup (zup sg 401 (sg 393 11) (((v.toUInt32 >>> ((24 : Int32).toUInt32 &&& Int32.toUInt32 31)).toInt32).toInt8.toInt32).toInt8.toInt32) 393 11 (((zup sg 401 (sg 393 11) (((v.toUInt32 >>> ((24 : Int32).toUInt32 &&& Int32.toUInt32 31)).toInt32).toInt8.toInt32).toInt8.toInt32) 393 11) + 1)) 401 ((zup (zup sg 401 (sg 393 11) (((v.toUInt32 >>> ((24 : Int32).toUInt32 &&& Int32.toUInt32 31)).toInt32).toInt8.toInt32).toInt8.toInt32) 393 11 (((zup sg 401 (sg 393 11) (((v.toUInt32 >>> ((24 : Int32).toUInt32 &&& Int32.toUInt32 31)).toInt32).toInt8.toInt32).toInt8.toInt32) 393 11) + 1)) 393 11) (((v.toUInt32 >>> ((16 : Int32).toUInt32 &&& Int32.toUInt32 31)).toInt32).toInt8.toInt32).toInt8.toInt32) 393 11 (((zup (zup (zup sg 401 (sg 393 11) (((v.toUInt32 >>> ((24 : Int32).toUInt32 &&& Int32.toUInt32 31)).toInt32).toInt8.toInt32).toInt8.toInt32) 393 11 (((zup sg 401 (sg 393 11) (((v.toUInt32 >>> ((24 : Int32).toUInt32 &&& Int32.toUInt32 31)).toInt32).toInt8.toInt32).toInt8.toInt32) 393 11) + 1)) 401 ((zup (zup sg 401 (sg 393 11) (((v.toUInt32 >>> ((24 : Int32).toUInt32 &&& Int32.toUInt32 31)).toInt32).toInt8.toInt32).toInt8.toInt32) 393 11 (((zup sg 401 (sg 393 11) (((v.toUInt32 >>> ((24 : Int32).toUInt32 &&& Int32.toUInt32 31)).toInt32).toInt8.toInt32).toInt8.toInt32) 393 11) + 1)) 393 11) (((v.toUInt32 >>> ((16 : Int32).toUInt32 &&& Int32.toUInt32 31)).toInt32).toInt8.toInt32).toInt8.toInt32) 393 11) + 1)) 393 11) (((v.toUInt32 >>> ((8 : Int32).toUInt32 &&& Int32.toUInt32 31)).toInt32).toInt8.toInt32).toInt8.toInt32) 393 11 (((zup (zup (zup (zup (zup sg 401 (sg 393 11) (((v.toUInt32 >>> ((24 : Int32).toUInt32 &&& Int32.toUInt32 31)).toInt32).toInt8.toInt32).toInt8.toInt32) 393 11 (((zup sg 401 (sg 393 11) (((v.toUInt32 >>> ((24 : Int32).toUInt32 &&& Int32.toUInt32 31)).toInt32).toInt8.toInt32).toInt8.toInt32) 393 11) + 1)) 401 ((zup (zup sg 401 (sg 393 11) (((v.toUInt32 >>> ((24 : Int32).toUInt32 &&& Int32.toUInt32 31)).toInt32).toInt8.toInt32).toInt8.toInt32) 393 11 (((zup sg 401 (sg 393 11) (((v.toUInt32 >>> ((24 : Int32).toUInt32 &&& Int32.toUInt32 31)).toInt32).toInt8.toInt32).toInt8.toInt32) 393 11) + 1)) 393 11) (((v.toUInt32 >>> ((16 : Int32).toUInt32 &&& Int32.toUInt32 31)).toInt32).toInt8.toInt32).toInt8.toInt32) 393 11 (((zup (zup (zup sg 401 (sg 393 11) (((v.toUInt32 >>> ((24 : Int32).toUInt32 &&& Int32.toUInt32 31)).toInt32).toInt8.toInt32).toInt8.toInt32) 393 11 (((zup sg 401 (sg 393 11) (((v.toUInt32 >>> ((24 : Int32).toUInt32 &&& Int32.toUInt32 31)).toInt32).toInt8.toInt32).toInt8.toInt32) 393 11) + 1)) 401 ((zup (zup sg 401 (sg 393 11) (((v.toUInt32 >>> ((24 : Int32).toUInt32 &&& Int32.toUInt32 31)).toInt32).toInt8.toInt32).toInt8.toInt32) 393 11 (((zup sg 401 (sg 393 11) (((v.toUInt32 >>> ((24 : Int32).toUInt32 &&& Int32.toUInt32 31)).toInt32).toInt8.toInt32).toInt8.toInt32) 393 11) + 1)) 393 11) (((v.toUInt32 >>> ((16 : Int32).toUInt32 &&& Int32.toUInt32 31)).toInt32).toInt8.toInt32).toInt8.toInt32) 393 11) + 1)) 401 ((zup (zup (zup (zup sg 401 (sg 393 11) (((v.toUInt32 >>> ((24 : Int32).toUInt32 &&& Int32.toUInt32 31)).toInt32).toInt8.toInt32).toInt8.toInt32) 393 11 (((zup sg 401 (sg 393 11) (((v.toUInt32 >>> ((24 : Int32).toUInt32 &&& Int32.toUInt32 31)).toInt32).toInt8.toInt32).toInt8.toInt32) 393 11) + 1)) 401 ((zup (zup sg 401 (sg 393 11) (((v.toUInt32 >>> ((24 : Int32).toUInt32 &&& Int32.toUInt32 31)).toInt32).toInt8.toInt32).toInt8.toInt32) 393 11 (((zup sg 401 (sg 393 11) (((v.toUInt32 >>> ((24 : Int32).toUInt32 &&& Int32.toUInt32 31)).toInt32).toInt8.toInt32).toInt8.toInt32) 393 11) + 1)) 393 11) (((v.toUInt32 >>> ((16 : Int32).toUInt32 &&& Int32.toUInt32 31)).toInt32).toInt8.toInt32).toInt8.toInt32) 393 11 (((zup (zup (zup sg 401 (sg 393 11) (((v.toUInt32 >>> ((24 : Int32).toUInt32 &&& Int32.toUInt32 31)).toInt32).toInt8.toInt32).toInt8.toInt32) 393 11 (((zup sg 401 (sg 393 11) (((v.toUInt32 >>> ((24 : Int32).toUInt32 &&& Int32.toUInt32 31)).toInt32).toInt8.toInt32).toInt8.toInt32) 393 11) + 1)) 401 ((zup (zup sg 401 (sg 393 11) (((v.toUInt32 >>> ((24 : Int32).toUInt32 &&& Int32.toUInt32 31)).toInt32).toInt8.toInt32).toInt8.toInt32) 393 11 (((zup sg 401 (sg 393 11) (((v.toUInt32 >>> ((24 : Int32).toUInt32 &&& Int32.toUInt32 31)).toInt32).toInt8.toInt32).toInt8.toInt32) 393 11) + 1)) 393 11) (((v.toUInt32 >>> ((16 : Int32).toUInt32 &&& Int32.toUInt32 31)).toInt32).toInt8.toInt32).toInt8.toInt32) 393 11) + 1)) 393 11) (((v.toUInt32 >>> ((8 : Int32).toUInt32 &&& Int32.toUInt32 31)).toInt32).toInt8.toInt32).toInt8.toInt32) 393 11) + 1))) (x := 0) (Ps := [zOb (zN (zup (zup (zup (zup sg 401 (sg 393 11) (((v.toUInt32 >>> ((24 : Int32).toUInt32 &&& Int32.toUInt32 31)).toInt32).toInt8.toInt32).toInt8.toInt32) 393 11 (((zup sg 401 (sg 393 11) (((v.toUInt32 >>> ((24 : Int32).toUInt32 &&& Int32.toUInt32 31)).toInt32).toInt8.toInt32).toInt8.toInt32) 393 11) + 1)) 401 ((zup (zup sg 401 (sg 393 11) (((v.toUInt32 >>> ((24 : Int32).toUInt32 &&& Int32.toUInt32 31)).toInt32).toInt8.toInt32).toInt8.toInt32) 393 11 (((zup sg 401 (sg 393 11) (((v.toUInt32 >>> ((24 : Int32).toUInt32 &&& Int32.toUInt32 31)).toInt32).toInt8.toInt32).toInt8.toInt32) 393 11) + 1)) 393 11) (((v.toUInt32 >>> ((16 : Int32).toUInt32 &&& Int32.toUInt32 31)).toInt32).toInt8.toInt32).toInt8.toInt32) 393 11 (((zup (zup (zup sg 401 (sg 393 11) (((v.toUInt32 >>> ((24 : Int32).toUInt32 &&& Int32.toUInt32 31)).toInt32).toInt8.toInt32).toInt8.toInt32) 393 11 (((zup sg 401 (sg 393 11) (((v.toUInt32 >>> ((24 : Int32).toUInt32 &&& Int32.toUInt32 31)).toInt32).toInt8.toInt32).toInt8.toInt32) 393 11) + 1)) 401 ((zup (zup sg 401 (sg 393 11) (((v.toUInt32 >>> ((24 : Int32).toUInt32 &&& Int32.toUInt32 31)).toInt32).toInt8.toInt32).toInt8.toInt32) 393 11 (((zup sg 401 (sg 393 11) (((v.toUInt32 >>> ((24 : Int32).toUInt32 &&& Int32.toUInt32 31)).toInt32).toInt8.toInt32).toInt8.toInt32) 393 11) + 1)) 393 11) (((v.toUInt32 >>> ((16 : Int32).toUInt32 &&& Int32.toUInt32 31)).toInt32).toInt8.toInt32).toInt8.toInt32) 393 11) + 1))) 393 10 ∧ (zN (zup (zup (zup (zup sg 401 (sg 393 11) (((v.toUInt32 >>> ((24 : Int32).toUInt32 &&& Int32.toUInt32 31)).toInt32).toInt8.toInt32).toInt8.toInt32) 393 11 (((zup sg 401 (sg 393 11) (((v.toUInt32 >>> ((24 : Int32).toUInt32 &&& Int32.toUInt32 31)).toInt32).toInt8.toInt32).toInt8.toInt32) 393 11) + 1)) 401 ((zup (zup sg 401 (sg 393 11) (((v.toUInt32 >>> ((24 : Int32).toUInt32 &&& Int32.toUInt32 31)).toInt32).toInt8.toInt32).toInt8.toInt32) 393 11 (((zup sg 401 (sg 393 11) (((v.toUInt32 >>> ((24 : Int32).toUInt32 &&& Int32.toUInt32 31)).toInt32).toInt8.toInt32).toInt8.toInt32) 393 11) + 1)) 393 11) (((v.toUInt32 >>> ((16 : Int32).toUInt32 &&& Int32.toUInt32 31)).toInt32).toInt8.toInt32).toInt8.toInt32) 393 11 (((zup (zup (zup sg 401 (sg 393 11) (((v.toUInt32 >>> ((24 : Int32).toUInt32 &&& Int32.toUInt32 31)).toInt32).toInt8.toInt32).toInt8.toInt32) 393 11 (((zup sg 401 (sg 393 11) (((v.toUInt32 >>> ((24 : Int32).toUInt32 &&& Int32.toUInt32 31)).toInt32).toInt8.toInt32).toInt8.toInt32) 393 11) + 1)) 401 ((zup (zup sg 401 (sg 393 11) (((v.toUInt32 >>> ((24 : Int32).toUInt32 &&& Int32.toUInt32 31)).toInt32).toInt8.toInt32).toInt8.toInt32) 393 11 (((zup sg 401 (sg 393 11) (((v.toUInt32 >>> ((24 : Int32).toUInt32 &&& Int32.toUInt32 31)).toInt32).toInt8.toInt32).toInt8.toInt32) 393 11) + 1)) 393 11) (((v.toUInt32 >>> ((16 : Int32).toUInt32 &&& Int32.toUInt32 31)).toInt32).toInt8.toInt32).toInt8.toInt32) 393 11) + 1))).2.2 393 10 = true, zOb (zN (zup (zup (zup (zup sg 401 (sg 393 11) (((v.toUInt32 >>> ((24 : Int32).toUInt32 &&& Int32.toUInt32 31)).toInt32).toInt8.toInt32).toInt8.toInt32) 393 11 (((zup sg 401 (sg 393 11) (((v.toUInt32 >>> ((24 : Int32).toUInt32 &&& Int32.toUInt32 31)).toInt32).toInt8.toInt32).toInt8.toInt32) 393 11) + 1)) 401 ((zup (zup sg 401 (sg 393 11) (((v.toUInt32 >>> ((24 : Int32).toUInt32 &&& Int32.toUInt32 31)).toInt32).toInt8.toInt32).toInt8.toInt32) 393 11 (((zup sg 401 (sg 393 11) (((v.toUInt32 >>> ((24 : Int32).toUInt32 &&& Int32.toUInt32 31)).toInt32).toInt8.toInt32).toInt8.toInt32) 393 11) + 1)) 393 11) (((v.toUInt32 >>> ((16 : Int32).toUInt32 &&& Int32.toUInt32 31)).toInt32).toInt8.toInt32).toInt8.toInt32) 393 11 (((zup (zup (zup sg 401 (sg 393 11) (((v.toUInt32 >>> ((24 : Int32).toUInt32 &&& Int32.toUInt32 31)).toInt32).toInt8.toInt32).toInt8.toInt32) 393 11 (((zup sg 401 (sg 393 11) (((v.toUInt32 >>> ((24 : Int32).toUInt32 &&& Int32.toUInt32 31)).toInt32).toInt8.toInt32).toInt8.toInt32) 393 11) + 1)) 401 ((zup (zup sg 401 (sg 393 11) (((v.toUInt32 >>> ((24 : Int32).toUInt32 &&& Int32.toUInt32 31)).toInt32).toInt8.toInt32).toInt8.toInt32) 393 11 (((zup sg 401 (sg 393 11) (((v.toUInt32 >>> ((24 : Int32).toUInt32 &&& Int32.toUInt32 31)).toInt32).toInt8.toInt32).toInt8.toInt32) 393 11) + 1)) 393 11) (((v.toUInt32 >>> ((16 : Int32).toUInt32 &&& Int32.toUInt32 31)).toInt32).toInt8.toInt32).toInt8.toInt32) 393 11) + 1))) 393 10, zIn (zN (zup (zup (zup (zup sg 401 (sg 393 11) (((v.toUInt32 >>> ((24 : Int32).toUInt32 &&& Int32.toUInt32 31)).toInt32).toInt8.toInt32).toInt8.toInt32) 393 11 (((zup sg 401 (sg 393 11) (((v.toUInt32 >>> ((24 : Int32).toUInt32 &&& Int32.toUInt32 31)).toInt32).toInt8.toInt32).toInt8.toInt32) 393 11) + 1)) 401 ((zup (zup sg 401 (sg 393 11) (((v.toUInt32 >>> ((24 : Int32).toUInt32 &&& Int32.toUInt32 31)).toInt32).toInt8.toInt32).toInt8.toInt32) 393 11 (((zup sg 401 (sg 393 11) (((v.toUInt32 >>> ((24 : Int32).toUInt32 &&& Int32.toUInt32 31)).toInt32).toInt8.toInt32).toInt8.toInt32) 393 11) + 1)) 393 11) (((v.toUInt32 >>> ((16 : Int32).toUInt32 &&& Int32.toUInt32 31)).toInt32).toInt8.toInt32).toInt8.toInt32) 393 11 (((zup (zup (zup sg 401 (sg 393 11) (((v.toUInt32 >>> ((24 : Int32).toUInt32 &&& Int32.toUInt32 31)).toInt32).toInt8.toInt32).toInt8.toInt32) 393 11 (((zup sg 401 (sg 393 11) (((v.toUInt32 >>> ((24 : Int32).toUInt32 &&& Int32.toUInt32 31)).toInt32).toInt8.toInt32).toInt8.toInt32) 393 11) + 1)) 401 ((zup (zup sg 401 (sg 393 11) (((v.toUInt32 >>> ((24 : Int32).toUInt32 &&& Int32.toUInt32 31)).toInt32).toInt8.toInt32).toInt8.toInt32) 393 11 (((zup sg 401 (sg 393 11) (((v.toUInt32 >>> ((24 : Int32).toUInt32 &&& Int32.toUInt32 31)).toInt32).toInt8.toInt32).toInt8.toInt32) 393 11) + 1)) 393 11) (((v.toUInt32 >>> ((16 : Int32).toUInt32 &&& Int32.toUInt32 31)).toInt32).toInt8.toInt32).toInt8.toInt32) 393 11) + 1))) 401 1 ((zup (zup (zup (zup sg 401 (sg 393 11) (((v.toUInt32 >>> ((24 : Int32).toUInt32 &&& Int32.toUInt32 31)).toInt32).toInt8.toInt32).toInt8.toInt32) 393 11 (((zup sg 401 (sg 393 11) (((v.toUInt32 >>> ((24 : Int32).toUInt32 &&& Int32.toUInt32 31)).toInt32).toInt8.toInt32).toInt8.toInt32) 393 11) + 1)) 401 ((zup (zup sg 401 (sg 393 11) (((v.toUInt32 >>> ((24 : Int32).toUInt32 &&& Int32.toUInt32 31)).toInt32).toInt8.toInt32).toInt8.toInt32) 393 11 (((zup sg 401 (sg 393 11) (((v.toUInt32 >>> ((24 : Int32).toUInt32 &&& Int32.toUInt32 31)).toInt32).toInt8.toInt32).toInt8.toInt32) 393 11) + 1)) 393 11) (((v.toUInt32 >>> ((16 : Int32).toUInt32 &&& Int32.toUInt32 31)).toInt32).toInt8.toInt32).toInt8.toInt32) 393 11 (((zup (zup (zup sg 401 (sg 393 11) (((v.toUInt32 >>> ((24 : Int32).toUInt32 &&& Int32.toUInt32 31)).toInt32).toInt8.toInt32).toInt8.toInt32) 393 11 (((zup sg 401 (sg 393 11) (((v.toUInt32 >>> ((24 : Int32).toUInt32 &&& Int32.toUInt32 31)).toInt32).toInt8.toInt32).toInt8.toInt32) 393 11) + 1)) 401 ((zup (zup sg 401 (sg 393 11) (((v.toUInt32 >>> ((24 : Int32).toUInt32 &&& Int32.toUInt32 31)).toInt32).toInt8.toInt32).toInt8.toInt32) 393 11 (((zup sg 401 (sg 393 11) (((v.toUInt32 >>> ((24 : Int32).toUInt32 &&& Int32.toUInt32 31)).toInt32).toInt8.toInt32).toInt8.toInt32) 393 11) + 1)) 393 11) (((v.toUInt32 >>> ((16 : Int32).toUInt32 &&& Int32.toUInt32 31)).toInt32).toInt8.toInt32).toInt8.toInt32) 393 11) + 1)) 393 11), zOb (zN (zup (zup (zup (zup (zup sg 401 (sg 393 11) (((v.toUInt32 >>> ((24 : Int32).toUInt32 &&& Int32.toUInt32 31)).toInt32).toInt8.toInt32).toInt8.toInt32) 393 11 (((zup sg 401 (sg 393 11) (((v.toUInt32 >>> ((24 : Int32).toUInt32 &&& Int32.toUInt32 31)).toInt32).toInt8.toInt32).toInt8.toInt32) 393 11) + 1)) 401 ((zup (zup sg 401 (sg 393 11) (((v.toUInt32 >>> ((24 : Int32).toUInt32 &&& Int32.toUInt32 31)).toInt32).toInt8.toInt32).toInt8.toInt32) 393 11 (((zup sg 401 (sg 393 11) (((v.toUInt32 >>> ((24 : Int32).toUInt32 &&& Int32.toUInt32 31)).toInt32).toInt8.toInt32).toInt8.toInt32) 393 11) + 1)) 393 11) (((v.toUInt32 >>> ((16 : Int32).toUInt32 &&& Int32.toUInt32 31)).toInt32).toInt8.toInt32).toInt8.toInt32) 393 11 (((zup (zup (zup sg 401 (sg 393 11) (((v.toUInt32 >>> ((24 : Int32).toUInt32 &&& Int32.toUInt32 31)).toInt32).toInt8.toInt32).toInt8.toInt32) 393 11 (((zup sg 401 (sg 393 11) (((v.toUInt32 >>> ((24 : Int32).toUInt32 &&& Int32.toUInt32 31)).toInt32).toInt8.toInt32).toInt8.toInt32) 393 11) + 1)) 401 ((zup (zup sg 401 (sg 393 11) (((v.toUInt32 >>> ((24 : Int32).toUInt32 &&& Int32.toUInt32 31)).toInt32).toInt8.toInt32).toInt8.toInt32) 393 11 (((zup sg 401 (sg 393 11) (((v.toUInt32 >>> ((24 : Int32).toUInt32 &&& Int32.toUInt32 31)).toInt32).toInt8.toInt32).toInt8.toInt32) 393 11) + 1)) 393 11) (((v.toUInt32 >>> ((16 : Int32).toUInt32 &&& Int32.toUInt32 31)).toInt32).toInt8.toInt32).toInt8.toInt32) 393 11) + 1)) 401 ((zup (zup (zup (zup sg 401 (sg 393 11) (((v.toUInt32 >>> ((24 : Int32).toUInt32 &&& Int32.toUInt32 31)).toInt32).toInt8.toInt32).toInt8.toInt32) 393 11 (((zup sg 401 (sg 393 11) (((v.toUInt32 >>> ((24 : Int32).toUInt32 &&& Int32.toUInt32 31)).toInt32).toInt8.toInt32).toInt8.toInt32) 393 11) + 1)) 401 ((zup (zup sg 401 (sg 393 11) (((v.toUInt32 >>> ((24 : Int32).toUInt32 &&& Int32.toUInt32 31)).toInt32).toInt8.toInt32).toInt8.toInt32) 393 11 (((zup sg 401 (sg 393 11) (((v.toUInt32 >>> ((24 : Int32).toUInt32 &&& Int32.toUInt32 31)).toInt32).toInt8.toInt32).toInt8.toInt32) 393 11) + 1)) 393 11) (((v.toUInt32 >>> ((16 : Int32).toUInt32 &&& Int32.toUInt32 31)).toInt32).toInt8.toInt32).toInt8.toInt32) 393 11 (((zup (zup (zup sg 401 (sg 393 11) (((v.toUInt32 >>> ((24 : Int32).toUInt32 &&& Int32.toUInt32 31)).toInt32).toInt8.toInt32).toInt8.toInt32) 393 11 (((zup sg 401 (sg 393 11) (((v.toUInt32 >>> ((24 : Int32).toUInt32 &&& Int32.toUInt32 31)).toInt32).toInt8.toInt32).toInt8.toInt32) 393 11) + 1)) 401 ((zup (zup sg 401 (sg 393 11) (((v.toUInt32 >>> ((24 : Int32).toUInt32 &&& Int32.toUInt32 31)).toInt32).toInt8.toInt32).toInt8.toInt32) 393 11 (((zup sg 401 (sg 393 11) (((v.toUInt32 >>> ((24 : Int32).toUInt32 &&& Int32.toUInt32 31)).toInt32).toInt8.toInt32).toInt8.toInt32) 393 11) + 1)) 393 11) (((v.toUInt32 >>> ((16 : Int32).toUInt32 &&& Int32.toUInt32 31)).toInt32).toInt8.toInt32).toInt8.toInt32) 393 11) + 1)) 393 11) (((v.toUInt32 >>> ((8 : Int32).toUInt32 &&& Int32.toUInt32 31)).toInt32).toInt8.toInt32).toInt8.toInt32)) 393 10, zOb (zN (zup (zup (zup (zup (zup sg 401 (sg 393 11) (((v.toUInt32 >>> ((24 : Int32).toUInt32 &&& Int32.toUInt32 31)).toInt32).toInt8.toInt32).toInt8.toInt32) 393 11 (((zup sg 401 (sg 393 11) (((v.toUInt32 >>> ((24 : Int32).toUInt32 &&& Int32.toUInt32 31)).toInt32).toInt8.toInt32).toInt8.toInt32) 393 11) + 1)) 401 ((zup (zup sg 401 (sg 393 11) (((v.toUInt32 >>> ((24 : Int32).toUInt32 &&& Int32.toUInt32 31)).toInt32).toInt8.toInt32).toInt8.toInt32) 393 11 (((zup sg 401 (sg 393 11) (((v.toUInt32 >>> ((24 : Int32).toUInt32 &&& Int32.toUInt32 31)).toInt32).toInt8.toInt32).toInt8.toInt32) 393 11) + 1)) 393 11) (((v.toUInt32 >>> ((16 : Int32).toUInt32 &&& Int32.toUInt32 31)).toInt32).toInt8.toInt32).toInt8.toInt32) 393 11 (((zup (zup (zup sg 401 (sg 393 11) (((v.toUInt32 >>> ((24 : Int32).toUInt32 &&& Int32.toUInt32 31)).toInt32).toInt8.toInt32).toInt8.toInt32) 393 11 (((zup sg 401 (sg 393 11) (((v.toUInt32 >>> ((24 : Int32).toUInt32 &&& Int32.toUInt32 31)).toInt32).toInt8.toInt32).toInt8.toInt32) 393 11) + 1)) 401 ((zup (zup sg 401 (sg 393 11) (((v.toUInt32 >>> ((24 : Int32).toUInt32 &&& Int32.toUInt32 31)).toInt32).toInt8.toInt32).toInt8.toInt32) 393 11 (((zup sg 401 (sg 393 11) (((v.toUInt32 >>> ((24 : Int32).toUInt32 &&& Int32.toUInt32 31)).toInt32).toInt8.toInt32).toInt8.toInt32) 393 11) + 1)) 393 11) (((v.toUInt32 >>> ((16 : Int32).toUInt32 &&& Int32.toUInt32 31)).toInt32).toInt8.toInt32).toInt8.toInt32) 393 11) + 1)) 401 ((zup (zup (zup (zup sg 401 (sg 393 11) (((v.toUInt32 >>> ((24 : Int32).toUInt32 &&& Int32.toUInt32 31)).toInt32).toInt8.toInt32).toInt8.toInt32) 393 11 (((zup sg 401 (sg 393 11) (((v.toUInt32 >>> ((24 : Int32).toUInt32 &&& Int32.toUInt32 31)).toInt32).toInt8.toInt32).toInt8.toInt32) 393 11) + 1)) 401 ((zup (zup sg 401 (sg 393 11) (((v.toUInt32 >>> ((24 : Int32).toUInt32 &&& Int32.toUInt32 31)).toInt32).toInt8.toInt32).toInt8.toInt32) 393 11 (((zup sg 401 (sg 393 11) (((v.toUInt32 >>> ((24 : Int32).toUInt32 &&& Int32.toUInt32 31)).toInt32).toInt8.toInt32).toInt8.toInt32) 393 11) + 1)) 393 11) (((v.toUInt32 >>> ((16 : Int32).toUInt32 &&& Int32.toUInt32 31)).toInt32).toInt8.toInt32).toInt8.toInt32) 393 11 (((zup (zup (zup sg 401 (sg 393 11) (((v.toUInt32 >>> ((24 : Int32).toUInt32 &&& Int32.toUInt32 31)).toInt32).toInt8.toInt32).toInt8.toInt32) 393 11 (((zup sg 401 (sg 393 11) (((v.toUInt32 >>> ((24 : Int32).toUInt32 &&& Int32.toUInt32 31)).toInt32).toInt8.toInt32).toInt8.toInt32) 393 11) + 1)) 401 ((zup (zup sg 401 (sg 393 11) (((v.toUInt32 >>> ((24 : Int32).toUInt32 &&& Int32.toUInt32 31)).toInt32).toInt8.toInt32).toInt8.toInt32) 393 11 (((zup sg 401 (sg 393 11) (((v.toUInt32 >>> ((24 : Int32).toUInt32 &&& Int32.toUInt32 31)).toInt32).toInt8.toInt32).toInt8.toInt32) 393 11) + 1)) 393 11) (((v.toUInt32 >>> ((16 : Int32).toUInt32 &&& Int32.toUInt32 31)).toInt32).toInt8.toInt32).toInt8.toInt32) 393 11) + 1)) 393 11) (((v.toUInt32 >>> ((8 : Int32).toUInt32 &&& Int32.toUInt32 31)).toInt32).toInt8.toInt32).toInt8.toInt32)) 393 10]) rfl (zA ⟨zob_393, rfl⟩ (zA zob_393 (zA (zin_401 (i := (zup (zup (zup (zup sg 401 (sg 393 11) (((v.toUInt32 >>> ((24 : Int32).toUInt32 &&& Int32.toUInt32 31)).toInt32).toInt8.toInt32).toInt8.toInt32) 393 11 (((zup sg 401 (sg 393 11) (((v.toUInt32 >>> ((24 : Int32).toUInt32 &&& Int32.toUInt32 31)).toInt32).toInt8.toInt32).toInt8.toInt32) 393 11) + 1)) 401 ((zup (zup sg 401 (sg 393 11) (((v.toUInt32 >>> ((24 : Int32).toUInt32 &&& Int32.toUInt32 31)).toInt32).toInt8.toInt32).toInt8.toInt32) 393 11 (((zup sg 401 (sg 393 11) (((v.toUInt32 >>> ((24 : Int32).toUInt32 &&& Int32.toUInt32 31)).toInt32).toInt8.toInt32).toInt8.toInt32) 393 11) + 1)) 393 11) (((v.toUInt32 >>> ((16 : Int32).toUInt32 &&& Int32.toUInt32 31)).toInt32).toInt8.toInt32).toInt8.toInt32) 393 11 (((zup (zup (zup sg 401 (sg 393 11) (((v.toUInt32 >>> ((24 : Int32).toUInt32 &&& Int32.toUInt32 31)).toInt32).toInt8.toInt32).toInt8.toInt32) 393 11 (((zup sg 401 (sg 393 11) (((v.toUInt32 >>> ((24 : Int32).toUInt32 &&& Int32.toUInt32 31)).toInt32).toInt8.toInt32).toInt8.toInt32) 393 11) + 1)) 401 ((zup (zup sg 401 (sg 393 11) (((v.toUInt32 >>> ((24 : Int32).toUInt32 &&& Int32.toUInt32 31)).toInt32).toInt8.toInt32).toInt8.toInt32) 393 11 (((zup sg 401 (sg 393 11) (((v.toUInt32 >>> ((24 : Int32).toUInt32 &&& Int32.toUInt32 31)).toInt32).toInt8.toInt32).toInt8.toInt32) 393 11) + 1)) 393 11) (((v.toUInt32 >>> ((16 : Int32).toUInt32 &&& Int32.toUInt32 31)).toInt32).toInt8.toInt32).toInt8.toInt32) 393 11) + 1)) 393 11) (by (try simp only [zup_e]); grind) (by (try simp only [zup_e]); grind)) (zA zob_393 (zA zob_393 trivial))))) (fun c4 => ?_) (fun c4 => ?_)
        · exact absurd c4 (by decide)
        · skip
          refine zb_iflt (tgt := 36) bkMo_comes_7 bdMo_comes_4 (by decide) (lv' := [(2, .int (-8)), (0, .ref 393), (1, .int v)]) (st' := []) (h' := zN (zup (zup (zup (zup (zup (zup (zup (zup sg 401 (sg 393 11) (((v.toUInt32 >>> ((24 : Int32).toUInt32 &&& Int32.toUInt32 31)).toInt32).toInt8.toInt32).toInt8.toInt32) 393 11 (((zup sg 401 (sg 393 11) (((v.toUInt32 >>> ((24 : Int32).toUInt32 &&& Int32.toUInt32 31)).toInt32).toInt8.toInt32).toInt8.toInt32) 393 11) + 1)) 401 ((zup (zup sg 401 (sg 393 11) (((v.toUInt32 >>> ((24 : Int32).toUInt32 &&& Int32.toUInt32 31)).toInt32).toInt8.toInt32).toInt8.toInt32) 393 11 (((zup sg 401 (sg 393 11) (((v.toUInt32 >>> ((24 : Int32).toUInt32 &&& Int32.toUInt32 31)).toInt32).toInt8.toInt32).toInt8.toInt32) 393 11) + 1)) 393 11) (((v.toUInt32 >>> ((16 : Int32).toUInt32 &&& Int32.toUInt32 31)).toInt32).toInt8.toInt32).toInt8.toInt32) 393 11 (((zup (zup (zup sg 401 (sg 393 11) (((v.toUInt32 >>> ((24 : Int32).toUInt32 &&& Int32.toUInt32 31)).toInt32).toInt8.toInt32).toInt8.toInt32) 393 11 (((zup sg 401 (sg 393 11) (((v.toUInt32 >>> ((24 : Int32).toUInt32 &&& Int32.toUInt32 31)).toInt32).toInt8.toInt32).toInt8.toInt32) 393 11) + 1)) 401 ((zup (zup sg 401 (sg 393 11) (((v.toUInt32 >>> ((24 : Int32).toUInt32 &&& Int32.toUInt32 31)).toInt32).toInt8.toInt32).toInt8.toInt32) 393 11 (((zup sg 401 (sg 393 11) (((v.toUInt32 >>> ((24 : Int32).toUInt32 &&& Int32.toUInt32 31)).toInt32).toInt8.toInt32).toInt8.toInt32) 393 11) + 1)) 393 11) (((v.toUInt32 >>> ((16 : Int32).toUInt32 &&& Int32.toUInt32 31)).toInt32).toInt8.toInt32).toInt8.toInt32) 393 11) + 1)) 401 ((zup (zup (zup (zup sg 401 (sg 393 11) (((v.toUInt32 >>> ((24 : Int32).toUInt32 &&& Int32.toUInt32 31)).toInt32).toInt8.toInt32).toInt8.toInt32) 393 11 (((zup sg 401 (sg 393 11) (((v.toUInt32 >>> ((24 : Int32).toUInt32 &&& Int32.toUInt32 31)).toInt32).toInt8.toInt32).toInt8.toInt32) 393 11) + 1)) 401 ((zup (zup sg 401 (sg 393 11) (((v.toUInt32 >>> ((24 : Int32).toUInt32 &&& Int32.toUInt32 31)).toInt32).toInt8.toInt32).toInt8.toInt32) 393 11 (((zup sg 401 (sg 393 11) (((v.toUInt32 >>> ((24 : Int32).toUInt32 &&& Int32.toUInt32 31)).toInt32).toInt8.toInt32).toInt8.toInt32) 393 11) + 1)) 393 11) (((v.toUInt32 >>> ((16 : Int32).toUInt32 &&& Int32.toUInt32 31)).toInt32).toInt8.toInt32).toInt8.toInt32) 393 11 (((zup (zup (zup sg 401 (sg 393 11) (((v.toUInt32 >>> ((24 : Int32).toUInt32 &&& Int32.toUInt32 31)).toInt32).toInt8.toInt32).toInt8.toInt32) 393 11 (((zup sg 401 (sg 393 11) (((v.toUInt32 >>> ((24 : Int32).toUInt32 &&& Int32.toUInt32 31)).toInt32).toInt8.toInt32).toInt8.toInt32) 393 11) + 1)) 401 ((zup (zup sg 401 (sg 393 11) (((v.toUInt32 >>> ((24 : Int32).toUInt32 &&& Int32.toUInt32 31)).toInt32).toInt8.toInt32).toInt8.toInt32) 393 11 (((zup sg 401 (sg 393 11) (((v.toUInt32 >>> ((24 : Int32).toUInt32 &&& Int32.toUInt32 31)).toInt32).toInt8.toInt32).toInt8.toInt32) 393 11) + 1)) 393 11) (((v.toUInt32 >>> ((16 : Int32).toUInt32 &&& Int32.toUInt32 31)).toInt32).toInt8.toInt32).toInt8.toInt32) 393 11) + 1)) 393 11) (((v.toUInt32 >>> ((8 : Int32).toUInt32 &&& Int32.toUInt32 31)).toInt32).toInt8.toInt32).toInt8.toInt32) 393 11 (((zup (zup (zup (zup (zup sg 401 (sg 393 11) (((v.toUInt32 >>> ((24 : Int32).toUInt32 &&& Int32.toUInt32 31)).toInt32).toInt8.toInt32).toInt8.toInt32) 393 11 (((zup sg 401 (sg 393 11) (((v.toUInt32 >>> ((24 : Int32).toUInt32 &&& Int32.toUInt32 31)).toInt32).toInt8.toInt32).toInt8.toInt32) 393 11) + 1)) 401 ((zup (zup sg 401 (sg 393 11) (((v.toUInt32 >>> ((24 : Int32).toUInt32 &&& Int32.toUInt32 31)).toInt32).toInt8.toInt32).toInt8.toInt32) 393 11 (((zup sg 401 (sg 393 11) (((v.toUInt32 >>> ((24 : Int32).toUInt32 &&& Int32.toUInt32 31)).toInt32).toInt8.toInt32).toInt8.toInt32) 393 11) + 1)) 393 11) (((v.toUInt32 >>> ((16 : Int32).toUInt32 &&& Int32.toUInt32 31)).toInt32).toInt8.toInt32).toInt8.toInt32) 393 11 (((zup (zup (zup sg 401 (sg 393 11) (((v.toUInt32 >>> ((24 : Int32).toUInt32 &&& Int32.toUInt32 31)).toInt32).toInt8.toInt32).toInt8.toInt32) 393 11 (((zup sg 401 (sg 393 11) (((v.toUInt32 >>> ((24 : Int32).toUInt32 &&& Int32.toUInt32 31)).toInt32).toInt8.toInt32).toInt8.toInt32) 393 11) + 1)) 401 ((zup (zup sg 401 (sg 393 11) (((v.toUInt32 >>> ((24 : Int32).toUInt32 &&& Int32.toUInt32 31)).toInt32).toInt8.toInt32).toInt8.toInt32) 393 11 (((zup sg 401 (sg 393 11) (((v.toUInt32 >>> ((24 : Int32).toUInt32 &&& Int32.toUInt32 31)).toInt32).toInt8.toInt32).toInt8.toInt32) 393 11) + 1)) 393 11) (((v.toUInt32 >>> ((16 : Int32).toUInt32 &&& Int32.toUInt32 31)).toInt32).toInt8.toInt32).toInt8.toInt32) 393 11) + 1)) 401 ((zup (zup (zup (zup sg 401 (sg 393 11) (((v.toUInt32 >>> ((24 : Int32).toUInt32 &&& Int32.toUInt32 31)).toInt32).toInt8.toInt32).toInt8.toInt32) 393 11 (((zup sg 401 (sg 393 11) (((v.toUInt32 >>> ((24 : Int32).toUInt32 &&& Int32.toUInt32 31)).toInt32).toInt8.toInt32).toInt8.toInt32) 393 11) + 1)) 401 ((zup (zup sg 401 (sg 393 11) (((v.toUInt32 >>> ((24 : Int32).toUInt32 &&& Int32.toUInt32 31)).toInt32).toInt8.toInt32).toInt8.toInt32) 393 11 (((zup sg 401 (sg 393 11) (((v.toUInt32 >>> ((24 : Int32).toUInt32 &&& Int32.toUInt32 31)).toInt32).toInt8.toInt32).toInt8.toInt32) 393 11) + 1)) 393 11) (((v.toUInt32 >>> ((16 : Int32).toUInt32 &&& Int32.toUInt32 31)).toInt32).toInt8.toInt32).toInt8.toInt32) 393 11 (((zup (zup (zup sg 401 (sg 393 11) (((v.toUInt32 >>> ((24 : Int32).toUInt32 &&& Int32.toUInt32 31)).toInt32).toInt8.toInt32).toInt8.toInt32) 393 11 (((zup sg 401 (sg 393 11) (((v.toUInt32 >>> ((24 : Int32).toUInt32 &&& Int32.toUInt32 31)).toInt32).toInt8.toInt32).toInt8.toInt32) 393 11) + 1)) 401 ((zup (zup sg 401 (sg 393 11) (((v.toUInt32 >>> ((24 : Int32).toUInt32 &&& Int32.toUInt32 31)).toInt32).toInt8.toInt32).toInt8.toInt32) 393 11 (((zup sg 401 (sg 393 11) (((v.toUInt32 >>> ((24 : Int32).toUInt32 &&& Int32.toUInt32 31)).toInt32).toInt8.toInt32).toInt8.toInt32) 393 11) + 1)) 393 11) (((v.toUInt32 >>> ((16 : Int32).toUInt32 &&& Int32.toUInt32 31)).toInt32).toInt8.toInt32).toInt8.toInt32) 393 11) + 1)) 393 11) (((v.toUInt32 >>> ((8 : Int32).toUInt32 &&& Int32.toUInt32 31)).toInt32).toInt8.toInt32).toInt8.toInt32) 393 11) + 1)) 401 ((zup (zup (zup (zup (zup (zup sg 401 (sg 393 11) (((v.toUInt32 >>> ((24 : Int32).toUInt32 &&& Int32.toUInt32 31)).toInt32).toInt8.toInt32).toInt8.toInt32) 393 11 (((zup sg 401 (sg 393 11) (((v.toUInt32 >>> ((24 : Int32).toUInt32 &&& Int32.toUInt32 31)).toInt32).toInt8.toInt32).toInt8.toInt32) 393 11) + 1)) 401 ((zup (zup sg 401 (sg 393 11) (((v.toUInt32 >>> ((24 : Int32).toUInt32 &&& Int32.toUInt32 31)).toInt32).toInt8.toInt32).toInt8.toInt32) 393 11 (((zup sg 401 (sg 393 11) (((v.toUInt32 >>> ((24 : Int32).toUInt32 &&& Int32.toUInt32 31)).toInt32).toInt8.toInt32).toInt8.toInt32) 393 11) + 1)) 393 11) (((v.toUInt32 >>> ((16 : Int32).toUInt32 &&& Int32.toUInt32 31)).toInt32).toInt8.toInt32).toInt8.toInt32) 393 11 (((zup (zup (zup sg 401 (sg 393 11) (((v.toUInt32 >>> ((24 : Int32).toUInt32 &&& Int32.toUInt32 31)).toInt32).toInt8.toInt32).toInt8.toInt32) 393 11 (((zup sg 401 (sg 393 11) (((v.toUInt32 >>> ((24 : Int32).toUInt32 &&& Int32.toUInt32 31)).toInt32).toInt8.toInt32).toInt8.toInt32) 393 11) + 1)) 401 ((zup (zup sg 401 (sg 393 11) (((v.toUInt32 >>> ((24 : Int32).toUInt32 &&& Int32.toUInt32 31)).toInt32).toInt8.toInt32).toInt8.toInt32) 393 11 (((zup sg 401 (sg 393 11) (((v.toUInt32 >>> ((24 : Int32).toUInt32 &&& Int32.toUInt32 31)).toInt32).toInt8.toInt32).toInt8.toInt32) 393 11) + 1)) 393 11) (((v.toUInt32 >>> ((16 : Int32).toUInt32 &&& Int32.toUInt32 31)).toInt32).toInt8.toInt32).toInt8.toInt32) 393 11) + 1)) 401 ((zup (zup (zup (zup sg 401 (sg 393 11) (((v.toUInt32 >>> ((24 : Int32).toUInt32 &&& Int32.toUInt32 31)).toInt32).toInt8.toInt32).toInt8.toInt32) 393 11 (((zup sg 401 (sg 393 11) (((v.toUInt32 >>> ((24 : Int32).toUInt32 &&& Int32.toUInt32 31)).toInt32).toInt8.toInt32).toInt8.toInt32) 393 11) + 1)) 401 ((zup (zup sg 401 (sg 393 11) (((v.toUInt32 >>> ((24 : Int32).toUInt32 &&& Int32.toUInt32 31)).toInt32).toInt8.toInt32).toInt8.toInt32) 393 11 (((zup sg 401 (sg 393 11) (((v.toUInt32 >>> ((24 : Int32).toUInt32 &&& Int32.toUInt32 31)).toInt32).toInt8.toInt32).toInt8.toInt32) 393 11) + 1)) 393 11) (((v.toUInt32 >>> ((16 : Int32).toUInt32 &&& Int32.toUInt32 31)).toInt32).toInt8.toInt32).toInt8.toInt32) 393 11 (((zup (zup (zup sg 401 (sg 393 11) (((v.toUInt32 >>> ((24 : Int32).toUInt32 &&& Int32.toUInt32 31)).toInt32).toInt8.toInt32).toInt8.toInt32) 393 11 (((zup sg 401 (sg 393 11) (((v.toUInt32 >>> ((24 : Int32).toUInt32 &&& Int32.toUInt32 31)).toInt32).toInt8.toInt32).toInt8.toInt32) 393 11) + 1)) 401 ((zup (zup sg 401 (sg 393 11) (((v.toUInt32 >>> ((24 : Int32).toUInt32 &&& Int32.toUInt32 31)).toInt32).toInt8.toInt32).toInt8.toInt32) 393 11 (((zup sg 401 (sg 393 11) (((v.toUInt32 >>> ((24 : Int32).toUInt32 &&& Int32.toUInt32 31)).toInt32).toInt8.toInt32).toInt8.toInt32) 393 11) + 1)) 393 11) (((v.toUInt32 >>> ((16 : Int32).toUInt32 &&& Int32.toUInt32 31)).toInt32).toInt8.toInt32).toInt8.toInt32) 393 11) + 1)) 393 11) (((v.toUInt32 >>> ((8 : Int32).toUInt32 &&& Int32.toUInt32 31)).toInt32).toInt8.toInt32).toInt8.toInt32) 393 11 (((zup (zup (zup (zup (zup sg 401 (sg 393 11) (((v.toUInt32 >>> ((24 : Int32).toUInt32 &&& Int32.toUInt32 31)).toInt32).toInt8.toInt32).toInt8.toInt32) 393 11 (((zup sg 401 (sg 393 11) (((v.toUInt32 >>> ((24 : Int32).toUInt32 &&& Int32.toUInt32 31)).toInt32).toInt8.toInt32).toInt8.toInt32) 393 11) + 1)) 401 ((zup (zup sg 401 (sg 393 11) (((v.toUInt32 >>> ((24 : Int32).toUInt32 &&& Int32.toUInt32 31)).toInt32).toInt8.toInt32).toInt8.toInt32) 393 11 (((zup sg 401 (sg 393 11) (((v.toUInt32 >>> ((24 : Int32).toUInt32 &&& Int32.toUInt32 31)).toInt32).toInt8.toInt32).toInt8.toInt32) 393 11) + 1)) 393 11) (((v.toUInt32 >>> ((16 : Int32).toUInt32 &&& Int32.toUInt32 31)).toInt32).toInt8.toInt32).toInt8.toInt32) 393 11 (((zup (zup (zup sg 401 (sg 393 11) (((v.toUInt32 >>> ((24 : Int32).toUInt32 &&& Int32.toUInt32 31)).toInt32).toInt8.toInt32).toInt8.toInt32) 393 11 (((zup sg 401 (sg 393 11) (((v.toUInt32 >>> ((24 : Int32).toUInt32 &&& Int32.toUInt32 31)).toInt32).toInt8.toInt32).toInt8.toInt32) 393 11) + 1)) 401 ((zup (zup sg 401 (sg 393 11) (((v.toUInt32 >>> ((24 : Int32).toUInt32 &&& Int32.toUInt32 31)).toInt32).toInt8.toInt32).toInt8.toInt32) 393 11 (((zup sg 401 (sg 393 11) (((v.toUInt32 >>> ((24 : Int32).toUInt32 &&& Int32.toUInt32 31)).toInt32).toInt8.toInt32).toInt8.toInt32) 393 11) + 1)) 393 11) (((v.toUInt32 >>> ((16 : Int32).toUInt32 &&& Int32.toUInt32 31)).toInt32).toInt8.toInt32).toInt8.toInt32) 393 11) + 1)) 401 ((zup (zup (zup (zup sg 401 (sg 393 11) (((v.toUInt32 >>> ((24 : Int32).toUInt32 &&& Int32.toUInt32 31)).toInt32).toInt8.toInt32).toInt8.toInt32) 393 11 (((zup sg 401 (sg 393 11) (((v.toUInt32 >>> ((24 : Int32).toUInt32 &&& Int32.toUInt32 31)).toInt32).toInt8.toInt32).toInt8.toInt32) 393 11) + 1)) 401 ((zup (zup sg 401 (sg 393 11) (((v.toUInt32 >>> ((24 : Int32).toUInt32 &&& Int32.toUInt32 31)).toInt32).toInt8.toInt32).toInt8.toInt32) 393 11 (((zup sg 401 (sg 393 11) (((v.toUInt32 >>> ((24 : Int32).toUInt32 &&& Int32.toUInt32 31)).toInt32).toInt8.toInt32).toInt8.toInt32) 393 11) + 1)) 393 11) (((v.toUInt32 >>> ((16 : Int32).toUInt32 &&& Int32.toUInt32 31)).toInt32).toInt8.toInt32).toInt8.toInt32) 393 11 (((zup (zup (zup sg 401 (sg 393 11) (((v.toUInt32 >>> ((24 : Int32).toUInt32 &&& Int32.toUInt32 31)).toInt32).toInt8.toInt32).toInt8.toInt32) 393 11 (((zup sg 401 (sg 393 11) (((v.toUInt32 >>> ((24 : Int32).toUInt32 &&& Int32.toUInt32 31)).toInt32).toInt8.toInt32).toInt8.toInt32) 393 11) + 1)) 401 ((zup (zup sg 401 (sg 393 11) (((v.toUInt32 >>> ((24 : Int32).toUInt32 &&& Int32.toUInt32 31)).toInt32).toInt8.toInt32).toInt8.toInt32) 393 11 (((zup sg 401 (sg 393 11) (((v.toUInt32 >>> ((24 : Int32).toUInt32 &&& Int32.toUInt32 31)).toInt32).toInt8.toInt32).toInt8.toInt32) 393 11) + 1)) 393 11) (((v.toUInt32 >>> ((16 : Int32).toUInt32 &&& Int32.toUInt32 31)).toInt32).toInt8.toInt32).toInt8.toInt32) 393 11) + 1)) 393 11) (((v.toUInt32 >>> ((8 : Int32).toUInt32 &&& Int32.toUInt32 31)).toInt32).toInt8.toInt32).toInt8.toInt32) 393 11) + 1)) 393 11) (((v.toUInt32 >>> ((0 : Int32).toUInt32 &&& Int32.toUInt32 31)).toInt32).toInt8.toInt32).toInt8.toInt32) 393 11 (((zup (zup (zup (zup (zup (zup (zup sg 401 (sg 393 11) (((v.toUInt32 >>> ((24 : Int32).toUInt32 &&& Int32.toUInt32 31)).toInt32).toInt8.toInt32).toInt8.toInt32) 393 11 (((zup sg 401 (sg 393 11) (((v.toUInt32 >>> ((24 : Int32).toUInt32 &&& Int32.toUInt32 31)).toInt32).toInt8.toInt32).toInt8.toInt32) 393 11) + 1)) 401 ((zup (zup sg 401 (sg 393 11) (((v.toUInt32 >>> ((24 : Int32).toUInt32 &&& Int32.toUInt32 31)).toInt32).toInt8.toInt32).toInt8.toInt32) 393 11 (((zup sg 401 (sg 393 11) (((v.toUInt32 >>> ((24 : Int32).toUInt32 &&& Int32.toUInt32 31)).toInt32).toInt8.toInt32).toInt8.toInt32) 393 11) + 1)) 393 11) (((v.toUInt32 >>> ((16 : Int32).toUInt32 &&& Int32.toUInt32 31)).toInt32).toInt8.toInt32).toInt8.toInt32) 393 11 (((zup (zup (zup sg 401 (sg 393 11) (((v.toUInt32 >>> ((24 : Int32).toUInt32 &&& Int32.toUInt32 31)).toInt32).toInt8.toInt32).toInt8.toInt32) 393 11 (((zup sg 401 (sg 393 11) (((v.toUInt32 >>> ((24 : Int32).toUInt32 &&& Int32.toUInt32 31)).toInt32).toInt8.toInt32).toInt8.toInt32) 393 11) + 1)) 401 ((zup (zup sg 401 (sg 393 11) (((v.toUInt32 >>> ((24 : Int32).toUInt32 &&& Int32.toUInt32 31)).toInt32).toInt8.toInt32).toInt8.toInt32) 393 11 (((zup sg 401 (sg 393 11) (((v.toUInt32 >>> ((24 : Int32).toUInt32 &&& Int32.toUInt32 31)).toInt32).toInt8.toInt32).toInt8.toInt32) 393 11) + 1)) 393 11) (((v.toUInt32 >>> ((16 : Int32).toUInt32 &&& Int32.toUInt32 31)).toInt32).toInt8.toInt32).toInt8.toInt32) 393 11) + 1)) 401 ((zup (zup (zup (zup sg 401 (sg 393 11) (((v.toUInt32 >>> ((24 : Int32).toUInt32 &&& Int32.toUInt32 31)).toInt32).toInt8.toInt32).toInt8.toInt32) 393 11 (((zup sg 401 (sg 393 11) (((v.toUInt32 >>> ((24 : Int32).toUInt32 &&& Int32.toUInt32 31)).toInt32).toInt8.toInt32).toInt8.toInt32) 393 11) + 1)) 401 ((zup (zup sg 401 (sg 393 11) (((v.toUInt32 >>> ((24 : Int32).toUInt32 &&& Int32.toUInt32 31)).toInt32).toInt8.toInt32).toInt8.toInt32) 393 11 (((zup sg 401 (sg 393 11) (((v.toUInt32 >>> ((24 : Int32).toUInt32 &&& Int32.toUInt32 31)).toInt32).toInt8.toInt32).toInt8.toInt32) 393 11) + 1)) 393 11) (((v.toUInt32 >>> ((16 : Int32).toUInt32 &&& Int32.toUInt32 31)).toInt32).toInt8.toInt32).toInt8.toInt32) 393 11 (((zup (zup (zup sg 401 (sg 393 11) (((v.toUInt32 >>> ((24 : Int32).toUInt32 &&& Int32.toUInt32 31)).toInt32).toInt8.toInt32).toInt8.toInt32) 393 11 (((zup sg 401 (sg 393 11) (((v.toUInt32 >>> ((24 : Int32).toUInt32 &&& Int32.toUInt32 31)).toInt32).toInt8.toInt32).toInt8.toInt32) 393 11) + 1)) 401 ((zup (zup sg 401 (sg 393 11) (((v.toUInt32 >>> ((24 : Int32).toUInt32 &&& Int32.toUInt32 31)).toInt32).toInt8.toInt32).toInt8.toInt32) 393 11 (((zup sg 401 (sg 393 11) (((v.toUInt32 >>> ((24 : Int32).toUInt32 &&& Int32.toUInt32 31)).toInt32).toInt8.toInt32).toInt8.toInt32) 393 11) + 1)) 393 11) (((v.toUInt32 >>> ((16 : Int32).toUInt32 &&& Int32.toUInt32 31)).toInt32).toInt8.toInt32).toInt8.toInt32) 393 11) + 1)) 393 11) (((v.toUInt32 >>> ((8 : Int32).toUInt32 &&& Int32.toUInt32 31)).toInt32).toInt8.toInt32).toInt8.toInt32) 393 11 (((zup (zup (zup (zup (zup sg 401 (sg 393 11) (((v.toUInt32 >>> ((24 : Int32).toUInt32 &&& Int32.toUInt32 31)).toInt32).toInt8.toInt32).toInt8.toInt32) 393 11 (((zup sg 401 (sg 393 11) (((v.toUInt32 >>> ((24 : Int32).toUInt32 &&& Int32.toUInt32 31)).toInt32).toInt8.toInt32).toInt8.toInt32) 393 11) + 1)) 401 ((zup (zup sg 401 (sg 393 11) (((v.toUInt32 >>> ((24 : Int32).toUInt32 &&& Int32.toUInt32 31)).toInt32).toInt8.toInt32).toInt8.toInt32) 393 11 (((zup sg 401 (sg 393 11) (((v.toUInt32 >>> ((24 : Int32).toUInt32 &&& Int32.toUInt32 31)).toInt32).toInt8.toInt32).toInt8.toInt32) 393 11) + 1)) 393 11) (((v.toUInt32 >>> ((16 : Int32).toUInt32 &&& Int32.toUInt32 31)).toInt32).toInt8.toInt32).toInt8.toInt32) 393 11 (((zup (zup (zup sg 401 (sg 393 11) (((v.toUInt32 >>> ((24 : Int32).toUInt32 &&& Int32.toUInt32 31)).toInt32).toInt8.toInt32).toInt8.toInt32) 393 11 (((zup sg 401 (sg 393 11) (((v.toUInt32 >>> ((24 : Int32).toUInt32 &&& Int32.toUInt32 31)).toInt32).toInt8.toInt32).toInt8.toInt32) 393 11) + 1)) 401 ((zup (zup sg 401 (sg 393 11) (((v.toUInt32 >>> ((24 : Int32).toUInt32 &&& Int32.toUInt32 31)).toInt32).toInt8.toInt32).toInt8.toInt32) 393 11 (((zup sg 401 (sg 393 11) (((v.toUInt32 >>> ((24 : Int32).toUInt32 &&& Int32.toUInt32 31)).toInt32).toInt8.toInt32).toInt8.toInt32) 393 11) + 1)) 393 11) (((v.toUInt32 >>> ((16 : Int32).toUInt32 &&& Int32.toUInt32 31)).toInt32).toInt8.toInt32).toInt8.toInt32) 393 11) + 1)) 401 ((zup (zup (zup (zup sg 401 (sg 393 11) (((v.toUInt32 >>> ((24 : Int32).toUInt32 &&& Int32.toUInt32 31)).toInt32).toInt8.toInt32).toInt8.toInt32) 393 11 (((zup sg 401 (sg 393 11) (((v.toUInt32 >>> ((24 : Int32).toUInt32 &&& Int32.toUInt32 31)).toInt32).toInt8.toInt32).toInt8.toInt32) 393 11) + 1)) 401 ((zup (zup sg 401 (sg 393 11) (((v.toUInt32 >>> ((24 : Int32).toUInt32 &&& Int32.toUInt32 31)).toInt32).toInt8.toInt32).toInt8.toInt32) 393 11 (((zup sg 401 (sg 393 11) (((v.toUInt32 >>> ((24 : Int32).toUInt32 &&& Int32.toUInt32 31)).toInt32).toInt8.toInt32).toInt8.toInt32) 393 11) + 1)) 393 11) (((v.toUInt32 >>> ((16 : Int32).toUInt32 &&& Int32.toUInt32 31)).toInt32).toInt8.toInt32).toInt8.toInt32) 393 11 (((zup (zup (zup sg 401 (sg 393 11) (((v.toUInt32 >>> ((24 : Int32).toUInt32 &&& Int32.toUInt32 31)).toInt32).toInt8.toInt32).toInt8.toInt32) 393 11 (((zup sg 401 (sg 393 11) (((v.toUInt32 >>> ((24 : Int32).toUInt32 &&& Int32.toUInt32 31)).toInt32).toInt8.toInt32).toInt8.toInt32) 393 11) + 1)) 401 ((zup (zup sg 401 (sg 393 11) (((v.toUInt32 >>> ((24 : Int32).toUInt32 &&& Int32.toUInt32 31)).toInt32).toInt8.toInt32).toInt8.toInt32) 393 11 (((zup sg 401 (sg 393 11) (((v.toUInt32 >>> ((24 : Int32).toUInt32 &&& Int32.toUInt32 31)).toInt32).toInt8.toInt32).toInt8.toInt32) 393 11) + 1)) 393 11) (((v.toUInt32 >>> ((16 : Int32).toUInt32 &&& Int32.toUInt32 31)).toInt32).toInt8.toInt32).toInt8.toInt32) 393 11) + 1)) 393 11) (((v.toUInt32 >>> ((8 : Int32).toUInt32 &&& Int32.toUInt32 31)).toInt32).toInt8.toInt32).toInt8.toInt32) 393 11) + 1)) 401 ((zup (zup (zup (zup (zup (zup sg 401 (sg 393 11) (((v.toUInt32 >>> ((24 : Int32).toUInt32 &&& Int32.toUInt32 31)).toInt32).toInt8.toInt32).toInt8.toInt32) 393 11 (((zup sg 401 (sg 393 11) (((v.toUInt32 >>> ((24 : Int32).toUInt32 &&& Int32.toUInt32 31)).toInt32).toInt8.toInt32).toInt8.toInt32) 393 11) + 1)) 401 ((zup (zup sg 401 (sg 393 11) (((v.toUInt32 >>> ((24 : Int32).toUInt32 &&& Int32.toUInt32 31)).toInt32).toInt8.toInt32).toInt8.toInt32) 393 11 (((zup sg 401 (sg 393 11) (((v.toUInt32 >>> ((24 : Int32).toUInt32 &&& Int32.toUInt32 31)).toInt32).toInt8.toInt32).toInt8.toInt32) 393 11) + 1)) 393 11) (((v.toUInt32 >>> ((16 : Int32).toUInt32 &&& Int32.toUInt32 31)).toInt32).toInt8.toInt32).toInt8.toInt32) 393 11 (((zup (zup (zup sg 401 (sg 393 11) (((v.toUInt32 >>> ((24 : Int32).toUInt32 &&& Int32.toUInt32 31)).toInt32).toInt8.toInt32).toInt8.toInt32) 393 11 (((zup sg 401 (sg 393 11) (((v.toUInt32 >>> ((24 : Int32).toUInt32 &&& Int32.toUInt32 31)).toInt32).toInt8.toInt32).toInt8.toInt32) 393 11) + 1)) 401 ((zup (zup sg 401 (sg 393 11) (((v.toUInt32 >>> ((24 : Int32).toUInt32 &&& Int32.toUInt32 31)).toInt32).toInt8.toInt32).toInt8.toInt32) 393 11 (((zup sg 401 (sg 393 11) (((v.toUInt32 >>> ((24 : Int32).toUInt32 &&& Int32.toUInt32 31)).toInt32).toInt8.toInt32).toInt8.toInt32) 393 11) + 1)) 393 11) (((v.toUInt32 >>> ((16 : Int32).toUInt32 &&& Int32.toUInt32 31)).toInt32).toInt8.toInt32).toInt8.toInt32) 393 11) + 1)) 401 ((zup (zup (zup (zup sg 401 (sg 393 11) (((v.toUInt32 >>> ((24 : Int32).toUInt32 &&& Int32.toUInt32 31)).toInt32).toInt8.toInt32).toInt8.toInt32) 393 11 (((zup sg 401 (sg 393 11) (((v.toUInt32 >>> ((24 : Int32).toUInt32 &&& Int32.toUInt32 31)).toInt32).toInt8.toInt32).toInt8.toInt32) 393 11) + 1)) 401 ((zup (zup sg 401 (sg 393 11) (((v.toUInt32 >>> ((24 : Int32).toUInt32 &&& Int32.toUInt32 31)).toInt32).toInt8.toInt32).toInt8.toInt32) 393 11 (((zup sg 401 (sg 393 11) (((v.toUInt32 >>> ((24 : Int32).toUInt32 &&& Int32.toUInt32 31)).toInt32).toInt8.toInt32).toInt8.toInt32) 393 11) + 1)) 393 11) (((v.toUInt32 >>> ((16 : Int32).toUInt32 &&& Int32.toUInt32 31)).toInt32).toInt8.toInt32).toInt8.toInt32) 393 11 (((zup (zup (zup sg 401 (sg 393 11) (((v.toUInt32 >>> ((24 : Int32).toUInt32 &&& Int32.toUInt32 31)).toInt32).toInt8.toInt32).toInt8.toInt32) 393 11 (((zup sg 401 (sg 393 11) (((v.toUInt32 >>> ((24 : Int32).toUInt32 &&& Int32.toUInt32 31)).toInt32).toInt8.toInt32).toInt8.toInt32) 393 11) + 1)) 401 ((zup (zup sg 401 (sg 393 11) (((v.toUInt32 >>> ((24 : Int32).toUInt32 &&& Int32.toUInt32 31)).toInt32).toInt8.toInt32).toInt8.toInt32) 393 11 (((zup sg 401 (sg 393 11) (((v.toUInt32 >>> ((24 : Int32).toUInt32 &&& Int32.toUInt32 31)).toInt32).toInt8.toInt32).toInt8.toInt32) 393 11) + 1)) 393 11) (((v.toUInt32 >>> ((16 : Int32).toUInt32 &&& Int32.toUInt32 31)).toInt32).toInt8.toInt32).toInt8.toInt32) 393 11) + 1)) 393 11) (((v.toUInt32 >>> ((8 : Int32).toUInt32 &&& Int32.toUInt32 31)).toInt32).toInt8.toInt32).toInt8.toInt32) 393 11 (((zup (zup (zup (zup (zup sg 401 (sg 393 11) (((v.toUInt32 >>> ((24 : Int32).toUInt32 &&& Int32.toUInt32 31)).toInt32).toInt8.toInt32).toInt8.toInt32) 393 11 (((zup sg 401 (sg 393 11) (((v.toUInt32 >>> ((24 : Int32).toUInt32 &&& Int32.toUInt32 31)).toInt32).toInt8.toInt32).toInt8.toInt32) 393 11) + 1)) 401 ((zup (zup sg 401 (sg 393 11) (((v.toUInt32 >>> ((24 : Int32).toUInt32 &&& Int32.toUInt32 31)).toInt32).toInt8.toInt32).toInt8.toInt32) 393 11 (((zup sg 401 (sg 393 11) (((v.toUInt32 >>> ((24 : Int32).toUInt32 &&& Int32.toUInt32 31)).toInt32).toInt8.toInt32).toInt8.toInt32) 393 11) + 1)) 393 11) (((v.toUInt32 >>> ((16 : Int32).toUInt32 &&& Int32.toUInt32 31)).toInt32).toInt8.toInt32).toInt8.toInt32) 393 11 (((zup (zup (zup sg 401 (sg 393 11) (((v.toUInt32 >>> ((24 : Int32).toUInt32 &&& Int32.toUInt32 31)).toInt32).toInt8.toInt32).toInt8.toInt32) 393 11 (((zup sg 401 (sg 393 11) (((v.toUInt32 >>> ((24 : Int32).toUInt32 &&& Int32.toUInt32 31)).toInt32).toInt8.toInt32).toInt8.toInt32) 393 11) + 1)) 401 ((zup (zup sg 401 (sg 393 11) (((v.toUInt32 >>> ((24 : Int32).toUInt32 &&& Int32.toUInt32 31)).toInt32).toInt8.toInt32).toInt8.toInt32) 393 11 (((zup sg 401 (sg 393 11) (((v.toUInt32 >>> ((24 : Int32).toUInt32 &&& Int32.toUInt32 31)).toInt32).toInt8.toInt32).toInt8.toInt32) 393 11) + 1)) 393 11) (((v.toUInt32 >>> ((16 : Int32).toUInt32 &&& Int32.toUInt32 31)).toInt32).toInt8.toInt32).toInt8.toInt32) 393 11) + 1)) 401 ((zup (zup (zup (zup sg 401 (sg 393 11) (((v.toUInt32 >>> ((24 : Int32).toUInt32 &&& Int32.toUInt32 31)).toInt32).toInt8.toInt32).toInt8.toInt32) 393 11 (((zup sg 401 (sg 393 11) (((v.toUInt32 >>> ((24 : Int32).toUInt32 &&& Int32.toUInt32 31)).toInt32).toInt8.toInt32).toInt8.toInt32) 393 11) + 1)) 401 ((zup (zup sg 401 (sg 393 11) (((v.toUInt32 >>> ((24 : Int32).toUInt32 &&& Int32.toUInt32 31)).toInt32).toInt8.toInt32).toInt8.toInt32) 393 11 (((zup sg 401 (sg 393 11) (((v.toUInt32 >>> ((24 : Int32).toUInt32 &&& Int32.toUInt32 31)).toInt32).toInt8.toInt32).toInt8.toInt32) 393 11) + 1)) 393 11) (((v.toUInt32 >>> ((16 : Int32).toUInt32 &&& Int32.toUInt32 31)).toInt32).toInt8.toInt32).toInt8.toInt32) 393 11 (((zup (zup (zup sg 401 (sg 393 11) (((v.toUInt32 >>> ((24 : Int32).toUInt32 &&& Int32.toUInt32 31)).toInt32).toInt8.toInt32).toInt8.toInt32) 393 11 (((zup sg 401 (sg 393 11) (((v.toUInt32 >>> ((24 : Int32).toUInt32 &&& Int32.toUInt32 31)).toInt32).toInt8.toInt32).toInt8.toInt32) 393 11) + 1)) 401 ((zup (zup sg 401 (sg 393 11) (((v.toUInt32 >>> ((24 : Int32).toUInt32 &&& Int32.toUInt32 31)).toInt32).toInt8.toInt32).toInt8.toInt32) 393 11 (((zup sg 401 (sg 393 11) (((v.toUInt32 >>> ((24 : Int32).toUInt32 &&& Int32.toUInt32 31)).toInt32).toInt8.toInt32).toInt8.toInt32) 393 11) + 1)) 393 11) (((v.toUInt32 >>> ((16 : Int32).toUInt32 &&& Int32.toUInt32 31)).toInt32).toInt8.toInt32).toInt8.toInt32) 393 11) + 1)) 393 11) (((v.toUInt32 >>> ((8 : Int32).toUInt32 &&& Int32.toUInt32 31)).toInt32).toInt8.toInt32).toInt8.toInt32) 393 11) + 1)) 393 11) (((v.toUInt32 >>> ((0 : Int32).toUInt32 &&& Int32.toUInt32 31)).toInt32).toInt8.toInt32).toInt8.toInt32) 393 11) + 1))) (x := (-8)) (Ps := [zOb (zN (zup (zup (zup (zup (zup (zup sg 401 (sg 393 11) (((v.toUInt32 >>> ((24 : Int32).toUInt32 &&& Int32.toUInt32 31)).toInt32).toInt8.toInt32).toInt8.toInt32) 393 11 (((zup sg 401 (sg 393 11) (((v.toUInt32 >>> ((24 : Int32).toUInt32 &&& Int32.toUInt32 31)).toInt32).toInt8.toInt32).toInt8.toInt32) 393 11) + 1)) 401 ((zup (zup sg 401 (sg 393 11) (((v.toUInt32 >>> ((24 : Int32).toUInt32 &&& Int32.toUInt32 31)).toInt32).toInt8.toInt32).toInt8.toInt32) 393 11 (((zup sg 401 (sg 393 11) (((v.toUInt32 >>> ((24 : Int32).toUInt32 &&& Int32.toUInt32 31)).toInt32).toInt8.toInt32).toInt8.toInt32) 393 11) + 1)) 393 11) (((v.toUInt32 >>> ((16 : Int32).toUInt32 &&& Int32.toUInt32 31)).toInt32).toInt8.toInt32).toInt8.toInt32) 393 11 (((zup (zup (zup sg 401 (sg 393 11) (((v.toUInt32 >>> ((24 : Int32).toUInt32 &&& Int32.toUInt32 31)).toInt32).toInt8.toInt32).toInt8.toInt32) 393 11 (((zup sg 401 (sg 393 11) (((v.toUInt32 >>> ((24 : Int32).toUInt32 &&& Int32.toUInt32 31)).toInt32).toInt8.toInt32).toInt8.toInt32) 393 11) + 1)) 401 ((zup (zup sg 401 (sg 393 11) (((v.toUInt32 >>> ((24 : Int32).toUInt32 &&& Int32.toUInt32 31)).toInt32).toInt8.toInt32).toInt8.toInt32) 393 11 (((zup sg 401 (sg 393 11) (((v.toUInt32 >>> ((24 : Int32).toUInt32 &&& Int32.toUInt32 31)).toInt32).toInt8.toInt32).toInt8.toInt32) 393 11) + 1)) 393 11) (((v.toUInt32 >>> ((16 : Int32).toUInt32 &&& Int32.toUInt32 31)).toInt32).toInt8.toInt32).toInt8.toInt32) 393 11) + 1)) 401 ((zup (zup (zup (zup sg 401 (sg 393 11) (((v.toUInt32 >>> ((24 : Int32).toUInt32 &&& Int32.toUInt32 31)).toInt32).toInt8.toInt32).toInt8.toInt32) 393 11 (((zup sg 401 (sg 393 11) (((v.toUInt32 >>> ((24 : Int32).toUInt32 &&& Int32.toUInt32 31)).toInt32).toInt8.toInt32).toInt8.toInt32) 393 11) + 1)) 401 ((zup (zup sg 401 (sg 393 11) (((v.toUInt32 >>> ((24 : Int32).toUInt32 &&& Int32.toUInt32 31)).toInt32).toInt8.toInt32).toInt8.toInt32) 393 11 (((zup sg 401 (sg 393 11) (((v.toUInt32 >>> ((24 : Int32).toUInt32 &&& Int32.toUInt32 31)).toInt32).toInt8.toInt32).toInt8.toInt32) 393 11) + 1)) 393 11) (((v.toUInt32 >>> ((16 : Int32).toUInt32 &&& Int32.toUInt32 31)).toInt32).toInt8.toInt32).toInt8.toInt32) 393 11 (((zup (zup (zup sg 401 (sg 393 11) (((v.toUInt32 >>> ((24 : Int32).toUInt32 &&& Int32.toUInt32 31)).toInt32).toInt8.toInt32).toInt8.toInt32) 393 11 (((zup sg 401 (sg 393 11) (((v.toUInt32 >>> ((24 : Int32).toUInt32 &&& Int32.toUInt32 31)).toInt32).toInt8.toInt32).toInt8.toInt32) 393 11) + 1)) 401 ((zup (zup sg 401 (sg 393 11) (((v.toUInt32 >>> ((24 : Int32).toUInt32 &&& Int32.toUInt32 31)).toInt32).toInt8.toInt32).toInt8.toInt32) 393 11 (((zup sg 401 (sg 393 11) (((v.toUInt32 >>> ((24 : Int32).toUInt32 &&& Int32.toUInt32 31)).toInt32).toInt8.toInt32).toInt8.toInt32) 393 11) + 1)) 393 11) (((v.toUInt32 >>> ((16 : Int32).toUInt32 &&& Int32.toUInt32 31)).toInt32).toInt8.toInt32).toInt8.toInt32) 393 11) + 1)) 393 11) (((v.toUInt32 >>> ((8 : Int32).toUInt32 &&& Int32.toUInt32 31)).toInt32).toInt8.toInt32).toInt8.toInt32) 393 11 (((zup (zup (zup (zup (zup sg 401 (sg 393 11) (((v.toUInt32 >>> ((24 : Int32).toUInt32 &&& Int32.toUInt32 31)).toInt32).toInt8.toInt32).toInt8.toInt32) 393 11 (((zup sg 401 (sg 393 11) (((v.toUInt32 >>> ((24 : Int32).toUInt32 &&& Int32.toUInt32 31)).toInt32).toInt8.toInt32).toInt8.toInt32) 393 11) + 1)) 401 ((zup (zup sg 401 (sg 393 11) (((v.toUInt32 >>> ((24 : Int32).toUInt32 &&& Int32.toUInt32 31)).toInt32).toInt8.toInt32).toInt8.toInt32) 393 11 (((zup sg 401 (sg 393 11) (((v.toUInt32 >>> ((24 : Int32).toUInt32 &&& Int32.toUInt32 31)).toInt32).toInt8.toInt32).toInt8.toInt32) 393 11) + 1)) 393 11) (((v.toUInt32 >>> ((16 : Int32).toUInt32 &&& Int32.toUInt32 31)).toInt32).toInt8.toInt32).toInt8.toInt32) 393 11 (((zup (zup (zup sg 401 (sg 393 11) (((v.toUInt32 >>> ((24 : Int32).toUInt32 &&& Int32.toUInt32 31)).toInt32).toInt8.toInt32).toInt8.toInt32) 393 11 (((zup sg 401 (sg 393 11) (((v.toUInt32 >>> ((24 : Int32).toUInt32 &&& Int32.toUInt32 31)).toInt32).toInt8.toInt32).toInt8.toInt32) 393 11) + 1)) 401 ((zup (zup sg 401 (sg 393 11) (((v.toUInt32 >>> ((24 : Int32).toUInt32 &&& Int32.toUInt32 31)).toInt32).toInt8.toInt32).toInt8.toInt32) 393 11 (((zup sg 401 (sg 393 11) (((v.toUInt32 >>> ((24 : Int32).toUInt32 &&& Int32.toUInt32 31)).toInt32).toInt8.toInt32).toInt8.toInt32) 393 11) + 1)) 393 11) (((v.toUInt32 >>> ((16 : Int32).toUInt32 &&& Int32.toUInt32 31)).toInt32).toInt8.toInt32).toInt8.toInt32) 393 11) + 1)) 401 ((zup (zup (zup (zup sg 401 (sg 393 11) (((v.toUInt32 >>> ((24 : Int32).toUInt32 &&& Int32.toUInt32 31)).toInt32).toInt8.toInt32).toInt8.toInt32) 393 11 (((zup sg 401 (sg 393 11) (((v.toUInt32 >>> ((24 : Int32).toUInt32 &&& Int32.toUInt32 31)).toInt32).toInt8.toInt32).toInt8.toInt32) 393 11) + 1)) 401 ((zup (zup sg 401 (sg 393 11) (((v.toUInt32 >>> ((24 : Int32).toUInt32 &&& Int32.toUInt32 31)).toInt32).toInt8.toInt32).toInt8.toInt32) 393 11 (((zup sg 401 (sg 393 11) (((v.toUInt32 >>> ((24 : Int32).toUInt32 &&& Int32.toUInt32 31)).toInt32).toInt8.toInt32).toInt8.toInt32) 393 11) + 1)) 393 11) (((v.toUInt32 >>> ((16 : Int32).toUInt32 &&& Int32.toUInt32 31)).toInt32).toInt8.toInt32).toInt8.toInt32) 393 11 (((zup (zup (zup sg 401 (sg 393 11) (((v.toUInt32 >>> ((24 : Int32).toUInt32 &&& Int32.toUInt32 31)).toInt32).toInt8.toInt32).toInt8.toInt32) 393 11 (((zup sg 401 (sg 393 11) (((v.toUInt32 >>> ((24 : Int32).toUInt32 &&& Int32.toUInt32 31)).toInt32).toInt8.toInt32).toInt8.toInt32) 393 11) + 1)) 401 ((zup (zup sg 401 (sg 393 11) (((v.toUInt32 >>> ((24 : Int32).toUInt32 &&& Int32.toUInt32 31)).toInt32).toInt8.toInt32).toInt8.toInt32) 393 11 (((zup sg 401 (sg 393 11) (((v.toUInt32 >>> ((24 : Int32).toUInt32 &&& Int32.toUInt32 31)).toInt32).toInt8.toInt32).toInt8.toInt32) 393 11) + 1)) 393 11) (((v.toUInt32 >>> ((16 : Int32).toUInt32 &&& Int32.toUInt32 31)).toInt32).toInt8.toInt32).toInt8.toInt32) 393 11) + 1)) 393 11) (((v.toUInt32 >>> ((8 : Int32).toUInt32 &&& Int32.toUInt32 31)).toInt32).toInt8.toInt32).toInt8.toInt32) 393 11) + 1))) 393 10 ∧ (zN (zup (zup (zup (zup (zup (zup sg 401 (sg 393 11) (((v.toUInt32 >>> ((24 : Int32).toUInt32 &&& Int32.toUInt32 31)).toInt32).toInt8.toInt32).toInt8.toInt32) 393 11 (((zup sg 401 (sg 393 11) (((v.toUInt32 >>> ((24 : Int32).toUInt32 &&& Int32.toUInt32 31)).toInt32).toInt8.toInt32).toInt8.toInt32) 393 11) + 1)) 401 ((zup (zup sg 401 (sg 393 11) (((v.toUInt32 >>> ((24 : Int32).toUInt32 &&& Int32.toUInt32 31)).toInt32).toInt8.toInt32).toInt8.toInt32) 393 11 (((zup sg 401 (sg 393 11) (((v.toUInt32 >>> ((24 : Int32).toUInt32 &&& Int32.toUInt32 31)).toInt32).toInt8.toInt32).toInt8.toInt32) 393 11) + 1)) 393 11) (((v.toUInt32 >>> ((16 : Int32).toUInt32 &&& Int32.toUInt32 31)).toInt32).toInt8.toInt32).toInt8.toInt32) 393 11 (((zup (zup (zup sg 401 (sg 393 11) (((v.toUInt32 >>> ((24 : Int32).toUInt32 &&& Int32.toUInt32 31)).toInt32).toInt8.toInt32).toInt8.toInt32) 393 11 (((zup sg 401 (sg 393 11) (((v.toUInt32 >>> ((24 : Int32).toUInt32 &&& Int32.toUInt32 31)).toInt32).toInt8.toInt32).toInt8.toInt32) 393 11) + 1)) 401 ((zup (zup sg 401 (sg 393 11) (((v.toUInt32 >>> ((24 : Int32).toUInt32 &&& Int32.toUInt32 31)).toInt32).toInt8.toInt32).toInt8.toInt32) 393 11 (((zup sg 401 (sg 393 11) (((v.toUInt32 >>> ((24 : Int32).toUInt32 &&& Int32.toUInt32 31)).toInt32).toInt8.toInt32).toInt8.toInt32) 393 11) + 1)) 393 11) (((v.toUInt32 >>> ((16 : Int32).toUInt32 &&& Int32.toUInt32 31)).toInt32).toInt8.toInt32).toInt8.toInt32) 393 11) + 1)) 401 ((zup (zup (zup (zup sg 401 (sg 393 11) (((v.toUInt32 >>> ((24 : Int32).toUInt32 &&& Int32.toUInt32 31)).toInt32).toInt8.toInt32).toInt8.toInt32) 393 11 (((zup sg 401 (sg 393 11) (((v.toUInt32 >>> ((24 : Int32).toUInt32 &&& Int32.toUInt32 31)).toInt32).toInt8.toInt32).toInt8.toInt32) 393 11) + 1)) 401 ((zup (zup sg 401 (sg 393 11) (((v.toUInt32 >>> ((24 : Int32).toUInt32 &&& Int32.toUInt32 31)).toInt32).toInt8.toInt32).toInt8.toInt32) 393 11 (((zup sg 401 (sg 393 11) (((v.toUInt32 >>> ((24 : Int32).toUInt32 &&& Int32.toUInt32 31)).toInt32).toInt8.toInt32).toInt8.toInt32) 393 11) + 1)) 393 11) (((v.toUInt32 >>> ((16 : Int32).toUInt32 &&& Int32.toUInt32 31)).toInt32).toInt8.toInt32).toInt8.toInt32) 393 11 (((zup (zup (zup sg 401 (sg 393 11) (((v.toUInt32 >>> ((24 : Int32).toUInt32 &&& Int32.toUInt32 31)).toInt32).toInt8.toInt32).toInt8.toInt32) 393 11 (((zup sg 401 (sg 393 11) (((v.toUInt32 >>> ((24 : Int32).toUInt32 &&& Int32.toUInt32 31)).toInt32).toInt8.toInt32).toInt8.toInt32) 393 11) + 1)) 401 ((zup (zup sg 401 (sg 393 11) (((v.toUInt32 >>> ((24 : Int32).toUInt32 &&& Int32.toUInt32 31)).toInt32).toInt8.toInt32).toInt8.toInt32) 393 11 (((zup sg 401 (sg 393 11) (((v.toUInt32 >>> ((24 : Int32).toUInt32 &&& Int32.toUInt32 31)).toInt32).toInt8.toInt32).toInt8.toInt32) 393 11) + 1)) 393 11) (((v.toUInt32 >>> ((16 : Int32).toUInt32 &&& Int32.toUInt32 31)).toInt32).toInt8.toInt32).toInt8.toInt32) 393 11) + 1)) 393 11) (((v.toUInt32 >>> ((8 : Int32).toUInt32 &&& Int32.toUInt32 31)).toInt32).toInt8.toInt32).toInt8.toInt32) 393 11 (((zup (zup (zup (zup (zup sg 401 (sg 393 11) (((v.toUInt32 >>> ((24 : Int32).toUInt32 &&& Int32.toUInt32 31)).toInt32).toInt8.toInt32).toInt8.toInt32) 393 11 (((zup sg 401 (sg 393 11) (((v.toUInt32 >>> ((24 : Int32).toUInt32 &&& Int32.toUInt32 31)).toInt32).toInt8.toInt32).toInt8.toInt32) 393 11) + 1)) 401 ((zup (zup sg 401 (sg 393 11) (((v.toUInt32 >>> ((24 : Int32).toUInt32 &&& Int32.toUInt32 31)).toInt32).toInt8.toInt32).toInt8.toInt32) 393 11 (((zup sg 401 (sg 393 11) (((v.toUInt32 >>> ((24 : Int32).toUInt32 &&& Int32.toUInt32 31)).toInt32).toInt8.toInt32).toInt8.toInt32) 393 11) + 1)) 393 11) (((v.toUInt32 >>> ((16 : Int32).toUInt32 &&& Int32.toUInt32 31)).toInt32).toInt8.toInt32).toInt8.toInt32) 393 11 (((zup (zup (zup sg 401 (sg 393 11) (((v.toUInt32 >>> ((24 : Int32).toUInt32 &&& Int32.toUInt32 31)).toInt32).toInt8.toInt32).toInt8.toInt32) 393 11 (((zup sg 401 (sg 393 11) (((v.toUInt32 >>> ((24 : Int32).toUInt32 &&& Int32.toUInt32 31)).toInt32).toInt8.toInt32).toInt8.toInt32) 393 11) + 1)) 401 ((zup (zup sg 401 (sg 393 11) (((v.toUInt32 >>> ((24 : Int32).toUInt32 &&& Int32.toUInt32 31)).toInt32).toInt8.toInt32).toInt8.toInt32) 393 11 (((zup sg 401 (sg 393 11) (((v.toUInt32 >>> ((24 : Int32).toUInt32 &&& Int32.toUInt32 31)).toInt32).toInt8.toInt32).toInt8.toInt32) 393 11) + 1)) 393 11) (((v.toUInt32 >>> ((16 : Int32).toUInt32 &&& Int32.toUInt32 31)).toInt32).toInt8.toInt32).toInt8.toInt32) 393 11) + 1)) 401 ((zup (zup (zup (zup sg 401 (sg 393 11) (((v.toUInt32 >>> ((24 : Int32).toUInt32 &&& Int32.toUInt32 31)).toInt32).toInt8.toInt32).toInt8.toInt32) 393 11 (((zup sg 401 (sg 393 11) (((v.toUInt32 >>> ((24 : Int32).toUInt32 &&& Int32.toUInt32 31)).toInt32).toInt8.toInt32).toInt8.toInt32) 393 11) + 1)) 401 ((zup (zup sg 401 (sg 393 11) (((v.toUInt32 >>> ((24 : Int32).toUInt32 &&& Int32.toUInt32 31)).toInt32).toInt8.toInt32).toInt8.toInt32) 393 11 (((zup sg 401 (sg 393 11) (((v.toUInt32 >>> ((24 : Int32).toUInt32 &&& Int32.toUInt32 31)).toInt32).toInt8.toInt32).toInt8.toInt32) 393 11) + 1)) 393 11) (((v.toUInt32 >>> ((16 : Int32).toUInt32 &&& Int32.toUInt32 31)).toInt32).toInt8.toInt32).toInt8.toInt32) 393 11 (((zup (zup (zup sg 401 (sg 393 11) (((v.toUInt32 >>> ((24 : Int32).toUInt32 &&& Int32.toUInt32 31)).toInt32).toInt8.toInt32).toInt8.toInt32) 393 11 (((zup sg 401 (sg 393 11) (((v.toUInt32 >>> ((24 : Int32).toUInt32 &&& Int32.toUInt32 31)).toInt32).toInt8.toInt32).toInt8.toInt32) 393 11) + 1)) 401 ((zup (zup sg 401 (sg 393 11) (((v.toUInt32 >>> ((24 : Int32).toUInt32 &&& Int32.toUInt32 31)).toInt32).toInt8.toInt32).toInt8.toInt32) 393 11 (((zup sg 401 (sg 393 11) (((v.toUInt32 >>> ((24 : Int32).toUInt32 &&& Int32.toUInt32 31)).toInt32).toInt8.toInt32).toInt8.toInt32) 393 11) + 1)) 393 11) (((v.toUInt32 >>> ((16 : Int32).toUInt32 &&& Int32.toUInt32 31)).toInt32).toInt8.toInt32).toInt8.toInt32) 393 11) + 1)) 393 11) (((v.toUInt32 >>> ((8 : Int32).toUInt32 &&& Int32.toUInt32 31)).toInt32).toInt8.toInt32).toInt8.toInt32) 393 11) + 1))).2.2 393 10 = true, zOb (zN (zup (zup (zup (zup (zup (zup sg 401 (sg 393 11) (((v.toUInt32 >>> ((24 : Int32).toUInt32 &&& Int32.toUInt32 31)).toInt32).toInt8.toInt32).toInt8.toInt32) 393 11 (((zup sg 401 (sg 393 11) (((v.toUInt32 >>> ((24 : Int32).toUInt32 &&& Int32.toUInt32 31)).toInt32).toInt8.toInt32).toInt8.toInt32) 393 11) + 1)) 401 ((zup (zup sg 401 (sg 393 11) (((v.toUInt32 >>> ((24 : Int32).toUInt32 &&& Int32.toUInt32 31)).toInt32).toInt8.toInt32).toInt8.toInt32) 393 11 (((zup sg 401 (sg 393 11) (((v.toUInt32 >>> ((24 : Int32).toUInt32 &&& Int32.toUInt32 31)).toInt32).toInt8.toInt32).toInt8.toInt32) 393 11) + 1)) 393 11) (((v.toUInt32 >>> ((16 : Int32).toUInt32 &&& Int32.toUInt32 31)).toInt32).toInt8.toInt32).toInt8.toInt32) 393 11 (((zup (zup (zup sg 401 (sg 393 11) (((v.toUInt32 >>> ((24 : Int32).toUInt32 &&& Int32.toUInt32 31)).toInt32).toInt8.toInt32).toInt8.toInt32) 393 11 (((zup sg 401 (sg 393 11) (((v.toUInt32 >>> ((24 : Int32).toUInt32 &&& Int32.toUInt32 31)).toInt32).toInt8.toInt32).toInt8.toInt32) 393 11) + 1)) 401 ((zup (zup sg 401 (sg 393 11) (((v.toUInt32 >>> ((24 : Int32).toUInt32 &&& Int32.toUInt32 31)).toInt32).toInt8.toInt32).toInt8.toInt32) 393 11 (((zup sg 401 (sg 393 11) (((v.toUInt32 >>> ((24 : Int32).toUInt32 &&& Int32.toUInt32 31)).toInt32).toInt8.toInt32).toInt8.toInt32) 393 11) + 1)) 393 11) (((v.toUInt32 >>> ((16 : Int32).toUInt32 &&& Int32.toUInt32 31)).toInt32).toInt8.toInt32).toInt8.toInt32) 393 11) + 1)) 401 ((zup (zup (zup (zup sg 401 (sg 393 11) (((v.toUInt32 >>> ((24 : Int32).toUInt32 &&& Int32.toUInt32 31)).toInt32).toInt8.toInt32).toInt8.toInt32) 393 11 (((zup sg 401 (sg 393 11) (((v.toUInt32 >>> ((24 : Int32).toUInt32 &&& Int32.toUInt32 31)).toInt32).toInt8.toInt32).toInt8.toInt32) 393 11) + 1)) 401 ((zup (zup sg 401 (sg 393 11) (((v.toUInt32 >>> ((24 : Int32).toUInt32 &&& Int32.toUInt32 31)).toInt32).toInt8.toInt32).toInt8.toInt32) 393 11 (((zup sg 401 (sg 393 11) (((v.toUInt32 >>> ((24 : Int32).toUInt32 &&& Int32.toUInt32 31)).toInt32).toInt8.toInt32).toInt8.toInt32) 393 11) + 1)) 393 11) (((v.toUInt32 >>> ((16 : Int32).toUInt32 &&& Int32.toUInt32 31)).toInt32).toInt8.toInt32).toInt8.toInt32) 393 11 (((zup (zup (zup sg 401 (sg 393 11) (((v.toUInt32 >>> ((24 : Int32).toUInt32 &&& Int32.toUInt32 31)).toInt32).toInt8.toInt32).toInt8.toInt32) 393 11 (((zup sg 401 (sg 393 11) (((v.toUInt32 >>> ((24 : Int32).toUInt32 &&& Int32.toUInt32 31)).toInt32).toInt8.toInt32).toInt8.toInt32) 393 11) + 1)) 401 ((zup (zup sg 401 (sg 393 11) (((v.toUInt32 >>> ((24 : Int32).toUInt32 &&& Int32.toUInt32 31)).toInt32).toInt8.toInt32).toInt8.toInt32) 393 11 (((zup sg 401 (sg 393 11) (((v.toUInt32 >>> ((24 : Int32).toUInt32 &&& Int32.toUInt32 31)).toInt32).toInt8.toInt32).toInt8.toInt32) 393 11) + 1)) 393 11) (((v.toUInt32 >>> ((16 : Int32).toUInt32 &&& Int32.toUInt32 31)).toInt32).toInt8.toInt32).toInt8.toInt32) 393 11) + 1)) 393 11) (((v.toUInt32 >>> ((8 : Int32).toUInt32 &&& Int32.toUInt32 31)).toInt32).toInt8.toInt32).toInt8.toInt32) 393 11 (((zup (zup (zup (zup (zup sg 401 (sg 393 11) (((v.toUInt32 >>> ((24 : Int32).toUInt32 &&& Int32.toUInt32 31)).toInt32).toInt8.toInt32).toInt8.toInt32) 393 11 (((zup sg 401 (sg 393 11) (((v.toUInt32 >>> ((24 : Int32).toUInt32 &&& Int32.toUInt32 31)).toInt32).toInt8.toInt32).toInt8.toInt32) 393 11) + 1)) 401 ((zup (zup sg 401 (sg 393 11) (((v.toUInt32 >>> ((24 : Int32).toUInt32 &&& Int32.toUInt32 31)).toInt32).toInt8.toInt32).toInt8.toInt32) 393 11 (((zup sg 401 (sg 393 11) (((v.toUInt32 >>> ((24 : Int32).toUInt32 &&& Int32.toUInt32 31)).toInt32).toInt8.toInt32).toInt8.toInt32) 393 11) + 1)) 393 11) (((v.toUInt32 >>> ((16 : Int32).toUInt32 &&& Int32.toUInt32 31)).toInt32).toInt8.toInt32).toInt8.toInt32) 393 11 (((zup (zup (zup sg 401 (sg 393 11) (((v.toUInt32 >>> ((24 : Int32).toUInt32 &&& Int32.toUInt32 31)).toInt32).toInt8.toInt32).toInt8.toInt32) 393 11 (((zup sg 401 (sg 393 11) (((v.toUInt32 >>> ((24 : Int32).toUInt32 &&& Int32.toUInt32 31)).toInt32).toInt8.toInt32).toInt8.toInt32) 393 11) + 1)) 401 ((zup (zup sg 401 (sg 393 11) (((v.toUInt32 >>> ((24 : Int32).toUInt32 &&& Int32.toUInt32 31)).toInt32).toInt8.toInt32).toInt8.toInt32) 393 11 (((zup sg 401 (sg 393 11) (((v.toUInt32 >>> ((24 : Int32).toUInt32 &&& Int32.toUInt32 31)).toInt32).toInt8.toInt32).toInt8.toInt32) 393 11) + 1)) 393 11) (((v.toUInt32 >>> ((16 : Int32).toUInt32 &&& Int32.toUInt32 31)).toInt32).toInt8.toInt32).toInt8.toInt32) 393 11) + 1)) 401 ((zup (zup (zup (zup sg 401 (sg 393 11) (((v.toUInt32 >>> ((24 : Int32).toUInt32 &&& Int32.toUInt32 31)).toInt32).toInt8.toInt32).toInt8.toInt32) 393 11 (((zup sg 401 (sg 393 11) (((v.toUInt32 >>> ((24 : Int32).toUInt32 &&& Int32.toUInt32 31)).toInt32).toInt8.toInt32).toInt8.toInt32) 393 11) + 1)) 401 ((zup (zup sg 401 (sg 393 11) (((v.toUInt32 >>> ((24 : Int32).toUInt32 &&& Int32.toUInt32 31)).toInt32).toInt8.toInt32).toInt8.toInt32) 393 11 (((zup sg 401 (sg 393 11) (((v.toUInt32 >>> ((24 : Int32).toUInt32 &&& Int32.toUInt32 31)).toInt32).toInt8.toInt32).toInt8.toInt32) 393 11) + 1)) 393 11) (((v.toUInt32 >>> ((16 : Int32).toUInt32 &&& Int32.toUInt32 31)).toInt32).toInt8.toInt32).toInt8.toInt32) 393 11 (((zup (zup (zup sg 401 (sg 393 11) (((v.toUInt32 >>> ((24 : Int32).toUInt32 &&& Int32.toUInt32 31)).toInt32).toInt8.toInt32).toInt8.toInt32) 393 11 (((zup sg 401 (sg 393 11) (((v.toUInt32 >>> ((24 : Int32).toUInt32 &&& Int32.toUInt32 31)).toInt32).toInt8.toInt32).toInt8.toInt32) 393 11) + 1)) 401 ((zup (zup sg 401 (sg 393 11) (((v.toUInt32 >>> ((24 : Int32).toUInt32 &&& Int32.toUInt32 31)).toInt32).toInt8.toInt32).toInt8.toInt32) 393 11 (((zup sg 401 (sg 393 11) (((v.toUInt32 >>> ((24 : Int32).toUInt32 &&& Int32.toUInt32 31)).toInt32).toInt8.toInt32).toInt8.toInt32) 393 11) + 1)) 393 11) (((v.toUInt32 >>> ((16 : Int32).toUInt32 &&& Int32.toUInt32 31)).toInt32).toInt8.toInt32).toInt8.toInt32) 393 11) + 1)) 393 11) (((v.toUInt32 >>> ((8 : Int32).toUInt32 &&& Int32.toUInt32 31)).toInt32).toInt8.toInt32).toInt8.toInt32) 393 11) + 1))) 393 10, zIn (zN (zup (zup (zup (zup (zup (zup sg 401 (sg 393 11) (((v.toUInt32 >>> ((24 : Int32).toUInt32 &&& Int32.toUInt32 31)).toInt32).toInt8.toInt32).toInt8.toInt32) 393 11 (((zup sg 401 (sg 393 11) (((v.toUInt32 >>> ((24 : Int32).toUInt32 &&& Int32.toUInt32 31)).toInt32).toInt8.toInt32).toInt8.toInt32) 393 11) + 1)) 401 ((zup (zup sg 401 (sg 393 11) (((v.toUInt32 >>> ((24 : Int32).toUInt32 &&& Int32.toUInt32 31)).toInt32).toInt8.toInt32).toInt8.toInt32) 393 11 (((zup sg 401 (sg 393 11) (((v.toUInt32 >>> ((24 : Int32).toUInt32 &&& Int32.toUInt32 31)).toInt32).toInt8.toInt32).toInt8.toInt32) 393 11) + 1)) 393 11) (((v.toUInt32 >>> ((16 : Int32).toUInt32 &&& Int32.toUInt32 31)).toInt32).toInt8.toInt32).toInt8.toInt32) 393 11 (((zup (zup (zup sg 401 (sg 393 11) (((v.toUInt32 >>> ((24 : Int32).toUInt32 &&& Int32.toUInt32 31)).toInt32).toInt8.toInt32).toInt8.toInt32) 393 11 (((zup sg 401 (sg 393 11) (((v.toUInt32 >>> ((24 : Int32).toUInt32 &&& Int32.toUInt32 31)).toInt32).toInt8.toInt32).toInt8.toInt32) 393 11) + 1)) 401 ((zup (zup sg 401 (sg 393 11) (((v.toUInt32 >>> ((24 : Int32).toUInt32 &&& Int32.toUInt32 31)).toInt32).toInt8.toInt32).toInt8.toInt32) 393 11 (((zup sg 401 (sg 393 11) (((v.toUInt32 >>> ((24 : Int32).toUInt32 &&& Int32.toUInt32 31)).toInt32).toInt8.toInt32).toInt8.toInt32) 393 11) + 1)) 393 11) (((v.toUInt32 >>> ((16 : Int32).toUInt32 &&& Int32.toUInt32 31)).toInt32).toInt8.toInt32).toInt8.toInt32) 393 11) + 1)) 401 ((zup (zup (zup (zup sg 401 (sg 393 11) (((v.toUInt32 >>> ((24 : Int32).toUInt32 &&& Int32.toUInt32 31)).toInt32).toInt8.toInt32).toInt8.toInt32) 393 11 (((zup sg 401 (sg 393 11) (((v.toUInt32 >>> ((24 : Int32).toUInt32 &&& Int32.toUInt32 31)).toInt32).toInt8.toInt32).toInt8.toInt32) 393 11) + 1)) 401 ((zup (zup sg 401 (sg 393 11) (((v.toUInt32 >>> ((24 : Int32).toUInt32 &&& Int32.toUInt32 31)).toInt32).toInt8.toInt32).toInt8.toInt32) 393 11 (((zup sg 401 (sg 393 11) (((v.toUInt32 >>> ((24 : Int32).toUInt32 &&& Int32.toUInt32 31)).toInt32).toInt8.toInt32).toInt8.toInt32) 393 11) + 1)) 393 11) (((v.toUInt32 >>> ((16 : Int32).toUInt32 &&& Int32.toUInt32 31)).toInt32).toInt8.toInt32).toInt8.toInt32) 393 11 (((zup (zup (zup sg 401 (sg 393 11) (((v.toUInt32 >>> ((24 : Int32).toUInt32 &&& Int32.toUInt32 31)).toInt32).toInt8.toInt32).toInt8.toInt32) 393 11 (((zup sg 401 (sg 393 11) (((v.toUInt32 >>> ((24 : Int32).toUInt32 &&& Int32.toUInt32 31)).toInt32).toInt8.toInt32).toInt8.toInt32) 393 11) + 1)) 401 ((zup (zup sg 401 (sg 393 11) (((v.toUInt32 >>> ((24 : Int32).toUInt32 &&& Int32.toUInt32 31)).toInt32).toInt8.toInt32).toInt8.toInt32) 393 11 (((zup sg 401 (sg 393 11) (((v.toUInt32 >>> ((24 : Int32).toUInt32 &&& Int32.toUInt32 31)).toInt32).toInt8.toInt32).toInt8.toInt32) 393 11) + 1)) 393 11) (((v.toUInt32 >>> ((16 : Int32).toUInt32 &&& Int32.toUInt32 31)).toInt32).toInt8.toInt32).toInt8.toInt32) 393 11) + 1)) 393 11) (((v.toUInt32 >>> ((8 : Int32).toUInt32 &&& Int32.toUInt32 31)).toInt32).toInt8.toInt32).toInt8.toInt32) 393 11 (((zup (zup (zup (zup (zup sg 401 (sg 393 11) (((v.toUInt32 >>> ((24 : Int32).toUInt32 &&& Int32.toUInt32 31)).toInt32).toInt8.toInt32).toInt8.toInt32) 393 11 (((zup sg 401 (sg 393 11) (((v.toUInt32 >>> ((24 : Int32).toUInt32 &&& Int32.toUInt32 31)).toInt32).toInt8.toInt32).toInt8.toInt32) 393 11) + 1)) 401 ((zup (zup sg 401 (sg 393 11) (((v.toUInt32 >>> ((24 : Int32).toUInt32 &&& Int32.toUInt32 31)).toInt32).toInt8.toInt32).toInt8.toInt32) 393 11 (((zup sg 401 (sg 393 11) (((v.toUInt32 >>> ((24 : Int32).toUInt32 &&& Int32.toUInt32 31)).toInt32).toInt8.toInt32).toInt8.toInt32) 393 11) + 1)) 393 11) (((v.toUInt32 >>> ((16 : Int32).toUInt32 &&& Int32.toUInt32 31)).toInt32).toInt8.toInt32).toInt8.toInt32) 393 11 (((zup (zup (zup sg 401 (sg 393 11) (((v.toUInt32 >>> ((24 : Int32).toUInt32 &&& Int32.toUInt32 31)).toInt32).toInt8.toInt32).toInt8.toInt32) 393 11 (((zup sg 401 (sg 393 11) (((v.toUInt32 >>> ((24 : Int32).toUInt32 &&& Int32.toUInt32 31)).toInt32).toInt8.toInt32).toInt8.toInt32) 393 11) + 1)) 401 ((zup (zup sg 401 (sg 393 11) (((v.toUInt32 >>> ((24 : Int32).toUInt32 &&& Int32.toUInt32 31)).toInt32).toInt8.toInt32).toInt8.toInt32) 393 11 (((zup sg 401 (sg 393 11) (((v.toUInt32 >>> ((24 : Int32).toUInt32 &&& Int32.toUInt32 31)).toInt32).toInt8.toInt32).toInt8.toInt32) 393 11) + 1)) 393 11) (((v.toUInt32 >>> ((16 : Int32).toUInt32 &&& Int32.toUInt32 31)).toInt32).toInt8.toInt32).toInt8.toInt32) 393 11) + 1)) 401 ((zup (zup (zup (zup sg 401 (sg 393 11) (((v.toUInt32 >>> ((24 : Int32).toUInt32 &&& Int32.toUInt32 31)).toInt32).toInt8.toInt32).toInt8.toInt32) 393 11 (((zup sg 401 (sg 393 11) (((v.toUInt32 >>> ((24 : Int32).toUInt32 &&& Int32.toUInt32 31)).toInt32).toInt8.toInt32).toInt8.toInt32) 393 11) + 1)) 401 ((zup (zup sg 401 (sg 393 11) (((v.toUInt32 >>> ((24 : Int32).toUInt32 &&& Int32.toUInt32 31)).toInt32).toInt8.toInt32).toInt8.toInt32) 393 11 (((zup sg 401 (sg 393 11) (((v.toUInt32 >>> ((24 : Int32).toUInt32 &&& Int32.toUInt32 31)).toInt32).toInt8.toInt32).toInt8.toInt32) 393 11) + 1)) 393 11) (((v.toUInt32 >>> ((16 : Int32).toUInt32 &&& Int32.toUInt32 31)).toInt32).toInt8.toInt32).toInt8.toInt32) 393 11 (((zup (zup (zup sg 401 (sg 393 11) (((v.toUInt32 >>> ((24 : Int32).toUInt32 &&& Int32.toUInt32 31)).toInt32).toInt8.toInt32).toInt8.toInt32) 393 11 (((zup sg 401 (sg 393 11) (((v.toUInt32 >>> ((24 : Int32).toUInt32 &&& Int32.toUInt32 31)).toInt32).toInt8.toInt32).toInt8.toInt32) 393 11) + 1)) 401 ((zup (zup sg 401 (sg 393 11) (((v.toUInt32 >>> ((24 : Int32).toUInt32 &&& Int32.toUInt32 31)).toInt32).toInt8.toInt32).toInt8.toInt32) 393 11 (((zup sg 401 (sg 393 11) (((v.toUInt32 >>> ((24 : Int32).toUInt32 &&& Int32.toUInt32 31)).toInt32).toInt8.toInt32).toInt8.toInt32) 393 11) + 1)) 393 11) (((v.toUInt32 >>> ((16 : Int32).toUInt32 &&& Int32.toUInt32 31)).toInt32).toInt8.toInt32).toInt8.toInt32) 393 11) + 1)) 393 11) (((v.toUInt32 >>> ((8 : Int32).toUInt32 &&& Int32.toUInt32 31)).toInt32).toInt8.toInt32).toInt8.toInt32) 393 11) + 1))) 401 1 ((zup (zup (zup (zup (zup (zup sg 401 (sg 393 11) (((v.toUInt32 >>> ((24 : Int32).toUInt32 &&& Int32.toUInt32 31)).toInt32).toInt8.toInt32).toInt8.toInt32) 393 11 (((zup sg 401 (sg 393 11) (((v.toUInt32 >>> ((24 : Int32).toUInt32 &&& Int32.toUInt32 31)).toInt32).toInt8.toInt32).toInt8.toInt32) 393 11) + 1)) 401 ((zup (zup sg 401 (sg 393 11) (((v.toUInt32 >>> ((24 : Int32).toUInt32 &&& Int32.toUInt32 31)).toInt32).toInt8.toInt32).toInt8.toInt32) 393 11 (((zup sg 401 (sg 393 11) (((v.toUInt32 >>> ((24 : Int32).toUInt32 &&& Int32.toUInt32 31)).toInt32).toInt8.toInt32).toInt8.toInt32) 393 11) + 1)) 393 11) (((v.toUInt32 >>> ((16 : Int32).toUInt32 &&& Int32.toUInt32 31)).toInt32).toInt8.toInt32).toInt8.toInt32) 393 11 (((zup (zup (zup sg 401 (sg 393 11) (((v.toUInt32 >>> ((24 : Int32).toUInt32 &&& Int32.toUInt32 31)).toInt32).toInt8.toInt32).toInt8.toInt32) 393 11 (((zup sg 401 (sg 393 11) (((v.toUInt32 >>> ((24 : Int32).toUInt32 &&& Int32.toUInt32 31)).toInt32).toInt8.toInt32).toInt8.toInt32) 393 11) + 1)) 401 ((zup (zup sg 401 (sg 393 11) (((v.toUInt32 >>> ((24 : Int32).toUInt32 &&& Int32.toUInt32 31)).toInt32).toInt8.toInt32).toInt8.toInt32) 393 11 (((zup sg 401 (sg 393 11) (((v.toUInt32 >>> ((24 : Int32).toUInt32 &&& Int32.toUInt32 31)).toInt32).toInt8.toInt32).toInt8.toInt32) 393 11) + 1)) 393 11) (((v.toUInt32 >>> ((16 : Int32).toUInt32 &&& Int32.toUInt32 31)).toInt32).toInt8.toInt32).toInt8.toInt32) 393 11) + 1)) 401 ((zup (zup (zup (zup sg 401 (sg 393 11) (((v.toUInt32 >>> ((24 : Int32).toUInt32 &&& Int32.toUInt32 31)).toInt32).toInt8.toInt32).toInt8.toInt32) 393 11 (((zup sg 401 (sg 393 11) (((v.toUInt32 >>> ((24 : Int32).toUInt32 &&& Int32.toUInt32 31)).toInt32).toInt8.toInt32).toInt8.toInt32) 393 11) + 1)) 401 ((zup (zup sg 401 (sg 393 11) (((v.toUInt32 >>> ((24 : Int32).toUInt32 &&& Int32.toUInt32 31)).toInt32).toInt8.toInt32).toInt8.toInt32) 393 11 (((zup sg 401 (sg 393 11) (((v.toUInt32 >>> ((24 : Int32).toUInt32 &&& Int32.toUInt32 31)).toInt32).toInt8.toInt32).toInt8.toInt32) 393 11) + 1)) 393 11) (((v.toUInt32 >>> ((16 : Int32).toUInt32 &&& Int32.toUInt32 31)).toInt32).toInt8.toInt32).toInt8.toInt32) 393 11 (((zup (zup (zup sg 401 (sg 393 11) (((v.toUInt32 >>> ((24 : Int32).toUInt32 &&& Int32.toUInt32 31)).toInt32).toInt8.toInt32).toInt8.toInt32) 393 11 (((zup sg 401 (sg 393 11) (((v.toUInt32 >>> ((24 : Int32).toUInt32 &&& Int32.toUInt32 31)).toInt32).toInt8.toInt32).toInt8.toInt32) 393 11) + 1)) 401 ((zup (zup sg 401 (sg 393 11) (((v.toUInt32 >>> ((24 : Int32).toUInt32 &&& Int32.toUInt32 31)).toInt32).toInt8.toInt32).toInt8.toInt32) 393 11 (((zup sg 401 (sg 393 11) (((v.toUInt32 >>> ((24 : Int32).toUInt32 &&& Int32.toUInt32 31)).toInt32).toInt8.toInt32).toInt8.toInt32) 393 11) + 1)) 393 11) (((v.toUInt32 >>> ((16 : Int32).toUInt32 &&& Int32.toUInt32 31)).toInt32).toInt8.toInt32).toInt8.toInt32) 393 11) + 1)) 393 11) (((v.toUInt32 >>> ((8 : Int32).toUInt32 &&& Int32.toUInt32 31)).toInt32).toInt8.toInt32).toInt8.toInt32) 393 11 (((zup (zup (zup (zup (zup sg 401 (sg 393 11) (((v.toUInt32 >>> ((24 : Int32).toUInt32 &&& Int32.toUInt32 31)).toInt32).toInt8.toInt32).toInt8.toInt32) 393 11 (((zup sg 401 (sg 393 11) (((v.toUInt32 >>> ((24 : Int32).toUInt32 &&& Int32.toUInt32 31)).toInt32).toInt8.toInt32).toInt8.toInt32) 393 11) + 1)) 401 ((zup (zup sg 401 (sg 393 11) (((v.toUInt32 >>> ((24 : Int32).toUInt32 &&& Int32.toUInt32 31)).toInt32).toInt8.toInt32).toInt8.toInt32) 393 11 (((zup sg 401 (sg 393 11) (((v.toUInt32 >>> ((24 : Int32).toUInt32 &&& Int32.toUInt32 31)).toInt32).toInt8.toInt32).toInt8.toInt32) 393 11) + 1)) 393 11) (((v.toUInt32 >>> ((16 : Int32).toUInt32 &&& Int32.toUInt32 31)).toInt32).toInt8.toInt32).toInt8.toInt32) 393 11 (((zup (zup (zup sg 401 (sg 393 11) (((v.toUInt32 >>> ((24 : Int32).toUInt32 &&& Int32.toUInt32 31)).toInt32).toInt8.toInt32).toInt8.toInt32) 393 11 (((zup sg 401 (sg 393 11) (((v.toUInt32 >>> ((24 : Int32).toUInt32 &&& Int32.toUInt32 31)).toInt32).toInt8.toInt32).toInt8.toInt32) 393 11) + 1)) 401 ((zup (zup sg 401 (sg 393 11) (((v.toUInt32 >>> ((24 : Int32).toUInt32 &&& Int32.toUInt32 31)).toInt32).toInt8.toInt32).toInt8.toInt32) 393 11 (((zup sg 401 (sg 393 11) (((v.toUInt32 >>> ((24 : Int32).toUInt32 &&& Int32.toUInt32 31)).toInt32).toInt8.toInt32).toInt8.toInt32) 393 11) + 1)) 393 11) (((v.toUInt32 >>> ((16 : Int32).toUInt32 &&& Int32.toUInt32 31)).toInt32).toInt8.toInt32).toInt8.toInt32) 393 11) + 1)) 401 ((zup (zup (zup (zup sg 401 (sg 393 11) (((v.toUInt32 >>> ((24 : Int32).toUInt32 &&& Int32.toUInt32 31)).toInt32).toInt8.toInt32).toInt8.toInt32) 393 11 (((zup sg 401 (sg 393 11) (((v.toUInt32 >>> ((24 : Int32).toUInt32 &&& Int32.toUInt32 31)).toInt32).toInt8.toInt32).toInt8.toInt32) 393 11) + 1)) 401 ((zup (zup sg 401 (sg 393 11) (((v.toUInt32 >>> ((24 : Int32).toUInt32 &&& Int32.toUInt32 31)).toInt32).toInt8.toInt32).toInt8.toInt32) 393 11 (((zup sg 401 (sg 393 11) (((v.toUInt32 >>> ((24 : Int32).toUInt32 &&& Int32.toUInt32 31)).toInt32).toInt8.toInt32).toInt8.toInt32) 393 11) + 1)) 393 11) (((v.toUInt32 >>> ((16 : Int32).toUInt32 &&& Int32.toUInt32 31)).toInt32).toInt8.toInt32).toInt8.toInt32) 393 11 (((zup (zup (zup sg 401 (sg 393 11) (((v.toUInt32 >>> ((24 : Int32).toUInt32 &&& Int32.toUInt32 31)).toInt32).toInt8.toInt32).toInt8.toInt32) 393 11 (((zup sg 401 (sg 393 11) (((v.toUInt32 >>> ((24 : Int32).toUInt32 &&& Int32.toUInt32 31)).toInt32).toInt8.toInt32).toInt8.toInt32) 393 11) + 1)) 401 ((zup (zup sg 401 (sg 393 11) (((v.toUInt32 >>> ((24 : Int32).toUInt32 &&& Int32.toUInt32 31)).toInt32).toInt8.toInt32).toInt8.toInt32) 393 11 (((zup sg 401 (sg 393 11) (((v.toUInt32 >>> ((24 : Int32).toUInt32 &&& Int32.toUInt32 31)).toInt32).toInt8.toInt32).toInt8.toInt32) 393 11) + 1)) 393 11) (((v.toUInt32 >>> ((16 : Int32).toUInt32 &&& Int32.toUInt32 31)).toInt32).toInt8.toInt32).toInt8.toInt32) 393 11) + 1)) 393 11) (((v.toUInt32 >>> ((8 : Int32).toUInt32 &&& Int32.toUInt32 31)).toInt32).toInt8.toInt32).toInt8.toInt32) 393 11) + 1)) 393 11), zOb (zN (zup (zup (zup (zup (zup (zup (zup sg 401 (sg 393 11) (((v.toUInt32 >>> ((24 : Int32).toUInt32 &&& Int32.toUInt32 31)).toInt32).toInt8.toInt32).toInt8.toInt32) 393 11 (((zup sg 401 (sg 393 11) (((v.toUInt32 >>> ((24 : Int32).toUInt32 &&& Int32.toUInt32 31)).toInt32).toInt8.toInt32).toInt8.toInt32) 393 11) + 1)) 401 ((zup (zup sg 401 (sg 393 11) (((v.toUInt32 >>> ((24 : Int32).toUInt32 &&& Int32.toUInt32 31)).toInt32).toInt8.toInt32).toInt8.toInt32) 393 11 (((zup sg 401 (sg 393 11) (((v.toUInt32 >>> ((24 : Int32).toUInt32 &&& Int32.toUInt32 31)).toInt32).toInt8.toInt32).toInt8.toInt32) 393 11) + 1)) 393 11) (((v.toUInt32 >>> ((16 : Int32).toUInt32 &&& Int32.toUInt32 31)).toInt32).toInt8.toInt32).toInt8.toInt32) 393 11 (((zup (zup (zup sg 401 (sg 393 11) (((v.toUInt32 >>> ((24 : Int32).toUInt32 &&& Int32.toUInt32 31)).toInt32).toInt8.toInt32).toInt8.toInt32) 393 11 (((zup sg 401 (sg 393 11) (((v.toUInt32 >>> ((24 : Int32).toUInt32 &&& Int32.toUInt32 31)).toInt32).toInt8.toInt32).toInt8.toInt32) 393 11) + 1)) 401 ((zup (zup sg 401 (sg 393 11) (((v.toUInt32 >>> ((24 : Int32).toUInt32 &&& Int32.toUInt32 31)).toInt32).toInt8.toInt32).toInt8.toInt32) 393 11 (((zup sg 401 (sg 393 11) (((v.toUInt32 >>> ((24 : Int32).toUInt32 &&& Int32.toUInt32 31)).toInt32).toInt8.toInt32).toInt8.toInt32) 393 11) + 1)) 393 11) (((v.toUInt32 >>> ((16 : Int32).toUInt32 &&& Int32.toUInt32 31)).toInt32).toInt8.toInt32).toInt8.toInt32) 393 11) + 1)) 401 ((zup (zup (zup (zup sg 401 (sg 393 11) (((v.toUInt32 >>> ((24 : Int32).toUInt32 &&& Int32.toUInt32 31)).toInt32).toInt8.toInt32).toInt8.toInt32) 393 11 (((zup sg 401 (sg 393 11) (((v.toUInt32 >>> ((24 : Int32).toUInt32 &&& Int32.toUInt32 31)).toInt32).toInt8.toInt32).toInt8.toInt32) 393 11) + 1)) 401 ((zup (zup sg 401 (sg 393 11) (((v.toUInt32 >>> ((24 : Int32).toUInt32 &&& Int32.toUInt32 31)).toInt32).toInt8.toInt32).toInt8.toInt32) 393 11 (((zup sg 401 (sg 393 11) (((v.toUInt32 >>> ((24 : Int32).toUInt32 &&& Int32.toUInt32 31)).toInt32).toInt8.toInt32).toInt8.toInt32) 393 11) + 1)) 393 11) (((v.toUInt32 >>> ((16 : Int32).toUInt32 &&& Int32.toUInt32 31)).toInt32).toInt8.toInt32).toInt8.toInt32) 393 11 (((zup (zup (zup sg 401 (sg 393 11) (((v.toUInt32 >>> ((24 : Int32).toUInt32 &&& Int32.toUInt32 31)).toInt32).toInt8.toInt32).toInt8.toInt32) 393 11 (((zup sg 401 (sg 393 11) (((v.toUInt32 >>> ((24 : Int32).toUInt32 &&& Int32.toUInt32 31)).toInt32).toInt8.toInt32).toInt8.toInt32) 393 11) + 1)) 401 ((zup (zup sg 401 (sg 393 11) (((v.toUInt32 >>> ((24 : Int32).toUInt32 &&& Int32.toUInt32 31)).toInt32).toInt8.toInt32).toInt8.toInt32) 393 11 (((zup sg 401 (sg 393 11) (((v.toUInt32 >>> ((24 : Int32).toUInt32 &&& Int32.toUInt32 31)).toInt32).toInt8.toInt32).toInt8.toInt32) 393 11) + 1)) 393 11) (((v.toUInt32 >>> ((16 : Int32).toUInt32 &&& Int32.toUInt32 31)).toInt32).toInt8.toInt32).toInt8.toInt32) 393 11) + 1)) 393 11) (((v.toUInt32 >>> ((8 : Int32).toUInt32 &&& Int32.toUInt32 31)).toInt32).toInt8.toInt32).toInt8.toInt32) 393 11 (((zup (zup (zup (zup (zup sg 401 (sg 393 11) (((v.toUInt32 >>> ((24 : Int32).toUInt32 &&& Int32.toUInt32 31)).toInt32).toInt8.toInt32).toInt8.toInt32) 393 11 (((zup sg 401 (sg 393 11) (((v.toUInt32 >>> ((24 : Int32).toUInt32 &&& Int32.toUInt32 31)).toInt32).toInt8.toInt32).toInt8.toInt32) 393 11) + 1)) 401 ((zup (zup sg 401 (sg 393 11) (((v.toUInt32 >>> ((24 : Int32).toUInt32 &&& Int32.toUInt32 31)).toInt32).toInt8.toInt32).toInt8.toInt32) 393 11 (((zup sg 401 (sg 393 11) (((v.toUInt32 >>> ((24 : Int32).toUInt32 &&& Int32.toUInt32 31)).toInt32).toInt8.toInt32).toInt8.toInt32) 393 11) + 1)) 393 11) (((v.toUInt32 >>> ((16 : Int32).toUInt32 &&& Int32.toUInt32 31)).toInt32).toInt8.toInt32).toInt8.toInt32) 393 11 (((zup (zup (zup sg 401 (sg 393 11) (((v.toUInt32 >>> ((24 : Int32).toUInt32 &&& Int32.toUInt32 31)).toInt32).toInt8.toInt32).toInt8.toInt32) 393 11 (((zup sg 401 (sg 393 11) (((v.toUInt32 >>> ((24 : Int32).toUInt32 &&& Int32.toUInt32 31)).toInt32).toInt8.toInt32).toInt8.toInt32) 393 11) + 1)) 401 ((zup (zup sg 401 (sg 393 11) (((v.toUInt32 >>> ((24 : Int32).toUInt32 &&& Int32.toUInt32 31)).toInt32).toInt8.toInt32).toInt8.toInt32) 393 11 (((zup sg 401 (sg 393 11) (((v.toUInt32 >>> ((24 : Int32).toUInt32 &&& Int32.toUInt32 31)).toInt32).toInt8.toInt32).toInt8.toInt32) 393 11) + 1)) 393 11) (((v.toUInt32 >>> ((16 : Int32).toUInt32 &&& Int32.toUInt32 31)).toInt32).toInt8.toInt32).toInt8.toInt32) 393 11) + 1)) 401 ((zup (zup (zup (zup sg 401 (sg 393 11) (((v.toUInt32 >>> ((24 : Int32).toUInt32 &&& Int32.toUInt32 31)).toInt32).toInt8.toInt32).toInt8.toInt32) 393 11 (((zup sg 401 (sg 393 11) (((v.toUInt32 >>> ((24 : Int32).toUInt32 &&& Int32.toUInt32 31)).toInt32).toInt8.toInt32).toInt8.toInt32) 393 11) + 1)) 401 ((zup (zup sg 401 (sg 393 11) (((v.toUInt32 >>> ((24 : Int32).toUInt32 &&& Int32.toUInt32 31)).toInt32).toInt8.toInt32).toInt8.toInt32) 393 11 (((zup sg 401 (sg 393 11) (((v.toUInt32 >>> ((24 : Int32).toUInt32 &&& Int32.toUInt32 31)).toInt32).toInt8.toInt32).toInt8.toInt32) 393 11) + 1)) 393 11) (((v.toUInt32 >>> ((16 : Int32).toUInt32 &&& Int32.toUInt32 31)).toInt32).toInt8.toInt32).toInt8.toInt32) 393 11 (((zup (zup (zup sg 401 (sg 393 11) (((v.toUInt32 >>> ((24 : Int32).toUInt32 &&& Int32.toUInt32 31)).toInt32).toInt8.toInt32).toInt8.toInt32) 393 11 (((zup sg 401 (sg 393 11) (((v.toUInt32 >>> ((24 : Int32).toUInt32 &&& Int32.toUInt32 31)).toInt32).toInt8.toInt32).toInt8.toInt32) 393 11) + 1)) 401 ((zup (zup sg 401 (sg 393 11) (((v.toUInt32 >>> ((24 : Int32).toUInt32 &&& Int32.toUInt32 31)).toInt32).toInt8.toInt32).toInt8.toInt32) 393 11 (((zup sg 401 (sg 393 11) (((v.toUInt32 >>> ((24 : Int32).toUInt32 &&& Int32.toUInt32 31)).toInt32).toInt8.toInt32).toInt8.toInt32) 393 11) + 1)) 393 11) (((v.toUInt32 >>> ((16 : Int32).toUInt32 &&& Int32.toUInt32 31)).toInt32).toInt8.toInt32).toInt8.toInt32) 393 11) + 1)) 393 11) (((v.toUInt32 >>> ((8 : Int32).toUInt32 &&& Int32.toUInt32 31)).toInt32).toInt8.toInt32).toInt8.toInt32) 393 11) + 1)) 401 ((zup (zup (zup (zup (zup (zup sg 401 (sg 393 11) (((v.toUInt32 >>> ((24 : Int32).toUInt32 &&& Int32.toUInt32 31)).toInt32).toInt8.toInt32).toInt8.toInt32) 393 11 (((zup sg 401 (sg 393 11) (((v.toUInt32 >>> ((24 : Int32).toUInt32 &&& Int32.toUInt32 31)).toInt32).toInt8.toInt32).toInt8.toInt32) 393 11) + 1)) 401 ((zup (zup sg 401 (sg 393 11) (((v.toUInt32 >>> ((24 : Int32).toUInt32 &&& Int32.toUInt32 31)).toInt32).toInt8.toInt32).toInt8.toInt32) 393 11 (((zup sg 401 (sg 393 11) (((v.toUInt32 >>> ((24 : Int32).toUInt32 &&& Int32.toUInt32 31)).toInt32).toInt8.toInt32).toInt8.toInt32) 393 11) + 1)) 393 11) (((v.toUInt32 >>> ((16 : Int32).toUInt32 &&& Int32.toUInt32 31)).toInt32).toInt8.toInt32).toInt8.toInt32) 393 11 (((zup (zup (zup sg 401 (sg 393 11) (((v.toUInt32 >>> ((24 : Int32).toUInt32 &&& Int32.toUInt32 31)).toInt32).toInt8.toInt32).toInt8.toInt32) 393 11 (((zup sg 401 (sg 393 11) (((v.toUInt32 >>> ((24 : Int32).toUInt32 &&& Int32.toUInt32 31)).toInt32).toInt8.toInt32).toInt8.toInt32) 393 11) + 1)) 401 ((zup (zup sg 401 (sg 393 11) (((v.toUInt32 >>> ((24 : Int32).toUInt32 &&& Int32.toUInt32 31)).toInt32).toInt8.toInt32).toInt8.toInt32) 393 11 (((zup sg 401 (sg 393 11) (((v.toUInt32 >>> ((24 : Int32).toUInt32 &&& Int32.toUInt32 31)).toInt32).toInt8.toInt32).toInt8.toInt32) 393 11) + 1)) 393 11) (((v.toUInt32 >>> ((16 : Int32).toUInt32 &&& Int32.toUInt32 31)).toInt32).toInt8.toInt32).toInt8.toInt32) 393 11) + 1)) 401 ((zup (zup (zup (zup sg 401 (sg 393 11) (((v.toUInt32 >>> ((24 : Int32).toUInt32 &&& Int32.toUInt32 31)).toInt32).toInt8.toInt32).toInt8.toInt32) 393 11 (((zup sg 401 (sg 393 11) (((v.toUInt32 >>> ((24 : Int32).toUInt32 &&& Int32.toUInt32 31)).toInt32).toInt8.toInt32).toInt8.toInt32) 393 11) + 1)) 401 ((zup (zup sg 401 (sg 393 11) (((v.toUInt32 >>> ((24 : Int32).toUInt32 &&& Int32.toUInt32 31)).toInt32).toInt8.toInt32).toInt8.toInt32) 393 11 (((zup sg 401 (sg 393 11) (((v.toUInt32 >>> ((24 : Int32).toUInt32 &&& Int32.toUInt32 31)).toInt32).toInt8.toInt32).toInt8.toInt32) 393 11) + 1)) 393 11) (((v.toUInt32 >>> ((16 : Int32).toUInt32 &&& Int32.toUInt32 31)).toInt32).toInt8.toInt32).toInt8.toInt32) 393 11 (((zup (zup (zup sg 401 (sg 393 11) (((v.toUInt32 >>> ((24 : Int32).toUInt32 &&& Int32.toUInt32 31)).toInt32).toInt8.toInt32).toInt8.toInt32) 393 11 (((zup sg 401 (sg 393 11) (((v.toUInt32 >>> ((24 : Int32).toUInt32 &&& Int32.toUInt32 31)).toInt32).toInt8.toInt32).toInt8.toInt32) 393 11) + 1)) 401 ((zup (zup sg 401 (sg 393 11) (((v.toUInt32 >>> ((24 : Int32).toUInt32 &&& Int32.toUInt32 31)).toInt32).toInt8.toInt32).toInt8.toInt32) 393 11 (((zup sg 401 (sg 393 11) (((v.toUInt32 >>> ((24 : Int32).toUInt32 &&& Int32.toUInt32 31)).toInt32).toInt8.toInt32).toInt8.toInt32) 393 11) + 1)) 393 11) (((v.toUInt32 >>> ((16 : Int32).toUInt32 &&& Int32.toUInt32 31)).toInt32).toInt8.toInt32).toInt8.toInt32) 393 11) + 1)) 393 11) (((v.toUInt32 >>> ((8 : Int32).toUInt32 &&& Int32.toUInt32 31)).toInt32).toInt8.toInt32).toInt8.toInt32) 393 11 (((zup (zup (zup (zup (zup sg 401 (sg 393 11) (((v.toUInt32 >>> ((24 : Int32).toUInt32 &&& Int32.toUInt32 31)).toInt32).toInt8.toInt32).toInt8.toInt32) 393 11 (((zup sg 401 (sg 393 11) (((v.toUInt32 >>> ((24 : Int32).toUInt32 &&& Int32.toUInt32 31)).toInt32).toInt8.toInt32).toInt8.toInt32) 393 11) + 1)) 401 ((zup (zup sg 401 (sg 393 11) (((v.toUInt32 >>> ((24 : Int32).toUInt32 &&& Int32.toUInt32 31)).toInt32).toInt8.toInt32).toInt8.toInt32) 393 11 (((zup sg 401 (sg 393 11) (((v.toUInt32 >>> ((24 : Int32).toUInt32 &&& Int32.toUInt32 31)).toInt32).toInt8.toInt32).toInt8.toInt32) 393 11) + 1)) 393 11) (((v.toUInt32 >>> ((16 : Int32).toUInt32 &&& Int32.toUInt32 31)).toInt32).toInt8.toInt32).toInt8.toInt32) 393 11 (((zup (zup (zup sg 401 (sg 393 11) (((v.toUInt32 >>> ((24 : Int32).toUInt32 &&& Int32.toUInt32 31)).toInt32).toInt8.toInt32).toInt8.toInt32) 393 11 (((zup sg 401 (sg 393 11) (((v.toUInt32 >>> ((24 : Int32).toUInt32 &&& Int32.toUInt32 31)).toInt32).toInt8.toInt32).toInt8.toInt32) 393 11) + 1)) 401 ((zup (zup sg 401 (sg 393 11) (((v.toUInt32 >>> ((24 : Int32).toUInt32 &&& Int32.toUInt32 31)).toInt32).toInt8.toInt32).toInt8.toInt32) 393 11 (((zup sg 401 (sg 393 11) (((v.toUInt32 >>> ((24 : Int32).toUInt32 &&& Int32.toUInt32 31)).toInt32).toInt8.toInt32).toInt8.toInt32) 393 11) + 1)) 393 11) (((v.toUInt32 >>> ((16 : Int32).toUInt32 &&& Int32.toUInt32 31)).toInt32).toInt8.toInt32).toInt8.toInt32) 393 11) + 1)) 401 ((zup (zup (zup (zup sg 401 (sg 393 11) (((v.toUInt32 >>> ((24 : Int32).toUInt32 &&& Int32.toUInt32 31)).toInt32).toInt8.toInt32).toInt8.toInt32) 393 11 (((zup sg 401 (sg 393 11) (((v.toUInt32 >>> ((24 : Int32).toUInt32 &&& Int32.toUInt32 31)).toInt32).toInt8.toInt32).toInt8.toInt32) 393 11) + 1)) 401 ((zup (zup sg 401 (sg 393 11) (((v.toUInt32 >>> ((24 : Int32).toUInt32 &&& Int32.toUInt32 31)).toInt32).toInt8.toInt32).toInt8.toInt32) 393 11 (((zup sg 401 (sg 393 11) (((v.toUInt32 >>> ((24 : Int32).toUInt32 &&& Int32.toUInt32 31)).toInt32).toInt8.toInt32).toInt8.toInt32) 393 11) + 1)) 393 11) (((v.toUInt32 >>> ((16 : Int32).toUInt32 &&& Int32.toUInt32 31)).toInt32).toInt8.toInt32).toInt8.toInt32) 393 11 (((zup (zup (zup sg 401 (sg 393 11) (((v.toUInt32 >>> ((24 : Int32).toUInt32 &&& Int32.toUInt32 31)).toInt32).toInt8.toInt32).toInt8.toInt32) 393 11 (((zup sg 401 (sg 393 11) (((v.toUInt32 >>> ((24 : Int32).toUInt32 &&& Int32.toUInt32 31)).toInt32).toInt8.toInt32).toInt8.toInt32) 393 11) + 1)) 401 ((zup (zup sg 401 (sg 393 11) (((v.toUInt32 >>> ((24 : Int32).toUInt32 &&& Int32.toUInt32 31)).toInt32).toInt8.toInt32).toInt8.toInt32) 393 11 (((zup sg 401 (sg 393 11) (((v.toUInt32 >>> ((24 : Int32).toUInt32 &&& Int32.toUInt32 31)).toInt32).toInt8.toInt32).toInt8.toInt32) 393 11) + 1)) 393 11) (((v.toUInt32 >>> ((16 : Int32).toUInt32 &&& Int32.toUInt32 31)).toInt32).toInt8.toInt32).toInt8.toInt32) 393 11) + 1)) 393 11) (((v.toUInt32 >>> ((8 : Int32).toUInt32 &&& Int32.toUInt32 31)).toInt32).toInt8.toInt32).toInt8.toInt32) 393 11) + 1)) 393 11) (((v.toUInt32 >>> ((0 : Int32).toUInt32 &&& Int32.toUInt32 31)).toInt32).toInt8.toInt32).toInt8.toInt32)) 393 10, zOb (zN (zup (zup (zup (zup (zup (zup (zup sg 401 (sg 393 11) (((v.toUInt32 >>> ((24 : Int32).toUInt32 &&& Int32.toUInt32 31)).toInt32).toInt8.toInt32).toInt8.toInt32) 393 11 (((zup sg 401 (sg 393 11) (((v.toUInt32 >>> ((24 : Int32).toUInt32 &&& Int32.toUInt32 31)).toInt32).toInt8.toInt32).toInt8.toInt32) 393 11) + 1)) 401 ((zup (zup sg 401 (sg 393 11) (((v.toUInt32 >>> ((24 : Int32).toUInt32 &&& Int32.toUInt32 31)).toInt32).toInt8.toInt32).toInt8.toInt32) 393 11 (((zup sg 401 (sg 393 11) (((v.toUInt32 >>> ((24 : Int32).toUInt32 &&& Int32.toUInt32 31)).toInt32).toInt8.toInt32).toInt8.toInt32) 393 11) + 1)) 393 11) (((v.toUInt32 >>> ((16 : Int32).toUInt32 &&& Int32.toUInt32 31)).toInt32).toInt8.toInt32).toInt8.toInt32) 393 11 (((zup (zup (zup sg 401 (sg 393 11) (((v.toUInt32 >>> ((24 : Int32).toUInt32 &&& Int32.toUInt32 31)).toInt32).toInt8.toInt32).toInt8.toInt32) 393 11 (((zup sg 401 (sg 393 11) (((v.toUInt32 >>> ((24 : Int32).toUInt32 &&& Int32.toUInt32 31)).toInt32).toInt8.toInt32).toInt8.toInt32) 393 11) + 1)) 401 ((zup (zup sg 401 (sg 393 11) (((v.toUInt32 >>> ((24 : Int32).toUInt32 &&& Int32.toUInt32 31)).toInt32).toInt8.toInt32).toInt8.toInt32) 393 11 (((zup sg 401 (sg 393 11) (((v.toUInt32 >>> ((24 : Int32).toUInt32 &&& Int32.toUInt32 31)).toInt32).toInt8.toInt32).toInt8.toInt32) 393 11) + 1)) 393 11) (((v.toUInt32 >>> ((16 : Int32).toUInt32 &&& Int32.toUInt32 31)).toInt32).toInt8.toInt32).toInt8.toInt32) 393 11) + 1)) 401 ((zup (zup (zup (zup sg 401 (sg 393 11) (((v.toUInt32 >>> ((24 : Int32).toUInt32 &&& Int32.toUInt32 31)).toInt32).toInt8.toInt32).toInt8.toInt32) 393 11 (((zup sg 401 (sg 393 11) (((v.toUInt32 >>> ((24 : Int32).toUInt32 &&& Int32.toUInt32 31)).toInt32).toInt8.toInt32).toInt8.toInt32) 393 11) + 1)) 401 ((zup (zup sg 401 (sg 393 11) (((v.toUInt32 >>> ((24 : Int32).toUInt32 &&& Int32.toUInt32 31)).toInt32).toInt8.toInt32).toInt8.toInt32) 393 11 (((zup sg 401 (sg 393 11) (((v.toUInt32 >>> ((24 : Int32).toUInt32 &&& Int32.toUInt32 31)).toInt32).toInt8.toInt32).toInt8.toInt32) 393 11) + 1)) 393 11) (((v.toUInt32 >>> ((16 : Int32).toUInt32 &&& Int32.toUInt32 31)).toInt32).toInt8.toInt32).toInt8.toInt32) 393 11 (((zup (zup (zup sg 401 (sg 393 11) (((v.toUInt32 >>> ((24 : Int32).toUInt32 &&& Int32.toUInt32 31)).toInt32).toInt8.toInt32).toInt8.toInt32) 393 11 (((zup sg 401 (sg 393 11) (((v.toUInt32 >>> ((24 : Int32).toUInt32 &&& Int32.toUInt32 31)).toInt32).toInt8.toInt32).toInt8.toInt32) 393 11) + 1)) 401 ((zup (zup sg 401 (sg 393 11) (((v.toUInt32 >>> ((24 : Int32).toUInt32 &&& Int32.toUInt32 31)).toInt32).toInt8.toInt32).toInt8.toInt32) 393 11 (((zup sg 401 (sg 393 11) (((v.toUInt32 >>> ((24 : Int32).toUInt32 &&& Int32.toUInt32 31)).toInt32).toInt8.toInt32).toInt8.toInt32) 393 11) + 1)) 393 11) (((v.toUInt32 >>> ((16 : Int32).toUInt32 &&& Int32.toUInt32 31)).toInt32).toInt8.toInt32).toInt8.toInt32) 393 11) + 1)) 393 11) (((v.toUInt32 >>> ((8 : Int32).toUInt32 &&& Int32.toUInt32 31)).toInt32).toInt8.toInt32).toInt8.toInt32) 393 11 (((zup (zup (zup (zup (zup sg 401 (sg 393 11) (((v.toUInt32 >>> ((24 : Int32).toUInt32 &&& Int32.toUInt32 31)).toInt32).toInt8.toInt32).toInt8.toInt32) 393 11 (((zup sg 401 (sg 393 11) (((v.toUInt32 >>> ((24 : Int32).toUInt32 &&& Int32.toUInt32 31)).toInt32).toInt8.toInt32).toInt8.toInt32) 393 11) + 1)) 401 ((zup (zup sg 401 (sg 393 11) (((v.toUInt32 >>> ((24 : Int32).toUInt32 &&& Int32.toUInt32 31)).toInt32).toInt8.toInt32).toInt8.toInt32) 393 11 (((zup sg 401 (sg 393 11) (((v.toUInt32 >>> ((24 : Int32).toUInt32 &&& Int32.toUInt32 31)).toInt32).toInt8.toInt32).toInt8.toInt32) 393 11) + 1)) 393 11) (((v.toUInt32 >>> ((16 : Int32).toUInt32 &&& Int32.toUInt32 31)).toInt32).toInt8.toInt32).toInt8.toInt32) 393 11 (((zup (zup (zup sg 401 (sg 393 11) (((v.toUInt32 >>> ((24 : Int32).toUInt32 &&& Int32.toUInt32 31)).toInt32).toInt8.toInt32).toInt8.toInt32) 393 11 (((zup sg 401 (sg 393 11) (((v.toUInt32 >>> ((24 : Int32).toUInt32 &&& Int32.toUInt32 31)).toInt32).toInt8.toInt32).toInt8.toInt32) 393 11) + 1)) 401 ((zup (zup sg 401 (sg 393 11) (((v.toUInt32 >>> ((24 : Int32).toUInt32 &&& Int32.toUInt32 31)).toInt32).toInt8.toInt32).toInt8.toInt32) 393 11 (((zup sg 401 (sg 393 11) (((v.toUInt32 >>> ((24 : Int32).toUInt32 &&& Int32.toUInt32 31)).toInt32).toInt8.toInt32).toInt8.toInt32) 393 11) + 1)) 393 11) (((v.toUInt32 >>> ((16 : Int32).toUInt32 &&& Int32.toUInt32 31)).toInt32).toInt8.toInt32).toInt8.toInt32) 393 11) + 1)) 401 ((zup (zup (zup (zup sg 401 (sg 393 11) (((v.toUInt32 >>> ((24 : Int32).toUInt32 &&& Int32.toUInt32 31)).toInt32).toInt8.toInt32).toInt8.toInt32) 393 11 (((zup sg 401 (sg 393 11) (((v.toUInt32 >>> ((24 : Int32).toUInt32 &&& Int32.toUInt32 31)).toInt32).toInt8.toInt32).toInt8.toInt32) 393 11) + 1)) 401 ((zup (zup sg 401 (sg 393 11) (((v.toUInt32 >>> ((24 : Int32).toUInt32 &&& Int32.toUInt32 31)).toInt32).toInt8.toInt32).toInt8.toInt32) 393 11 (((zup sg 401 (sg 393 11) (((v.toUInt32 >>> ((24 : Int32).toUInt32 &&& Int32.toUInt32 31)).toInt32).toInt8.toInt32).toInt8.toInt32) 393 11) + 1)) 393 11) (((v.toUInt32 >>> ((16 : Int32).toUInt32 &&& Int32.toUInt32 31)).toInt32).toInt8.toInt32).toInt8.toInt32) 393 11 (((zup (zup (zup sg 401 (sg 393 11) (((v.toUInt32 >>> ((24 : Int32).toUInt32 &&& Int32.toUInt32 31)).toInt32).toInt8.toInt32).toInt8.toInt32) 393 11 (((zup sg 401 (sg 393 11) (((v.toUInt32 >>> ((24 : Int32).toUInt32 &&& Int32.toUInt32 31)).toInt32).toInt8.toInt32).toInt8.toInt32) 393 11) + 1)) 401 ((zup (zup sg 401 (sg 393 11) (((v.toUInt32 >>> ((24 : Int32).toUInt32 &&& Int32.toUInt32 31)).toInt32).toInt8.toInt32).toInt8.toInt32) 393 11 (((zup sg 401 (sg 393 11) (((v.toUInt32 >>> ((24 : Int32).toUInt32 &&& Int32.toUInt32 31)).toInt32).toInt8.toInt32).toInt8.toInt32) 393 11) + 1)) 393 11) (((v.toUInt32 >>> ((16 : Int32).toUInt32 &&& Int32.toUInt32 31)).toInt32).toInt8.toInt32).toInt8.toInt32) 393 11) + 1)) 393 11) (((v.toUInt32 >>> ((8 : Int32).toUInt32 &&& Int32.toUInt32 31)).toInt32).toInt8.toInt32).toInt8.toInt32) 393 11) + 1)) 401 ((zup (zup (zup (zup (zup (zup sg 401 (sg 393 11) (((v.toUInt32 >>> ((24 : Int32).toUInt32 &&& Int32.toUInt32 31)).toInt32).toInt8.toInt32).toInt8.toInt32) 393 11 (((zup sg 401 (sg 393 11) (((v.toUInt32 >>> ((24 : Int32).toUInt32 &&& Int32.toUInt32 31)).toInt32).toInt8.toInt32).toInt8.toInt32) 393 11) + 1)) 401 ((zup (zup sg 401 (sg 393 11) (((v.toUInt32 >>> ((24 : Int32).toUInt32 &&& Int32.toUInt32 31)).toInt32).toInt8.toInt32).toInt8.toInt32) 393 11 (((zup sg 401 (sg 393 11) (((v.toUInt32 >>> ((24 : Int32).toUInt32 &&& Int32.toUInt32 31)).toInt32).toInt8.toInt32).toInt8.toInt32) 393 11) + 1)) 393 11) (((v.toUInt32 >>> ((16 : Int32).toUInt32 &&& Int32.toUInt32 31)).toInt32).toInt8.toInt32).toInt8.toInt32) 393 11 (((zup (zup (zup sg 401 (sg 393 11) (((v.toUInt32 >>> ((24 : Int32).toUInt32 &&& Int32.toUInt32 31)).toInt32).toInt8.toInt32).toInt8.toInt32) 393 11 (((zup sg 401 (sg 393 11) (((v.toUInt32 >>> ((24 : Int32).toUInt32 &&& Int32.toUInt32 31)).toInt32).toInt8.toInt32).toInt8.toInt32) 393 11) + 1)) 401 ((zup (zup sg 401 (sg 393 11) (((v.toUInt32 >>> ((24 : Int32).toUInt32 &&& Int32.toUInt32 31)).toInt32).toInt8.toInt32).toInt8.toInt32) 393 11 (((zup sg 401 (sg 393 11) (((v.toUInt32 >>> ((24 : Int32).toUInt32 &&& Int32.toUInt32 31)).toInt32).toInt8.toInt32).toInt8.toInt32) 393 11) + 1)) 393 11) (((v.toUInt32 >>> ((16 : Int32).toUInt32 &&& Int32.toUInt32 31)).toInt32).toInt8.toInt32).toInt8.toInt32) 393 11) + 1)) 401 ((zup (zup (zup (zup sg 401 (sg 393 11) (((v.toUInt32 >>> ((24 : Int32).toUInt32 &&& Int32.toUInt32 31)).toInt32).toInt8.toInt32).toInt8.toInt32) 393 11 (((zup sg 401 (sg 393 11) (((v.toUInt32 >>> ((24 : Int32).toUInt32 &&& Int32.toUInt32 31)).toInt32).toInt8.toInt32).toInt8.toInt32) 393 11) + 1)) 401 ((zup (zup sg 401 (sg 393 11) (((v.toUInt32 >>> ((24 : Int32).toUInt32 &&& Int32.toUInt32 31)).toInt32).toInt8.toInt32).toInt8.toInt32) 393 11 (((zup sg 401 (sg 393 11) (((v.toUInt32 >>> ((24 : Int32).toUInt32 &&& Int32.toUInt32 31)).toInt32).toInt8.toInt32).toInt8.toInt32) 393 11) + 1)) 393 11) (((v.toUInt32 >>> ((16 : Int32).toUInt32 &&& Int32.toUInt32 31)).toInt32).toInt8.toInt32).toInt8.toInt32) 393 11 (((zup (zup (zup sg 401 (sg 393 11) (((v.toUInt32 >>> ((24 : Int32).toUInt32 &&& Int32.toUInt32 31)).toInt32).toInt8.toInt32).toInt8.toInt32) 393 11 (((zup sg 401 (sg 393 11) (((v.toUInt32 >>> ((24 : Int32).toUInt32 &&& Int32.toUInt32 31)).toInt32).toInt8.toInt32).toInt8.toInt32) 393 11) + 1)) 401 ((zup (zup sg 401 (sg 393 11) (((v.toUInt32 >>> ((24 : Int32).toUInt32 &&& Int32.toUInt32 31)).toInt32).toInt8.toInt32).toInt8.toInt32) 393 11 (((zup sg 401 (sg 393 11) (((v.toUInt32 >>> ((24 : Int32).toUInt32 &&& Int32.toUInt32 31)).toInt32).toInt8.toInt32).toInt8.toInt32) 393 11) + 1)) 393 11) (((v.toUInt32 >>> ((16 : Int32).toUInt32 &&& Int32.toUInt32 31)).toInt32).toInt8.toInt32).toInt8.toInt32) 393 11) + 1)) 393 11) (((v.toUInt32 >>> ((8 : Int32).toUInt32 &&& Int32.toUInt32 31)).toInt32).toInt8.toInt32).toInt8.toInt32) 393 11 (((zup (zup (zup (zup (zup sg 401 (sg 393 11) (((v.toUInt32 >>> ((24 : Int32).toUInt32 &&& Int32.toUInt32 31)).toInt32).toInt8.toInt32).toInt8.toInt32) 393 11 (((zup sg 401 (sg 393 11) (((v.toUInt32 >>> ((24 : Int32).toUInt32 &&& Int32.toUInt32 31)).toInt32).toInt8.toInt32).toInt8.toInt32) 393 11) + 1)) 401 ((zup (zup sg 401 (sg 393 11) (((v.toUInt32 >>> ((24 : Int32).toUInt32 &&& Int32.toUInt32 31)).toInt32).toInt8.toInt32).toInt8.toInt32) 393 11 (((zup sg 401 (sg 393 11) (((v.toUInt32 >>> ((24 : Int32).toUInt32 &&& Int32.toUInt32 31)).toInt32).toInt8.toInt32).toInt8.toInt32) 393 11) + 1)) 393 11) (((v.toUInt32 >>> ((16 : Int32).toUInt32 &&& Int32.toUInt32 31)).toInt32).toInt8.toInt32).toInt8.toInt32) 393 11 (((zup (zup (zup sg 401 (sg 393 11) (((v.toUInt32 >>> ((24 : Int32).toUInt32 &&& Int32.toUInt32 31)).toInt32).toInt8.toInt32).toInt8.toInt32) 393 11 (((zup sg 401 (sg 393 11) (((v.toUInt32 >>> ((24 : Int32).toUInt32 &&& Int32.toUInt32 31)).toInt32).toInt8.toInt32).toInt8.toInt32) 393 11) + 1)) 401 ((zup (zup sg 401 (sg 393 11) (((v.toUInt32 >>> ((24 : Int32).toUInt32 &&& Int32.toUInt32 31)).toInt32).toInt8.toInt32).toInt8.toInt32) 393 11 (((zup sg 401 (sg 393 11) (((v.toUInt32 >>> ((24 : Int32).toUInt32 &&& Int32.toUInt32 31)).toInt32).toInt8.toInt32).toInt8.toInt32) 393 11) + 1)) 393 11) (((v.toUInt32 >>> ((16 : Int32).toUInt32 &&& Int32.toUInt32 31)).toInt32).toInt8.toInt32).toInt8.toInt32) 393 11) + 1)) 401 ((zup (zup (zup (zup sg 401 (sg 393 11) (((v.toUInt32 >>> ((24 : Int32).toUInt32 &&& Int32.toUInt32 31)).toInt32).toInt8.toInt32).toInt8.toInt32) 393 11 (((zup sg 401 (sg 393 11) (((v.toUInt32 >>> ((24 : Int32).toUInt32 &&& Int32.toUInt32 31)).toInt32).toInt8.toInt32).toInt8.toInt32) 393 11) + 1)) 401 ((zup (zup sg 401 (sg 393 11) (((v.toUInt32 >>> ((24 : Int32).toUInt32 &&& Int32.toUInt32 31)).toInt32).toInt8.toInt32).toInt8.toInt32) 393 11 (((zup sg 401 (sg 393 11) (((v.toUInt32 >>> ((24 : Int32).toUInt32 &&& Int32.toUInt32 31)).toInt32).toInt8.toInt32).toInt8.toInt32) 393 11) + 1)) 393 11) (((v.toUInt32 >>> ((16 : Int32).toUInt32 &&& Int32.toUInt32 31)).toInt32).toInt8.toInt32).toInt8.toInt32) 393 11 (((zup (zup (zup sg 401 (sg 393 11) (((v.toUInt32 >>> ((24 : Int32).toUInt32 &&& Int32.toUInt32 31)).toInt32).toInt8.toInt32).toInt8.toInt32) 393 11 (((zup sg 401 (sg 393 11) (((v.toUInt32 >>> ((24 : Int32).toUInt32 &&& Int32.toUInt32 31)).toInt32).toInt8.toInt32).toInt8.toInt32) 393 11) + 1)) 401 ((zup (zup sg 401 (sg 393 11) (((v.toUInt32 >>> ((24 : Int32).toUInt32 &&& Int32.toUInt32 31)).toInt32).toInt8.toInt32).toInt8.toInt32) 393 11 (((zup sg 401 (sg 393 11) (((v.toUInt32 >>> ((24 : Int32).toUInt32 &&& Int32.toUInt32 31)).toInt32).toInt8.toInt32).toInt8.toInt32) 393 11) + 1)) 393 11) (((v.toUInt32 >>> ((16 : Int32).toUInt32 &&& Int32.toUInt32 31)).toInt32).toInt8.toInt32).toInt8.toInt32) 393 11) + 1)) 393 11) (((v.toUInt32 >>> ((8 : Int32).toUInt32 &&& Int32.toUInt32 31)).toInt32).toInt8.toInt32).toInt8.toInt32) 393 11) + 1)) 393 11) (((v.toUInt32 >>> ((0 : Int32).toUInt32 &&& Int32.toUInt32 31)).toInt32).toInt8.toInt32).toInt8.toInt32)) 393 10]) rfl (zA ⟨zob_393, rfl⟩ (zA zob_393 (zA (zin_401 (i := (zup (zup (zup (zup (zup (zup sg 401 (sg 393 11) (((v.toUInt32 >>> ((24 : Int32).toUInt32 &&& Int32.toUInt32 31)).toInt32).toInt8.toInt32).toInt8.toInt32) 393 11 (((zup sg 401 (sg 393 11) (((v.toUInt32 >>> ((24 : Int32).toUInt32 &&& Int32.toUInt32 31)).toInt32).toInt8.toInt32).toInt8.toInt32) 393 11) + 1)) 401 ((zup (zup sg 401 (sg 393 11) (((v.toUInt32 >>> ((24 : Int32).toUInt32 &&& Int32.toUInt32 31)).toInt32).toInt8.toInt32).toInt8.toInt32) 393 11 (((zup sg 401 (sg 393 11) (((v.toUInt32 >>> ((24 : Int32).toUInt32 &&& Int32.toUInt32 31)).toInt32).toInt8.toInt32).toInt8.toInt32) 393 11) + 1)) 393 11) (((v.toUInt32 >>> ((16 : Int32).toUInt32 &&& Int32.toUInt32 31)).toInt32).toInt8.toInt32).toInt8.toInt32) 393 11 (((zup (zup (zup sg 401 (sg 393 11) (((v.toUInt32 >>> ((24 : Int32).toUInt32 &&& Int32.toUInt32 31)).toInt32).toInt8.toInt32).toInt8.toInt32) 393 11 (((zup sg 401 (sg 393 11) (((v.toUInt32 >>> ((24 : Int32).toUInt32 &&& Int32.toUInt32 31)).toInt32).toInt8.toInt32).toInt8.toInt32) 393 11) + 1)) 401 ((zup (zup sg 401 (sg 393 11) (((v.toUInt32 >>> ((24 : Int32).toUInt32 &&& Int32.toUInt32 31)).toInt32).toInt8.toInt32).toInt8.toInt32) 393 11 (((zup sg 401 (sg 393 11) (((v.toUInt32 >>> ((24 : Int32).toUInt32 &&& Int32.toUInt32 31)).toInt32).toInt8.toInt32).toInt8.toInt32) 393 11) + 1)) 393 11) (((v.toUInt32 >>> ((16 : Int32).toUInt32 &&& Int32.toUInt32 31)).toInt32).toInt8.toInt32).toInt8.toInt32) 393 11) + 1)) 401 ((zup (zup (zup (zup sg 401 (sg 393 11) (((v.toUInt32 >>> ((24 : Int32).toUInt32 &&& Int32.toUInt32 31)).toInt32).toInt8.toInt32).toInt8.toInt32) 393 11 (((zup sg 401 (sg 393 11) (((v.toUInt32 >>> ((24 : Int32).toUInt32 &&& Int32.toUInt32 31)).toInt32).toInt8.toInt32).toInt8.toInt32) 393 11) + 1)) 401 ((zup (zup sg 401 (sg 393 11) (((v.toUInt32 >>> ((24 : Int32).toUInt32 &&& Int32.toUInt32 31)).toInt32).toInt8.toInt32).toInt8.toInt32) 393 11 (((zup sg 401 (sg 393 11) (((v.toUInt32 >>> ((24 : Int32).toUInt32 &&& Int32.toUInt32 31)).toInt32).toInt8.toInt32).toInt8.toInt32) 393 11) + 1)) 393 11) (((v.toUInt32 >>> ((16 : Int32).toUInt32 &&& Int32.toUInt32 31)).toInt32).toInt8.toInt32).toInt8.toInt32) 393 11 (((zup (zup (zup sg 401 (sg 393 11) (((v.toUInt32 >>> ((24 : Int32).toUInt32 &&& Int32.toUInt32 31)).toInt32).toInt8.toInt32).toInt8.toInt32) 393 11 (((zup sg 401 (sg 393 11) (((v.toUInt32 >>> ((24 : Int32).toUInt32 &&& Int32.toUInt32 31)).toInt32).toInt8.toInt32).toInt8.toInt32) 393 11) + 1)) 401 ((zup (zup sg 401 (sg 393 11) (((v.toUInt32 >>> ((24 : Int32).toUInt32 &&& Int32.toUInt32 31)).toInt32).toInt8.toInt32).toInt8.toInt32) 393 11 (((zup sg 401 (sg 393 11) (((v.toUInt32 >>> ((24 : Int32).toUInt32 &&& Int32.toUInt32 31)).toInt32).toInt8.toInt32).toInt8.toInt32) 393 11) + 1)) 393 11) (((v.toUInt32 >>> ((16 : Int32).toUInt32 &&& Int32.toUInt32 31)).toInt32).toInt8.toInt32).toInt8.toInt32) 393 11) + 1)) 393 11) (((v.toUInt32 >>> ((8 : Int32).toUInt32 &&& Int32.toUInt32 31)).toInt32).toInt8.toInt32).toInt8.toInt32) 393 11 (((zup (zup (zup (zup (zup sg 401 (sg 393 11) (((v.toUInt32 >>> ((24 : Int32).toUInt32 &&& Int32.toUInt32 31)).toInt32).toInt8.toInt32).toInt8.toInt32) 393 11 (((zup sg 401 (sg 393 11) (((v.toUInt32 >>> ((24 : Int32).toUInt32 &&& Int32.toUInt32 31)).toInt32).toInt8.toInt32).toInt8.toInt32) 393 11) + 1)) 401 ((zup (zup sg 401 (sg 393 11) (((v.toUInt32 >>> ((24 : Int32).toUInt32 &&& Int32.toUInt32 31)).toInt32).toInt8.toInt32).toInt8.toInt32) 393 11 (((zup sg 401 (sg 393 11) (((v.toUInt32 >>> ((24 : Int32).toUInt32 &&& Int32.toUInt32 31)).toInt32).toInt8.toInt32).toInt8.toInt32) 393 11) + 1)) 393 11) (((v.toUInt32 >>> ((16 : Int32).toUInt32 &&& Int32.toUInt32 31)).toInt32).toInt8.toInt32).toInt8.toInt32) 393 11 (((zup (zup (zup sg 401 (sg 393 11) (((v.toUInt32 >>> ((24 : Int32).toUInt32 &&& Int32.toUInt32 31)).toInt32).toInt8.toInt32).toInt8.toInt32) 393 11 (((zup sg 401 (sg 393 11) (((v.toUInt32 >>> ((24 : Int32).toUInt32 &&& Int32.toUInt32 31)).toInt32).toInt8.toInt32).toInt8.toInt32) 393 11) + 1)) 401 ((zup (zup sg 401 (sg 393 11) (((v.toUInt32 >>> ((24 : Int32).toUInt32 &&& Int32.toUInt32 31)).toInt32).toInt8.toInt32).toInt8.toInt32) 393 11 (((zup sg 401 (sg 393 11) (((v.toUInt32 >>> ((24 : Int32).toUInt32 &&& Int32.toUInt32 31)).toInt32).toInt8.toInt32).toInt8.toInt32) 393 11) + 1)) 393 11) (((v.toUInt32 >>> ((16 : Int32).toUInt32 &&& Int32.toUInt32 31)).toInt32).toInt8.toInt32).toInt8.toInt32) 393 11) + 1)) 401 ((zup (zup (zup (zup sg 401 (sg 393 11) (((v.toUInt32 >>> ((24 : Int32).toUInt32 &&& Int32.toUInt32 31)).toInt32).toInt8.toInt32).toInt8.toInt32) 393 11 (((zup sg 401 (sg 393 11) (((v.toUInt32 >>> ((24 : Int32).toUInt32 &&& Int32.toUInt32 31)).toInt32).toInt8.toInt32).toInt8.toInt32) 393 11) + 1)) 401 ((zup (zup sg 401 (sg 393 11) (((v.toUInt32 >>> ((24 : Int32).toUInt32 &&& Int32.toUInt32 31)).toInt32).toInt8.toInt32).toInt8.toInt32) 393 11 (((zup sg 401 (sg 393 11) (((v.toUInt32 >>> ((24 : Int32).toUInt32 &&& Int32.toUInt32 31)).toInt32).toInt8.toInt32).toInt8.toInt32) 393 11) + 1)) 393 11) (((v.toUInt32 >>> ((16 : Int32).toUInt32 &&& Int32.toUInt32 31)).toInt32).toInt8.toInt32).toInt8.toInt32) 393 11 (((zup (zup (zup sg 401 (sg 393 11) (((v.toUInt32 >>> ((24 : Int32).toUInt32 &&& Int32.toUInt32 31)).toInt32).toInt8.toInt32).toInt8.toInt32) 393 11 (((zup sg 401 (sg 393 11) (((v.toUInt32 >>> ((24 : Int32).toUInt32 &&& Int32.toUInt32 31)).toInt32).toInt8.toInt32).toInt8.toInt32) 393 11) + 1)) 401 ((zup (zup sg 401 (sg 393 11) (((v.toUInt32 >>> ((24 : Int32).toUInt32 &&& Int32.toUInt32 31)).toInt32).toInt8.toInt32).toInt8.toInt32) 393 11 (((zup sg 401 (sg 393 11) (((v.toUInt32 >>> ((24 : Int32).toUInt32 &&& Int32.toUInt32 31)).toInt32).toInt8.toInt32).toInt8.toInt32) 393 11) + 1)) 393 11) (((v.toUInt32 >>> ((16 : Int32).toUInt32 &&& Int32.toUInt32 31)).toInt32).toInt8.toInt32).toInt8.toInt32) 393 11) + 1)) 393 11) (((v.toUInt32 >>> ((8 : Int32).toUInt32 &&& Int32.toUInt32 31)).toInt32).toInt8.toInt32).toInt8.toInt32) 393 11) + 1)) 393 11) (by (try simp only [zup_e]); grind) (by (try simp only [zup_e]); grind)) (zA zob_393 (zA zob_393 trivial))))) (fun c5 => ?_) (fun c5 => ?_)
          · skip
            refine zb_vret bkMo_comes_36 bdMo_comes_36 rfl (h' := zN (zup (zup (zup (zup (zup (zup (zup (zup sg 401 (sg 393 11) (((v.toUInt32 >>> ((24 : Int32).toUInt32 &&& Int32.toUInt32 31)).toInt32).toInt8.toInt32).toInt8.toInt32) 393 11 (((zup sg 401 (sg 393 11) (((v.toUInt32 >>> ((24 : Int32).toUInt32 &&& Int32.toUInt32 31)).toInt32).toInt8.toInt32).toInt8.toInt32) 393 11) + 1)) 401 ((zup (zup sg 401 (sg 393 11) (((v.toUInt32 >>> ((24 : Int32).toUInt32 &&& Int32.toUInt32 31)).toInt32).toInt8.toInt32).toInt8.toInt32) 393 11 (((zup sg 401 (sg 393 11) (((v.toUInt32 >>> ((24 : Int32).toUInt32 &&& Int32.toUInt32 31)).toInt32).toInt8.toInt32).toInt8.toInt32) 393 11) + 1)) 393 11) (((v.toUInt32 >>> ((16 : Int32).toUInt32 &&& Int32.toUInt32 31)).toInt32).toInt8.toInt32).toInt8.toInt32) 393 11 (((zup (zup (zup sg 401 (sg 393 11) (((v.toUInt32 >>> ((24 : Int32).toUInt32 &&& Int32.toUInt32 31)).toInt32).toInt8.toInt32).toInt8.toInt32) 393 11 (((zup sg 401 (sg 393 11) (((v.toUInt32 >>> ((24 : Int32).toUInt32 &&& Int32.toUInt32 31)).toInt32).toInt8.toInt32).toInt8.toInt32) 393 11) + 1)) 401 ((zup (zup sg 401 (sg 393 11) (((v.toUInt32 >>> ((24 : Int32).toUInt32 &&& Int32.toUInt32 31)).toInt32).toInt8.toInt32).toInt8.toInt32) 393 11 (((zup sg 401 (sg 393 11) (((v.toUInt32 >>> ((24 : Int32).toUInt32 &&& Int32.toUInt32 31)).toInt32).toInt8.toInt32).toInt8.toInt32) 393 11) + 1)) 393 11) (((v.toUInt32 >>> ((16 : Int32).toUInt32 &&& Int32.toUInt32 31)).toInt32).toInt8.toInt32).toInt8.toInt32) 393 11) + 1)) 401 ((zup (zup (zup (zup sg 401 (sg 393 11) (((v.toUInt32 >>> ((24 : Int32).toUInt32 &&& Int32.toUInt32 31)).toInt32).toInt8.toInt32).toInt8.toInt32) 393 11 (((zup sg 401 (sg 393 11) (((v.toUInt32 >>> ((24 : Int32).toUInt32 &&& Int32.toUInt32 31)).toInt32).toInt8.toInt32).toInt8.toInt32) 393 11) + 1)) 401 ((zup (zup sg 401 (sg 393 11) (((v.toUInt32 >>> ((24 : Int32).toUInt32 &&& Int32.toUInt32 31)).toInt32).toInt8.toInt32).toInt8.toInt32) 393 11 (((zup sg 401 (sg 393 11) (((v.toUInt32 >>> ((24 : Int32).toUInt32 &&& Int32.toUInt32 31)).toInt32).toInt8.toInt32).toInt8.toInt32) 393 11) + 1)) 393 11) (((v.toUInt32 >>> ((16 : Int32).toUInt32 &&& Int32.toUInt32 31)).toInt32).toInt8.toInt32).toInt8.toInt32) 393 11 (((zup (zup (zup sg 401 (sg 393 11) (((v.toUInt32 >>> ((24 : Int32).toUInt32 &&& Int32.toUInt32 31)).toInt32).toInt8.toInt32).toInt8.toInt32) 393 11 (((zup sg 401 (sg 393 11) (((v.toUInt32 >>> ((24 : Int32).toUInt32 &&& Int32.toUInt32 31)).toInt32).toInt8.toInt32).toInt8.toInt32) 393 11) + 1)) 401 ((zup (zup sg 401 (sg 393 11) (((v.toUInt32 >>> ((24 : Int32).toUInt32 &&& Int32.toUInt32 31)).toInt32).toInt8.toInt32).toInt8.toInt32) 393 11 (((zup sg 401 (sg 393 11) (((v.toUInt32 >>> ((24 : Int32).toUInt32 &&& Int32.toUInt32 31)).toInt32).toInt8.toInt32).toInt8.toInt32) 393 11) + 1)) 393 11) (((v.toUInt32 >>> ((16 : Int32).toUInt32 &&& Int32.toUInt32 31)).toInt32).toInt8.toInt32).toInt8.toInt32) 393 11) + 1)) 393 11) (((v.toUInt32 >>> ((8 : Int32).toUInt32 &&& Int32.toUInt32 31)).toInt32).toInt8.toInt32).toInt8.toInt32) 393 11 (((zup (zup (zup (zup (zup sg 401 (sg 393 11) (((v.toUInt32 >>> ((24 : Int32).toUInt32 &&& Int32.toUInt32 31)).toInt32).toInt8.toInt32).toInt8.toInt32) 393 11 (((zup sg 401 (sg 393 11) (((v.toUInt32 >>> ((24 : Int32).toUInt32 &&& Int32.toUInt32 31)).toInt32).toInt8.toInt32).toInt8.toInt32) 393 11) + 1)) 401 ((zup (zup sg 401 (sg 393 11) (((v.toUInt32 >>> ((24 : Int32).toUInt32 &&& Int32.toUInt32 31)).toInt32).toInt8.toInt32).toInt8.toInt32) 393 11 (((zup sg 401 (sg 393 11) (((v.toUInt32 >>> ((24 : Int32).toUInt32 &&& Int32.toUInt32 31)).toInt32).toInt8.toInt32).toInt8.toInt32) 393 11) + 1)) 393 11) (((v.toUInt32 >>> ((16 : Int32).toUInt32 &&& Int32.toUInt32 31)).toInt32).toInt8.toInt32).toInt8.toInt32) 393 11 (((zup (zup (zup sg 401 (sg 393 11) (((v.toUInt32 >>> ((24 : Int32).toUInt32 &&& Int32.toUInt32 31)).toInt32).toInt8.toInt32).toInt8.toInt32) 393 11 (((zup sg 401 (sg 393 11) (((v.toUInt32 >>> ((24 : Int32).toUInt32 &&& Int32.toUInt32 31)).toInt32).toInt8.toInt32).toInt8.toInt32) 393 11) + 1)) 401 ((zup (zup sg 401 (sg 393 11) (((v.toUInt32 >>> ((24 : Int32).toUInt32 &&& Int32.toUInt32 31)).toInt32).toInt8.toInt32).toInt8.toInt32) 393 11 (((zup sg 401 (sg 393 11) (((v.toUInt32 >>> ((24 : Int32).toUInt32 &&& Int32.toUInt32 31)).toInt32).toInt8.toInt32).toInt8.toInt32) 393 11) + 1)) 393 11) (((v.toUInt32 >>> ((16 : Int32).toUInt32 &&& Int32.toUInt32 31)).toInt32).toInt8.toInt32).toInt8.toInt32) 393 11) + 1)) 401 ((zup (zup (zup (zup sg 401 (sg 393 11) (((v.toUInt32 >>> ((24 : Int32).toUInt32 &&& Int32.toUInt32 31)).toInt32).toInt8.toInt32).toInt8.toInt32) 393 11 (((zup sg 401 (sg 393 11) (((v.toUInt32 >>> ((24 : Int32).toUInt32 &&& Int32.toUInt32 31)).toInt32).toInt8.toInt32).toInt8.toInt32) 393 11) + 1)) 401 ((zup (zup sg 401 (sg 393 11) (((v.toUInt32 >>> ((24 : Int32).toUInt32 &&& Int32.toUInt32 31)).toInt32).toInt8.toInt32).toInt8.toInt32) 393 11 (((zup sg 401 (sg 393 11) (((v.toUInt32 >>> ((24 : Int32).toUInt32 &&& Int32.toUInt32 31)).toInt32).toInt8.toInt32).toInt8.toInt32) 393 11) + 1)) 393 11) (((v.toUInt32 >>> ((16 : Int32).toUInt32 &&& Int32.toUInt32 31)).toInt32).toInt8.toInt32).toInt8.toInt32) 393 11 (((zup (zup (zup sg 401 (sg 393 11) (((v.toUInt32 >>> ((24 : Int32).toUInt32 &&& Int32.toUInt32 31)).toInt32).toInt8.toInt32).toInt8.toInt32) 393 11 (((zup sg 401 (sg 393 11) (((v.toUInt32 >>> ((24 : Int32).toUInt32 &&& Int32.toUInt32 31)).toInt32).toInt8.toInt32).toInt8.toInt32) 393 11) + 1)) 401 ((zup (zup sg 401 (sg 393 11) (((v.toUInt32 >>> ((24 : Int32).toUInt32 &&& Int32.toUInt32 31)).toInt32).toInt8.toInt32).toInt8.toInt32) 393 11 (((zup sg 401 (sg 393 11) (((v.toUInt32 >>> ((24 : Int32).toUInt32 &&& Int32.toUInt32 31)).toInt32).toInt8.toInt32).toInt8.toInt32) 393 11) + 1)) 393 11) (((v.toUInt32 >>> ((16 : Int32).toUInt32 &&& Int32.toUInt32 31)).toInt32).toInt8.toInt32).toInt8.toInt32) 393 11) + 1)) 393 11) (((v.toUInt32 >>> ((8 : Int32).toUInt32 &&& Int32.toUInt32 31)).toInt32).toInt8.toInt32).toInt8.toInt32) 393 11) + 1)) 401 ((zup (zup (zup (zup (zup (zup sg 401 (sg 393 11) (((v.toUInt32 >>> ((24 : Int32).toUInt32 &&& Int32.toUInt32 31)).toInt32).toInt8.toInt32).toInt8.toInt32) 393 11 (((zup sg 401 (sg 393 11) (((v.toUInt32 >>> ((24 : Int32).toUInt32 &&& Int32.toUInt32 31)).toInt32).toInt8.toInt32).toInt8.toInt32) 393 11) + 1)) 401 ((zup (zup sg 401 (sg 393 11) (((v.toUInt32 >>> ((24 : Int32).toUInt32 &&& Int32.toUInt32 31)).toInt32).toInt8.toInt32).toInt8.toInt32) 393 11 (((zup sg 401 (sg 393 11) (((v.toUInt32 >>> ((24 : Int32).toUInt32 &&& Int32.toUInt32 31)).toInt32).toInt8.toInt32).toInt8.toInt32) 393 11) + 1)) 393 11) (((v.toUInt32 >>> ((16 : Int32).toUInt32 &&& Int32.toUInt32 31)).toInt32).toInt8.toInt32).toInt8.toInt32) 393 11 (((zup (zup (zup sg 401 (sg 393 11) (((v.toUInt32 >>> ((24 : Int32).toUInt32 &&& Int32.toUInt32 31)).toInt32).toInt8.toInt32).toInt8.toInt32) 393 11 (((zup sg 401 (sg 393 11) (((v.toUInt32 >>> ((24 : Int32).toUInt32 &&& Int32.toUInt32 31)).toInt32).toInt8.toInt32).toInt8.toInt32) 393 11) + 1)) 401 ((zup (zup sg 401 (sg 393 11) (((v.toUInt32 >>> ((24 : Int32).toUInt32 &&& Int32.toUInt32 31)).toInt32).toInt8.toInt32).toInt8.toInt32) 393 11 (((zup sg 401 (sg 393 11) (((v.toUInt32 >>> ((24 : Int32).toUInt32 &&& Int32.toUInt32 31)).toInt32).toInt8.toInt32).toInt8.toInt32) 393 11) + 1)) 393 11) (((v.toUInt32 >>> ((16 : Int32).toUInt32 &&& Int32.toUInt32 31)).toInt32).toInt8.toInt32).toInt8.toInt32) 393 11) + 1)) 401 ((zup (zup (zup (zup sg 401 (sg 393 11) (((v.toUInt32 >>> ((24 : Int32).toUInt32 &&& Int32.toUInt32 31)).toInt32).toInt8.toInt32).toInt8.toInt32) 393 11 (((zup sg 401 (sg 393 11) (((v.toUInt32 >>> ((24 : Int32).toUInt32 &&& Int32.toUInt32 31)).toInt32).toInt8.toInt32).toInt8.toInt32) 393 11) + 1)) 401 ((zup (zup sg 401 (sg 393 11) (((v.toUInt32 >>> ((24 : Int32).toUInt32 &&& Int32.toUInt32 31)).toInt32).toInt8.toInt32).toInt8.toInt32) 393 11 (((zup sg 401 (sg 393 11) (((v.toUInt32 >>> ((24 : Int32).toUInt32 &&& Int32.toUInt32 31)).toInt32).toInt8.toInt32).toInt8.toInt32) 393 11) + 1)) 393 11) (((v.toUInt32 >>> ((16 : Int32).toUInt32 &&& Int32.toUInt32 31)).toInt32).toInt8.toInt32).toInt8.toInt32) 393 11 (((zup (zup (zup sg 401 (sg 393 11) (((v.toUInt32 >>> ((24 : Int32).toUInt32 &&& Int32.toUInt32 31)).toInt32).toInt8.toInt32).toInt8.toInt32) 393 11 (((zup sg 401 (sg 393 11) (((v.toUInt32 >>> ((24 : Int32).toUInt32 &&& Int32.toUInt32 31)).toInt32).toInt8.toInt32).toInt8.toInt32) 393 11) + 1)) 401 ((zup (zup sg 401 (sg 393 11) (((v.toUInt32 >>> ((24 : Int32).toUInt32 &&& Int32.toUInt32 31)).toInt32).toInt8.toInt32).toInt8.toInt32) 393 11 (((zup sg 401 (sg 393 11) (((v.toUInt32 >>> ((24 : Int32).toUInt32 &&& Int32.toUInt32 31)).toInt32).toInt8.toInt32).toInt8.toInt32) 393 11) + 1)) 393 11) (((v.toUInt32 >>> ((16 : Int32).toUInt32 &&& Int32.toUInt32 31)).toInt32).toInt8.toInt32).toInt8.toInt32) 393 11) + 1)) 393 11) (((v.toUInt32 >>> ((8 : Int32).toUInt32 &&& Int32.toUInt32 31)).toInt32).toInt8.toInt32).toInt8.toInt32) 393 11 (((zup (zup (zup (zup (zup sg 401 (sg 393 11) (((v.toUInt32 >>> ((24 : Int32).toUInt32 &&& Int32.toUInt32 31)).toInt32).toInt8.toInt32).toInt8.toInt32) 393 11 (((zup sg 401 (sg 393 11) (((v.toUInt32 >>> ((24 : Int32).toUInt32 &&& Int32.toUInt32 31)).toInt32).toInt8.toInt32).toInt8.toInt32) 393 11) + 1)) 401 ((zup (zup sg 401 (sg 393 11) (((v.toUInt32 >>> ((24 : Int32).toUInt32 &&& Int32.toUInt32 31)).toInt32).toInt8.toInt32).toInt8.toInt32) 393 11 (((zup sg 401 (sg 393 11) (((v.toUInt32 >>> ((24 : Int32).toUInt32 &&& Int32.toUInt32 31)).toInt32).toInt8.toInt32).toInt8.toInt32) 393 11) + 1)) 393 11) (((v.toUInt32 >>> ((16 : Int32).toUInt32 &&& Int32.toUInt32 31)).toInt32).toInt8.toInt32).toInt8.toInt32) 393 11 (((zup (zup (zup sg 401 (sg 393 11) (((v.toUInt32 >>> ((24 : Int32).toUInt32 &&& Int32.toUInt32 31)).toInt32).toInt8.toInt32).toInt8.toInt32) 393 11 (((zup sg 401 (sg 393 11) (((v.toUInt32 >>> ((24 : Int32).toUInt32 &&& Int32.toUInt32 31)).toInt32).toInt8.toInt32).toInt8.toInt32) 393 11) + 1)) 401 ((zup (zup sg 401 (sg 393 11) (((v.toUInt32 >>> ((24 : Int32).toUInt32 &&& Int32.toUInt32 31)).toInt32).toInt8.toInt32).toInt8.toInt32) 393 11 (((zup sg 401 (sg 393 11) (((v.toUInt32 >>> ((24 : Int32).toUInt32 &&& Int32.toUInt32 31)).toInt32).toInt8.toInt32).toInt8.toInt32) 393 11) + 1)) 393 11) (((v.toUInt32 >>> ((16 : Int32).toUInt32 &&& Int32.toUInt32 31)).toInt32).toInt8.toInt32).toInt8.toInt32) 393 11) + 1)) 401 ((zup (zup (zup (zup sg 401 (sg 393 11) (((v.toUInt32 >>> ((24 : Int32).toUInt32 &&& Int32.toUInt32 31)).toInt32).toInt8.toInt32).toInt8.toInt32) 393 11 (((zup sg 401 (sg 393 11) (((v.toUInt32 >>> ((24 : Int32).toUInt32 &&& Int32.toUInt32 31)).toInt32).toInt8.toInt32).toInt8.toInt32) 393 11) + 1)) 401 ((zup (zup sg 401 (sg 393 11) (((v.toUInt32 >>> ((24 : Int32).toUInt32 &&& Int32.toUInt32 31)).toInt32).toInt8.toInt32).toInt8.toInt32) 393 11 (((zup sg 401 (sg 393 11) (((v.toUInt32 >>> ((24 : Int32).toUInt32 &&& Int32.toUInt32 31)).toInt32).toInt8.toInt32).toInt8.toInt32) 393 11) + 1)) 393 11) (((v.toUInt32 >>> ((16 : Int32).toUInt32 &&& Int32.toUInt32 31)).toInt32).toInt8.toInt32).toInt8.toInt32) 393 11 (((zup (zup (zup sg 401 (sg 393 11) (((v.toUInt32 >>> ((24 : Int32).toUInt32 &&& Int32.toUInt32 31)).toInt32).toInt8.toInt32).toInt8.toInt32) 393 11 (((zup sg 401 (sg 393 11) (((v.toUInt32 >>> ((24 : Int32).toUInt32 &&& Int32.toUInt32 31)).toInt32).toInt8.toInt32).toInt8.toInt32) 393 11) + 1)) 401 ((zup (zup sg 401 (sg 393 11) (((v.toUInt32 >>> ((24 : Int32).toUInt32 &&& Int32.toUInt32 31)).toInt32).toInt8.toInt32).toInt8.toInt32) 393 11 (((zup sg 401 (sg 393 11) (((v.toUInt32 >>> ((24 : Int32).toUInt32 &&& Int32.toUInt32 31)).toInt32).toInt8.toInt32).toInt8.toInt32) 393 11) + 1)) 393 11) (((v.toUInt32 >>> ((16 : Int32).toUInt32 &&& Int32.toUInt32 31)).toInt32).toInt8.toInt32).toInt8.toInt32) 393 11) + 1)) 393 11) (((v.toUInt32 >>> ((8 : Int32).toUInt32 &&& Int32.toUInt32 31)).toInt32).toInt8.toInt32).toInt8.toInt32) 393 11) + 1)) 393 11) (((v.toUInt32 >>> ((0 : Int32).toUInt32 &&& Int32.toUInt32 31)).toInt32).toInt8.toInt32).toInt8.toInt32) 393 11 (((zup (zup (zup (zup (zup (zup (zup sg 401 (sg 393 11) (((v.toUInt32 >>> ((24 : Int32).toUInt32 &&& Int32.toUInt32 31)).toInt32).toInt8.toInt32).toInt8.toInt32) 393 11 (((zup sg 401 (sg 393 11) (((v.toUInt32 >>> ((24 : Int32).toUInt32 &&& Int32.toUInt32 31)).toInt32).toInt8.toInt32).toInt8.toInt32) 393 11) + 1)) 401 ((zup (zup sg 401 (sg 393 11) (((v.toUInt32 >>> ((24 : Int32).toUInt32 &&& Int32.toUInt32 31)).toInt32).toInt8.toInt32).toInt8.toInt32) 393 11 (((zup sg 401 (sg 393 11) (((v.toUInt32 >>> ((24 : Int32).toUInt32 &&& Int32.toUInt32 31)).toInt32).toInt8.toInt32).toInt8.toInt32) 393 11) + 1)) 393 11) (((v.toUInt32 >>> ((16 : Int32).toUInt32 &&& Int32.toUInt32 31)).toInt32).toInt8.toInt32).toInt8.toInt32) 393 11 (((zup (zup (zup sg 401 (sg 393 11) (((v.toUInt32 >>> ((24 : Int32).toUInt32 &&& Int32.toUInt32 31)).toInt32).toInt8.toInt32).toInt8.toInt32) 393 11 (((zup sg 401 (sg 393 11) (((v.toUInt32 >>> ((24 : Int32).toUInt32 &&& Int32.toUInt32 31)).toInt32).toInt8.toInt32).toInt8.toInt32) 393 11) + 1)) 401 ((zup (zup sg 401 (sg 393 11) (((v.toUInt32 >>> ((24 : Int32).toUInt32 &&& Int32.toUInt32 31)).toInt32).toInt8.toInt32).toInt8.toInt32) 393 11 (((zup sg 401 (sg 393 11) (((v.toUInt32 >>> ((24 : Int32).toUInt32 &&& Int32.toUInt32 31)).toInt32).toInt8.toInt32).toInt8.toInt32) 393 11) + 1)) 393 11) (((v.toUInt32 >>> ((16 : Int32).toUInt32 &&& Int32.toUInt32 31)).toInt32).toInt8.toInt32).toInt8.toInt32) 393 11) + 1)) 401 ((zup (zup (zup (zup sg 401 (sg 393 11) (((v.toUInt32 >>> ((24 : Int32).toUInt32 &&& Int32.toUInt32 31)).toInt32).toInt8.toInt32).toInt8.toInt32) 393 11 (((zup sg 401 (sg 393 11) (((v.toUInt32 >>> ((24 : Int32).toUInt32 &&& Int32.toUInt32 31)).toInt32).toInt8.toInt32).toInt8.toInt32) 393 11) + 1)) 401 ((zup (zup sg 401 (sg 393 11) (((v.toUInt32 >>> ((24 : Int32).toUInt32 &&& Int32.toUInt32 31)).toInt32).toInt8.toInt32).toInt8.toInt32) 393 11 (((zup sg 401 (sg 393 11) (((v.toUInt32 >>> ((24 : Int32).toUInt32 &&& Int32.toUInt32 31)).toInt32).toInt8.toInt32).toInt8.toInt32) 393 11) + 1)) 393 11) (((v.toUInt32 >>> ((16 : Int32).toUInt32 &&& Int32.toUInt32 31)).toInt32).toInt8.toInt32).toInt8.toInt32) 393 11 (((zup (zup (zup sg 401 (sg 393 11) (((v.toUInt32 >>> ((24 : Int32).toUInt32 &&& Int32.toUInt32 31)).toInt32).toInt8.toInt32).toInt8.toInt32) 393 11 (((zup sg 401 (sg 393 11) (((v.toUInt32 >>> ((24 : Int32).toUInt32 &&& Int32.toUInt32 31)).toInt32).toInt8.toInt32).toInt8.toInt32) 393 11) + 1)) 401 ((zup (zup sg 401 (sg 393 11) (((v.toUInt32 >>> ((24 : Int32).toUInt32 &&& Int32.toUInt32 31)).toInt32).toInt8.toInt32).toInt8.toInt32) 393 11 (((zup sg 401 (sg 393 11) (((v.toUInt32 >>> ((24 : Int32).toUInt32 &&& Int32.toUInt32 31)).toInt32).toInt8.toInt32).toInt8.toInt32) 393 11) + 1)) 393 11) (((v.toUInt32 >>> ((16 : Int32).toUInt32 &&& Int32.toUInt32 31)).toInt32).toInt8.toInt32).toInt8.toInt32) 393 11) + 1)) 393 11) (((v.toUInt32 >>> ((8 : Int32).toUInt32 &&& Int32.toUInt32 31)).toInt32).toInt8.toInt32).toInt8.toInt32) 393 11 (((zup (zup (zup (zup (zup sg 401 (sg 393 11) (((v.toUInt32 >>> ((24 : Int32).toUInt32 &&& Int32.toUInt32 31)).toInt32).toInt8.toInt32).toInt8.toInt32) 393 11 (((zup sg 401 (sg 393 11) (((v.toUInt32 >>> ((24 : Int32).toUInt32 &&& Int32.toUInt32 31)).toInt32).toInt8.toInt32).toInt8.toInt32) 393 11) + 1)) 401 ((zup (zup sg 401 (sg 393 11) (((v.toUInt32 >>> ((24 : Int32).toUInt32 &&& Int32.toUInt32 31)).toInt32).toInt8.toInt32).toInt8.toInt32) 393 11 (((zup sg 401 (sg 393 11) (((v.toUInt32 >>> ((24 : Int32).toUInt32 &&& Int32.toUInt32 31)).toInt32).toInt8.toInt32).toInt8.toInt32) 393 11) + 1)) 393 11) (((v.toUInt32 >>> ((16 : Int32).toUInt32 &&& Int32.toUInt32 31)).toInt32).toInt8.toInt32).toInt8.toInt32) 393 11 (((zup (zup (zup sg 401 (sg 393 11) (((v.toUInt32 >>> ((24 : Int32).toUInt32 &&& Int32.toUInt32 31)).toInt32).toInt8.toInt32).toInt8.toInt32) 393 11 (((zup sg 401 (sg 393 11) (((v.toUInt32 >>> ((24 : Int32).toUInt32 &&& Int32.toUInt32 31)).toInt32).toInt8.toInt32).toInt8.toInt32) 393 11) + 1)) 401 ((zup (zup sg 401 (sg 393 11) (((v.toUInt32 >>> ((24 : Int32).toUInt32 &&& Int32.toUInt32 31)).toInt32).toInt8.toInt32).toInt8.toInt32) 393 11 (((zup sg 401 (sg 393 11) (((v.toUInt32 >>> ((24 : Int32).toUInt32 &&& Int32.toUInt32 31)).toInt32).toInt8.toInt32).toInt8.toInt32) 393 11) + 1)) 393 11) (((v.toUInt32 >>> ((16 : Int32).toUInt32 &&& Int32.toUInt32 31)).toInt32).toInt8.toInt32).toInt8.toInt32) 393 11) + 1)) 401 ((zup (zup (zup (zup sg 401 (sg 393 11) (((v.toUInt32 >>> ((24 : Int32).toUInt32 &&& Int32.toUInt32 31)).toInt32).toInt8.toInt32).toInt8.toInt32) 393 11 (((zup sg 401 (sg 393 11) (((v.toUInt32 >>> ((24 : Int32).toUInt32 &&& Int32.toUInt32 31)).toInt32).toInt8.toInt32).toInt8.toInt32) 393 11) + 1)) 401 ((zup (zup sg 401 (sg 393 11) (((v.toUInt32 >>> ((24 : Int32).toUInt32 &&& Int32.toUInt32 31)).toInt32).toInt8.toInt32).toInt8.toInt32) 393 11 (((zup sg 401 (sg 393 11) (((v.toUInt32 >>> ((24 : Int32).toUInt32 &&& Int32.toUInt32 31)).toInt32).toInt8.toInt32).toInt8.toInt32) 393 11) + 1)) 393 11) (((v.toUInt32 >>> ((16 : Int32).toUInt32 &&& Int32.toUInt32 31)).toInt32).toInt8.toInt32).toInt8.toInt32) 393 11 (((zup (zup (zup sg 401 (sg 393 11) (((v.toUInt32 >>> ((24 : Int32).toUInt32 &&& Int32.toUInt32 31)).toInt32).toInt8.toInt32).toInt8.toInt32) 393 11 (((zup sg 401 (sg 393 11) (((v.toUInt32 >>> ((24 : Int32).toUInt32 &&& Int32.toUInt32 31)).toInt32).toInt8.toInt32).toInt8.toInt32) 393 11) + 1)) 401 ((zup (zup sg 401 (sg 393 11) (((v.toUInt32 >>> ((24 : Int32).toUInt32 &&& Int32.toUInt32 31)).toInt32).toInt8.toInt32).toInt8.toInt32) 393 11 (((zup sg 401 (sg 393 11) (((v.toUInt32 >>> ((24 : Int32).toUInt32 &&& Int32.toUInt32 31)).toInt32).toInt8.toInt32).toInt8.toInt32) 393 11) + 1)) 393 11) (((v.toUInt32 >>> ((16 : Int32).toUInt32 &&& Int32.toUInt32 31)).toInt32).toInt8.toInt32).toInt8.toInt32) 393 11) + 1)) 393 11) (((v.toUInt32 >>> ((8 : Int32).toUInt32 &&& Int32.toUInt32 31)).toInt32).toInt8.toInt32).toInt8.toInt32) 393 11) + 1)) 401 ((zup (zup (zup (zup (zup (zup sg 401 (sg 393 11) (((v.toUInt32 >>> ((24 : Int32).toUInt32 &&& Int32.toUInt32 31)).toInt32).toInt8.toInt32).toInt8.toInt32) 393 11 (((zup sg 401 (sg 393 11) (((v.toUInt32 >>> ((24 : Int32).toUInt32 &&& Int32.toUInt32 31)).toInt32).toInt8.toInt32).toInt8.toInt32) 393 11) + 1)) 401 ((zup (zup sg 401 (sg 393 11) (((v.toUInt32 >>> ((24 : Int32).toUInt32 &&& Int32.toUInt32 31)).toInt32).toInt8.toInt32).toInt8.toInt32) 393 11 (((zup sg 401 (sg 393 11) (((v.toUInt32 >>> ((24 : Int32).toUInt32 &&& Int32.toUInt32 31)).toInt32).toInt8.toInt32).toInt8.toInt32) 393 11) + 1)) 393 11) (((v.toUInt32 >>> ((16 : Int32).toUInt32 &&& Int32.toUInt32 31)).toInt32).toInt8.toInt32).toInt8.toInt32) 393 11 (((zup (zup (zup sg 401 (sg 393 11) (((v.toUInt32 >>> ((24 : Int32).toUInt32 &&& Int32.toUInt32 31)).toInt32).toInt8.toInt32).toInt8.toInt32) 393 11 (((zup sg 401 (sg 393 11) (((v.toUInt32 >>> ((24 : Int32).toUInt32 &&& Int32.toUInt32 31)).toInt32).toInt8.toInt32).toInt8.toInt32) 393 11) + 1)) 401 ((zup (zup sg 401 (sg 393 11) (((v.toUInt32 >>> ((24 : Int32).toUInt32 &&& Int32.toUInt32 31)).toInt32).toInt8.toInt32).toInt8.toInt32) 393 11 (((zup sg 401 (sg 393 11) (((v.toUInt32 >>> ((24 : Int32).toUInt32 &&& Int32.toUInt32 31)).toInt32).toInt8.toInt32).toInt8.toInt32) 393 11) + 1)) 393 11) (((v.toUInt32 >>> ((16 : Int32).toUInt32 &&& Int32.toUInt32 31)).toInt32).toInt8.toInt32).toInt8.toInt32) 393 11) + 1)) 401 ((zup (zup (zup (zup sg 401 (sg 393 11) (((v.toUInt32 >>> ((24 : Int32).toUInt32 &&& Int32.toUInt32 31)).toInt32).toInt8.toInt32).toInt8.toInt32) 393 11 (((zup sg 401 (sg 393 11) (((v.toUInt32 >>> ((24 : Int32).toUInt32 &&& Int32.toUInt32 31)).toInt32).toInt8.toInt32).toInt8.toInt32) 393 11) + 1)) 401 ((zup (zup sg 401 (sg 393 11) (((v.toUInt32 >>> ((24 : Int32).toUInt32 &&& Int32.toUInt32 31)).toInt32).toInt8.toInt32).toInt8.toInt32) 393 11 (((zup sg 401 (sg 393 11) (((v.toUInt32 >>> ((24 : Int32).toUInt32 &&& Int32.toUInt32 31)).toInt32).toInt8.toInt32).toInt8.toInt32) 393 11) + 1)) 393 11) (((v.toUInt32 >>> ((16 : Int32).toUInt32 &&& Int32.toUInt32 31)).toInt32).toInt8.toInt32).toInt8.toInt32) 393 11 (((zup (zup (zup sg 401 (sg 393 11) (((v.toUInt32 >>> ((24 : Int32).toUInt32 &&& Int32.toUInt32 31)).toInt32).toInt8.toInt32).toInt8.toInt32) 393 11 (((zup sg 401 (sg 393 11) (((v.toUInt32 >>> ((24 : Int32).toUInt32 &&& Int32.toUInt32 31)).toInt32).toInt8.toInt32).toInt8.toInt32) 393 11) + 1)) 401 ((zup (zup sg 401 (sg 393 11) (((v.toUInt32 >>> ((24 : Int32).toUInt32 &&& Int32.toUInt32 31)).toInt32).toInt8.toInt32).toInt8.toInt32) 393 11 (((zup sg 401 (sg 393 11) (((v.toUInt32 >>> ((24 : Int32).toUInt32 &&& Int32.toUInt32 31)).toInt32).toInt8.toInt32).toInt8.toInt32) 393 11) + 1)) 393 11) (((v.toUInt32 >>> ((16 : Int32).toUInt32 &&& Int32.toUInt32 31)).toInt32).toInt8.toInt32).toInt8.toInt32) 393 11) + 1)) 393 11) (((v.toUInt32 >>> ((8 : Int32).toUInt32 &&& Int32.toUInt32 31)).toInt32).toInt8.toInt32).toInt8.toInt32) 393 11 (((zup (zup (zup (zup (zup sg 401 (sg 393 11) (((v.toUInt32 >>> ((24 : Int32).toUInt32 &&& Int32.toUInt32 31)).toInt32).toInt8.toInt32).toInt8.toInt32) 393 11 (((zup sg 401 (sg 393 11) (((v.toUInt32 >>> ((24 : Int32).toUInt32 &&& Int32.toUInt32 31)).toInt32).toInt8.toInt32).toInt8.toInt32) 393 11) + 1)) 401 ((zup (zup sg 401 (sg 393 11) (((v.toUInt32 >>> ((24 : Int32).toUInt32 &&& Int32.toUInt32 31)).toInt32).toInt8.toInt32).toInt8.toInt32) 393 11 (((zup sg 401 (sg 393 11) (((v.toUInt32 >>> ((24 : Int32).toUInt32 &&& Int32.toUInt32 31)).toInt32).toInt8.toInt32).toInt8.toInt32) 393 11) + 1)) 393 11) (((v.toUInt32 >>> ((16 : Int32).toUInt32 &&& Int32.toUInt32 31)).toInt32).toInt8.toInt32).toInt8.toInt32) 393 11 (((zup (zup (zup sg 401 (sg 393 11) (((v.toUInt32 >>> ((24 : Int32).toUInt32 &&& Int32.toUInt32 31)).toInt32).toInt8.toInt32).toInt8.toInt32) 393 11 (((zup sg 401 (sg 393 11) (((v.toUInt32 >>> ((24 : Int32).toUInt32 &&& Int32.toUInt32 31)).toInt32).toInt8.toInt32).toInt8.toInt32) 393 11) + 1)) 401 ((zup (zup sg 401 (sg 393 11) (((v.toUInt32 >>> ((24 : Int32).toUInt32 &&& Int32.toUInt32 31)).toInt32).toInt8.toInt32).toInt8.toInt32) 393 11 (((zup sg 401 (sg 393 11) (((v.toUInt32 >>> ((24 : Int32).toUInt32 &&& Int32.toUInt32 31)).toInt32).toInt8.toInt32).toInt8.toInt32) 393 11) + 1)) 393 11) (((v.toUInt32 >>> ((16 : Int32).toUInt32 &&& Int32.toUInt32 31)).toInt32).toInt8.toInt32).toInt8.toInt32) 393 11) + 1)) 401 ((zup (zup (zup (zup sg 401 (sg 393 11) (((v.toUInt32 >>> ((24 : Int32).toUInt32 &&& Int32.toUInt32 31)).toInt32).toInt8.toInt32).toInt8.toInt32) 393 11 (((zup sg 401 (sg 393 11) (((v.toUInt32 >>> ((24 : Int32).toUInt32 &&& Int32.toUInt32 31)).toInt32).toInt8.toInt32).toInt8.toInt32) 393 11) + 1)) 401 ((zup (zup sg 401 (sg 393 11) (((v.toUInt32 >>> ((24 : Int32).toUInt32 &&& Int32.toUInt32 31)).toInt32).toInt8.toInt32).toInt8.toInt32) 393 11 (((zup sg 401 (sg 393 11) (((v.toUInt32 >>> ((24 : Int32).toUInt32 &&& Int32.toUInt32 31)).toInt32).toInt8.toInt32).toInt8.toInt32) 393 11) + 1)) 393 11) (((v.toUInt32 >>> ((16 : Int32).toUInt32 &&& Int32.toUInt32 31)).toInt32).toInt8.toInt32).toInt8.toInt32) 393 11 (((zup (zup (zup sg 401 (sg 393 11) (((v.toUInt32 >>> ((24 : Int32).toUInt32 &&& Int32.toUInt32 31)).toInt32).toInt8.toInt32).toInt8.toInt32) 393 11 (((zup sg 401 (sg 393 11) (((v.toUInt32 >>> ((24 : Int32).toUInt32 &&& Int32.toUInt32 31)).toInt32).toInt8.toInt32).toInt8.toInt32) 393 11) + 1)) 401 ((zup (zup sg 401 (sg 393 11) (((v.toUInt32 >>> ((24 : Int32).toUInt32 &&& Int32.toUInt32 31)).toInt32).toInt8.toInt32).toInt8.toInt32) 393 11 (((zup sg 401 (sg 393 11) (((v.toUInt32 >>> ((24 : Int32).toUInt32 &&& Int32.toUInt32 31)).toInt32).toInt8.toInt32).toInt8.toInt32) 393 11) + 1)) 393 11) (((v.toUInt32 >>> ((16 : Int32).toUInt32 &&& Int32.toUInt32 31)).toInt32).toInt8.toInt32).toInt8.toInt32) 393 11) + 1)) 393 11) (((v.toUInt32 >>> ((8 : Int32).toUInt32 &&& Int32.toUInt32 31)).toInt32).toInt8.toInt32).toInt8.toInt32) 393 11) + 1)) 393 11) (((v.toUInt32 >>> ((0 : Int32).toUInt32 &&& Int32.toUInt32 31)).toInt32).toInt8.toInt32).toInt8.toInt32) 393 11) + 1))) (Ps := []) rfl trivial rfl ?_
            refine ⟨rfl, ?_⟩
            congr 1
            funext a j
            simp only [hCm, zup_e, zi8i, zush0]
            grind (splits := 40)
          · exact absurd c5 (by decide)
end
section
/-! counting loops: printed by wip/whole/p14.py -/
theorem zG_pick {M : zMT} {N : Nat} {Q : Option Value → zHp → Prop} {pc : Nat} {lv lv' : zLv} {st : List Value} {h : zHp} (ks : List Nat) (hl : lv_pick lv ks = lv') (kk : zG M N Q pc lv' st h) : zG M N Q pc lv st h := by
  intro k p l e R s m args below meth c H ls locs cells slots Qf C P S L Z F
  refine kk k p l e R s m args below meth c H ls locs cells slots Qf C P S ⟨L.1, L.2.1, fun q hq => ?_⟩ Z F
  obtain ⟨q0, hq0, rfl⟩ := List.mem_map.mp hq
  rw [← hl] at hq0
  obtain ⟨i, -, hi⟩ := List.mem_filterMap.mp hq0
  exact L.2.2 _ (List.mem_map.mpr ⟨q0, List.mem_of_getElem? hi, rfl⟩)
theorem zit_congr {A : Type} {f g : Int32 → A → A} {a : A} {n : Int32} (hn : 0 ≤ n) (h : ∀ i x, 0 ≤ i → i < n → f i x = g i x) : zit f a n = zit g a n := by
  obtain ⟨m, hm, rfl⟩ := znn hn
  have key : ∀ j : Nat, j ≤ m → zitN f a j = zitN g a j := by
    intro j
    induction j with
    | zero => intro _; rfl
    | succ j ih =>
      intro hj
      show f (nI j) (zitN f a j) = g (nI j) (zitN g a j)
      rw [ih (by omega)]
      exact h _ _ (nI_pos' (by omega)) (nI_lt (by omega) (by omega))
  unfold zit
  rw [nI_clamp hm]
  exact key m (Nat.le_refl _)
def nSp (sg : zSig) (k a : Int32) : Int32 := if sg (zel 4 k) 0 = 0 then a else a + 1
def nAn (sg : zSig) (k a : Int32) : Int32 := if sg (zel 5 k) 0 = 0 then a else a + 1
def nLo (sg : zSig) (k a : Int32) : Int32 := if sg (zel 5 k) 0 = 0 then a else a + sg (zel 5 k) 3
theorem bkShe_standingSpans_0 : zBk mShe_standingSpans 0 [(0, 0, 0, 0, 0), (2, 1, 0, 0, 0), (0, 0, 0, 0, 0), (2, 2, 0, 0, 0)] = some 4 := by decide +kernel
theorem bkShe_standingSpans_4 : zBk mShe_standingSpans 4 [(1, 2, 0, 0, 0), (1, 0, 1, 0, 0), (5, 5, 4, 0, 4)] = some 9 := by decide +kernel
theorem bkShe_standingSpans_33 : zBk mShe_standingSpans 33 [(1, 1, 0, 0, 0)] = some 34 := by decide +kernel
theorem bkShe_standingSpans_12 : zBk mShe_standingSpans 12 [(1, 0, 1, 0, 0), (5, 5, 3, 3, 3), (1, 2, 0, 0, 0), (9, 0, 0, 0, 0), (5, 6, 0, 0, 0)] = some 21 := by decide +kernel
theorem bkShe_standingSpans_27 : zBk mShe_standingSpans 27 [(3, 2, 0, 0, 1), (22, 4, 0, 0, 0)] = some 4 := by decide +kernel
theorem bkShe_standingSpans_24 : zBk mShe_standingSpans 24 [(3, 1, 0, 0, 1), (3, 2, 0, 0, 1), (22, 4, 0, 0, 0)] = some 4 := by decide +kernel
theorem bdShe_standingSpans_9 : decode mShe_standingSpans.2.2.1 9 = .ok (.if_icmp .ge 24, 3) := by decide +kernel
theorem bdShe_standingSpans_21 : decode mShe_standingSpans.2.2.1 21 = .ok (.ifCond .eq 6, 3) := by decide +kernel
theorem bdShe_standingSpans_34 : decode mShe_standingSpans.2.2.1 34 = .ok (.ireturn, 1) := by decide +kernel
theorem lShe_standingSpans {sg : zSig}  (hn0 : 0 ≤ sg 1 4) (hn : sg 1 4 ≤ 16) {Q : Option Value → zHp → Prop} (hq : ∀ rr h', (rr = some (.int (zit (nSp sg) 0 (sg 1 4))) ∧ h' = zN sg) → Q rr h') : zG mShe_standingSpans 411 Q 0 [(0, .ref 1)] [] (zN sg) := by
  refine zG_run bkShe_standingSpans_0 (lv' := [(2, .int 0), (1, .int 0), (0, .ref 1)]) (st' := []) (h' := zN sg) (Ps := []) rfl trivial ?_
  refine zG_pick (lv' := [(0, .ref 1), (1, .int 0), (2, .int 0)]) [2, 1, 0] rfl ?_
  refine zlp2 (fun (n : Int32) (k : Int32) => zG mShe_standingSpans 411 Q 4 [(0, .ref 1), (1, .int n), (2, .int k)] [] (zN sg)) (fun (n : Int32) (k : Int32) => (0 ≤ k) ∧ (k ≤ sg 1 4) ∧ (n = zit (nSp sg) 0 k)) (fun (n : Int32) (k : Int32) => zmu (sg 1 4) k) ?_ 0 0 ?_
  · intro n k hI ih
    obtain ⟨h0, h1, h2⟩ := hI
    refine zb_icge (tgt := 33) bkShe_standingSpans_4 bdShe_standingSpans_9 (by decide) (lv' := [(0, .ref 1), (1, .int n), (2, .int k)]) (st' := []) (h' := zN sg) (x := k) (y := sg 1 4) (Ps := [zOb (zN sg) 1 5]) rfl (zA zob_1 trivial) (fun c1 => ?_) (fun c1 => ?_)
    · skip
      refine zb_iret bkShe_standingSpans_33 bdShe_standingSpans_34 rfl (x := n) (h' := zN sg) (Ps := []) rfl trivial rfl ?_
      refine hq _ _ ?_
      exact ⟨by grind, rfl⟩
    · skip
      refine zb_ifeq (tgt := 27) bkShe_standingSpans_12 bdShe_standingSpans_21 (by decide) (lv' := [(0, .ref 1), (1, .int n), (2, .int k)]) (st' := []) (h' := zN sg) (x := sg (zel 4 k) 0) (Ps := [zOb (zN sg) 1 5 ∧ (zN sg).2.2 1 3 = true, zInR (zN sg) 4 k, zOb (zN sg) (zel 4 k) 6]) rfl (zA ⟨zob_1, rfl⟩ (zA (zinR_4 (i := k) (by grind) (by grind)) (zA (zel_ob4 (i := k) (by grind) (by grind)) trivial))) (fun c2 => ?_) (fun c2 => ?_)
      · skip
        refine zG_run bkShe_standingSpans_27 (lv' := [(2, .int (k + 1)), (0, .ref 1), (1, .int n)]) (st' := []) (h' := zN sg) (Ps := []) rfl trivial ?_
        refine zG_pick (lv' := [(0, .ref 1), (1, .int n), (2, .int (k + 1))]) [1, 2, 0] rfl ?_
        refine ih n (k + 1) ?_ ?_
        · refine ⟨?_, ?_, ?_⟩
          · grind
          · grind
          · rw [zit_s _ _ h0 (by grind : k < sg 1 4)]; grind [nSp]
        · exact zmu_up (by grind)
      · skip
        refine zG_run bkShe_standingSpans_24 (lv' := [(2, .int (k + 1)), (1, .int (n + 1)), (0, .ref 1)]) (st' := []) (h' := zN sg) (Ps := []) rfl trivial ?_
        refine zG_pick (lv' := [(0, .ref 1), (1, .int (n + 1)), (2, .int (k + 1))]) [2, 1, 0] rfl ?_
        refine ih (n + 1) (k + 1) ?_ ?_
        · refine ⟨?_, ?_, ?_⟩
          · grind
          · grind
          · rw [zit_s _ _ h0 (by grind : k < sg 1 4)]; grind [nSp]
        · exact zmu_up (by grind)
  · refine ⟨?_, ?_, ?_⟩
    · grind
    · grind
    · rfl
theorem cShe_standingSpans {sg : zSig}  (hn0 : 0 ≤ sg 1 4) (hn : sg 1 4 ≤ 16) : zG mShe_standingSpans 411 (fun rr h' => rr = some (.int (zit (nSp sg) 0 (sg 1 4))) ∧ h' = zN sg) 0 [(0, .ref 1)] [] (zN sg) := lShe_standingSpans hn0 hn (fun _ _ q => q)
theorem bkShe_standingAnchors_0 : zBk mShe_standingAnchors 0 [(0, 0, 0, 0, 0), (2, 1, 0, 0, 0), (0, 0, 0, 0, 0), (2, 2, 0, 0, 0)] = some 4 := by decide +kernel
theorem bkShe_standingAnchors_4 : zBk mShe_standingAnchors 4 [(1, 2, 0, 0, 0), (1, 0, 1, 0, 0), (5, 5, 6, 0, 6)] = some 9 := by decide +kernel
theorem bkShe_standingAnchors_33 : zBk mShe_standingAnchors 33 [(1, 1, 0, 0, 0)] = some 34 := by decide +kernel
theorem bkShe_standingAnchors_12 : zBk mShe_standingAnchors 12 [(1, 0, 1, 0, 0), (5, 5, 5, 4, 5), (1, 2, 0, 0, 0), (9, 0, 0, 0, 0), (5, 1, 0, 0, 0)] = some 21 := by decide +kernel
theorem bkShe_standingAnchors_27 : zBk mShe_standingAnchors 27 [(3, 2, 0, 0, 1), (22, 4, 0, 0, 0)] = some 4 := by decide +kernel
theorem bkShe_standingAnchors_24 : zBk mShe_standingAnchors 24 [(3, 1, 0, 0, 1), (3, 2, 0, 0, 1), (22, 4, 0, 0, 0)] = some 4 := by decide +kernel
theorem bdShe_standingAnchors_9 : decode mShe_standingAnchors.2.2.1 9 = .ok (.if_icmp .ge 24, 3) := by decide +kernel
theorem bdShe_standingAnchors_21 : decode mShe_standingAnchors.2.2.1 21 = .ok (.ifCond .eq 6, 3) := by decide +kernel
theorem bdShe_standingAnchors_34 : decode mShe_standingAnchors.2.2.1 34 = .ok (.ireturn, 1) := by decide +kernel
theorem lShe_standingAnchors {sg : zSig}  (hn0 : 0 ≤ sg 1 6) (hn : sg 1 6 ≤ 12) {Q : Option Value → zHp → Prop} (hq : ∀ rr h', (rr = some (.int (zit (nAn sg) 0 (sg 1 6))) ∧ h' = zN sg) → Q rr h') : zG mShe_standingAnchors 411 Q 0 [(0, .ref 1)] [] (zN sg) := by
  refine zG_run bkShe_standingAnchors_0 (lv' := [(2, .int 0), (1, .int 0), (0, .ref 1)]) (st' := []) (h' := zN sg) (Ps := []) rfl trivial ?_
  refine zG_pick (lv' := [(0, .ref 1), (1, .int 0), (2, .int 0)]) [2, 1, 0] rfl ?_
  refine zlp2 (fun (n : Int32) (k : Int32) => zG mShe_standingAnchors 411 Q 4 [(0, .ref 1), (1, .int n), (2, .int k)] [] (zN sg)) (fun (n : Int32) (k : Int32) => (0 ≤ k) ∧ (k ≤ sg 1 6) ∧ (n = zit (nAn sg) 0 k)) (fun (n : Int32) (k : Int32) => zmu (sg 1 6) k) ?_ 0 0 ?_
  · intro n k hI ih
    obtain ⟨h0, h1, h2⟩ := hI
    refine zb_icge (tgt := 33) bkShe_standingAnchors_4 bdShe_standingAnchors_9 (by decide) (lv' := [(0, .ref 1), (1, .int n), (2, .int k)]) (st' := []) (h' := zN sg) (x := k) (y := sg 1 6) (Ps := [zOb (zN sg) 1 5]) rfl (zA zob_1 trivial) (fun c1 => ?_) (fun c1 => ?_)
    · skip
      refine zb_iret bkShe_standingAnchors_33 bdShe_standingAnchors_34 rfl (x := n) (h' := zN sg) (Ps := []) rfl trivial rfl ?_
      refine hq _ _ ?_
      exact ⟨by grind, rfl⟩
    · skip
      refine zb_ifeq (tgt := 27) bkShe_standingAnchors_12 bdShe_standingAnchors_21 (by decide) (lv' := [(0, .ref 1), (1, .int n), (2, .int k)]) (st' := []) (h' := zN sg) (x := sg (zel 5 k) 0) (Ps := [zOb (zN sg) 1 5 ∧ (zN sg).2.2 1 5 = true, zInR (zN sg) 5 k, zOb (zN sg) (zel 5 k) 1]) rfl (zA ⟨zob_1, rfl⟩ (zA (zinR_5 (i := k) (by grind) (by grind)) (zA (zel_ob5 (i := k) (by grind) (by grind)) trivial))) (fun c2 => ?_) (fun c2 => ?_)
      · skip
        refine zG_run bkShe_standingAnchors_27 (lv' := [(2, .int (k + 1)), (0, .ref 1), (1, .int n)]) (st' := []) (h' := zN sg) (Ps := []) rfl trivial ?_
        refine zG_pick (lv' := [(0, .ref 1), (1, .int n), (2, .int (k + 1))]) [1, 2, 0] rfl ?_
        refine ih n (k + 1) ?_ ?_
        · refine ⟨?_, ?_, ?_⟩
          · grind
          · grind
          · rw [zit_s _ _ h0 (by grind : k < sg 1 6)]; grind [nAn]
        · exact zmu_up (by grind)
      · skip
        refine zG_run bkShe_standingAnchors_24 (lv' := [(2, .int (k + 1)), (1, .int (n + 1)), (0, .ref 1)]) (st' := []) (h' := zN sg) (Ps := []) rfl trivial ?_
        refine zG_pick (lv' := [(0, .ref 1), (1, .int (n + 1)), (2, .int (k + 1))]) [2, 1, 0] rfl ?_
        refine ih (n + 1) (k + 1) ?_ ?_
        · refine ⟨?_, ?_, ?_⟩
          · grind
          · grind
          · rw [zit_s _ _ h0 (by grind : k < sg 1 6)]; grind [nAn]
        · exact zmu_up (by grind)
  · refine ⟨?_, ?_, ?_⟩
    · grind
    · grind
    · rfl
theorem cShe_standingAnchors {sg : zSig}  (hn0 : 0 ≤ sg 1 6) (hn : sg 1 6 ≤ 12) : zG mShe_standingAnchors 411 (fun rr h' => rr = some (.int (zit (nAn sg) 0 (sg 1 6))) ∧ h' = zN sg) 0 [(0, .ref 1)] [] (zN sg) := lShe_standingAnchors hn0 hn (fun _ _ q => q)
theorem bkShe_lostOfAll_0 : zBk mShe_lostOfAll 0 [(0, 0, 0, 0, 0), (2, 1, 0, 0, 0), (0, 0, 0, 0, 0), (2, 2, 0, 0, 0)] = some 4 := by decide +kernel
theorem bkShe_lostOfAll_4 : zBk mShe_lostOfAll 4 [(1, 2, 0, 0, 0), (1, 0, 1, 0, 0), (5, 5, 6, 0, 6)] = some 9 := by decide +kernel
theorem bkShe_lostOfAll_42 : zBk mShe_lostOfAll 42 [(1, 1, 0, 0, 0)] = some 43 := by decide +kernel
theorem bkShe_lostOfAll_12 : zBk mShe_lostOfAll 12 [(1, 0, 1, 0, 0), (5, 5, 5, 4, 5), (1, 2, 0, 0, 0), (9, 0, 0, 0, 0), (5, 1, 0, 0, 0)] = some 21 := by decide +kernel
theorem bkShe_lostOfAll_36 : zBk mShe_lostOfAll 36 [(3, 2, 0, 0, 1), (22, 4, 0, 0, 0)] = some 4 := by decide +kernel
theorem bkShe_lostOfAll_24 : zBk mShe_lostOfAll 24 [(1, 1, 0, 0, 0), (1, 0, 1, 0, 0), (5, 5, 5, 4, 5), (1, 2, 0, 0, 0), (9, 0, 0, 0, 0), (5, 1, 3, 0, 3), (4, 0, 0, 0, 0), (2, 1, 0, 0, 0), (3, 2, 0, 0, 1), (22, 4, 0, 0, 0)] = some 4 := by decide +kernel
theorem bdShe_lostOfAll_9 : decode mShe_lostOfAll.2.2.1 9 = .ok (.if_icmp .ge 33, 3) := by decide +kernel
theorem bdShe_lostOfAll_21 : decode mShe_lostOfAll.2.2.1 21 = .ok (.ifCond .eq 15, 3) := by decide +kernel
theorem bdShe_lostOfAll_43 : decode mShe_lostOfAll.2.2.1 43 = .ok (.ireturn, 1) := by decide +kernel
theorem lShe_lostOfAll {sg : zSig}  (hn0 : 0 ≤ sg 1 6) (hn : sg 1 6 ≤ 12) {Q : Option Value → zHp → Prop} (hq : ∀ rr h', (rr = some (.int (zit (nLo sg) 0 (sg 1 6))) ∧ h' = zN sg) → Q rr h') : zG mShe_lostOfAll 411 Q 0 [(0, .ref 1)] [] (zN sg) := by
  refine zG_run bkShe_lostOfAll_0 (lv' := [(2, .int 0), (1, .int 0), (0, .ref 1)]) (st' := []) (h' := zN sg) (Ps := []) rfl trivial ?_
  refine zG_pick (lv' := [(0, .ref 1), (1, .int 0), (2, .int 0)]) [2, 1, 0] rfl ?_
  refine zlp2 (fun (n : Int32) (k : Int32) => zG mShe_lostOfAll 411 Q 4 [(0, .ref 1), (1, .int n), (2, .int k)] [] (zN sg)) (fun (n : Int32) (k : Int32) => (0 ≤ k) ∧ (k ≤ sg 1 6) ∧ (n = zit (nLo sg) 0 k)) (fun (n : Int32) (k : Int32) => zmu (sg 1 6) k) ?_ 0 0 ?_
  · intro n k hI ih
    obtain ⟨h0, h1, h2⟩ := hI
    refine zb_icge (tgt := 42) bkShe_lostOfAll_4 bdShe_lostOfAll_9 (by decide) (lv' := [(0, .ref 1), (1, .int n), (2, .int k)]) (st' := []) (h' := zN sg) (x := k) (y := sg 1 6) (Ps := [zOb (zN sg) 1 5]) rfl (zA zob_1 trivial) (fun c1 => ?_) (fun c1 => ?_)
    · skip
      refine zb_iret bkShe_lostOfAll_42 bdShe_lostOfAll_43 rfl (x := n) (h' := zN sg) (Ps := []) rfl trivial rfl ?_
      refine hq _ _ ?_
      exact ⟨by grind, rfl⟩
    · skip
      refine zb_ifeq (tgt := 36) bkShe_lostOfAll_12 bdShe_lostOfAll_21 (by decide) (lv' := [(0, .ref 1), (1, .int n), (2, .int k)]) (st' := []) (h' := zN sg) (x := sg (zel 5 k) 0) (Ps := [zOb (zN sg) 1 5 ∧ (zN sg).2.2 1 5 = true, zInR (zN sg) 5 k, zOb (zN sg) (zel 5 k) 1]) rfl (zA ⟨zob_1, rfl⟩ (zA (zinR_5 (i := k) (by grind) (by grind)) (zA (zel_ob5 (i := k) (by grind) (by grind)) trivial))) (fun c2 => ?_) (fun c2 => ?_)
      · skip
        refine zG_run bkShe_lostOfAll_36 (lv' := [(2, .int (k + 1)), (0, .ref 1), (1, .int n)]) (st' := []) (h' := zN sg) (Ps := []) rfl trivial ?_
        refine zG_pick (lv' := [(0, .ref 1), (1, .int n), (2, .int (k + 1))]) [1, 2, 0] rfl ?_
        refine ih n (k + 1) ?_ ?_
        · refine ⟨?_, ?_, ?_⟩
          · grind
          · grind
          · rw [zit_s _ _ h0 (by grind : k < sg 1 6)]; grind [nLo]
        · exact zmu_up (by grind)
      · skip
        refine zG_run bkShe_lostOfAll_24 (lv' := [(2, .int (k + 1)), (1, .int (n + (sg (zel 5 k) 3))), (0, .ref 1)]) (st' := []) (h' := zN sg) (Ps := [zOb (zN sg) 1 5 ∧ (zN sg).2.2 1 5 = true, zInR (zN sg) 5 k, zOb (zN sg) (zel 5 k) 1]) rfl (zA ⟨zob_1, rfl⟩ (zA (zinR_5 (i := k) (by grind) (by grind)) (zA (zel_ob5 (i := k) (by grind) (by grind)) trivial))) ?_
        refine zG_pick (lv' := [(0, .ref 1), (1, .int (n + (sg (zel 5 k) 3))), (2, .int (k + 1))]) [2, 1, 0] rfl ?_
        refine ih (n + (sg (zel 5 k) 3)) (k + 1) ?_ ?_
        · refine ⟨?_, ?_, ?_⟩
          · grind
          · grind
          · rw [zit_s _ _ h0 (by grind : k < sg 1 6)]; grind [nLo]
        · exact zmu_up (by grind)
  · refine ⟨?_, ?_, ?_⟩
    · grind
    · grind
    · rfl
theorem cShe_lostOfAll {sg : zSig}  (hn0 : 0 ≤ sg 1 6) (hn : sg 1 6 ≤ 12) : zG mShe_lostOfAll 411 (fun rr h' => rr = some (.int (zit (nLo sg) 0 (sg 1 6))) ∧ h' = zN sg) 0 [(0, .ref 1)] [] (zN sg) := lShe_lostOfAll hn0 hn (fun _ _ q => q)
end
section
/-! the tape and the looks: printed by wip/whole/p15.py -/
def isL (v : Int32) : Prop := (32 ≤ v ∧ v ≤ 126) ∧ v ≠ 91 ∧ v ≠ 93
theorem isL_iff (v : Int32) : isL v ↔ (32 ≤ v ∧ v ≤ 126) ∧ v ≠ 91 ∧ v ≠ 93 := Iff.rfl
/-- a run begins at i -/
def bg (S : Int32 → Int32) (i : Int32) : Int32 := if i = 0 ∨ S i ≠ S (i - 1) then 1 else 0
def rN (S : Int32 → Int32) (i a : Int32) : Int32 := if bg S i = 0 then a else a + 1
/-- longest run so far, length of the run at hand -/
def rL (S : Int32 → Int32) (i : Int32) (a : Int32 × Int32) : Int32 × Int32 := (fMax a.1 (if bg S i = 0 then a.2 + 1 else 1), if bg S i = 0 then a.2 + 1 else 1)
theorem bkTap_at_0 : zBk mTap_at 0 [(1, 1, 0, 0, 0)] = some 1 := by decide +kernel
theorem bkTap_at_21 : zBk mTap_at 21 [(0, 0, 0, 0, -1)] = some 22 := by decide +kernel
theorem bkTap_at_4 : zBk mTap_at 4 [(1, 1, 0, 0, 0), (1, 0, 1, 0, 0), (5, 7, 1, 0, 1)] = some 9 := by decide +kernel
theorem bkTap_at_12 : zBk mTap_at 12 [(1, 0, 1, 0, 0), (5, 7, 0, 1, 0), (1, 1, 0, 0, 0), (7, 0, 0, 0, 0), (22, 22, 0, 0, 0)] = some 22 := by decide +kernel
theorem bdTap_at_1 : decode mTap_at.2.2.1 1 = .ok (.ifCond .lt 20, 3) := by decide +kernel
theorem bdTap_at_9 : decode mTap_at.2.2.1 9 = .ok (.if_icmp .ge 12, 3) := by decide +kernel
theorem bdTap_at_22 : decode mTap_at.2.2.1 22 = .ok (.ireturn, 1) := by decide +kernel
theorem cTap_at {sg : zSig} {i : Int32} (hn : sg 34 1 ≤ 400) : zG mTap_at 411 (fun rr h' => rr = some (.int (if 0 ≤ i ∧ i < sg 34 1 then sg 35 i else -1)) ∧ h' = zN sg) 0 [(0, .ref 34), (1, .int i)] [] (zN sg) := by
  refine zb_iflt (tgt := 21) bkTap_at_0 bdTap_at_1 (by decide) (lv' := [(0, .ref 34), (1, .int i)]) (st' := []) (h' := zN sg) (x := i) (Ps := []) rfl trivial (fun c1 => ?_) (fun c1 => ?_)
  · skip
    refine zb_iret bkTap_at_21 bdTap_at_22 rfl (x := (-1)) (h' := zN sg) (Ps := []) rfl trivial rfl ?_
    exact ⟨by grind, rfl⟩
  · skip
    refine zb_icge (tgt := 21) bkTap_at_4 bdTap_at_9 (by decide) (lv' := [(0, .ref 34), (1, .int i)]) (st' := []) (h' := zN sg) (x := i) (y := sg 34 1) (Ps := [zOb (zN sg) 34 7]) rfl (zA zob_34 trivial) (fun c2 => ?_) (fun c2 => ?_)
    · skip
      refine zb_iret bkTap_at_21 bdTap_at_22 rfl (x := (-1)) (h' := zN sg) (Ps := []) rfl trivial rfl ?_
      exact ⟨by grind, rfl⟩
    · skip
      refine zb_iret bkTap_at_12 bdTap_at_22 rfl (x := sg 35 i) (h' := zN sg) (Ps := [zOb (zN sg) 34 7 ∧ (zN sg).2.2 34 0 = true, zInL (zN sg) 35 i]) rfl (zA ⟨zob_34, rfl⟩ (zA (zinL_35 (i := i) (by grind) (by grind)) trivial)) rfl ?_
      exact ⟨by grind, rfl⟩
theorem bkTap_isLetter_0 : zBk mTap_isLetter 0 [(1, 0, 0, 0, 0), (0, 0, 0, 0, 32)] = some 3 := by decide +kernel
theorem bkTap_isLetter_28 : zBk mTap_isLetter 28 [(0, 0, 0, 0, 0)] = some 29 := by decide +kernel
theorem bkTap_isLetter_6 : zBk mTap_isLetter 6 [(1, 0, 0, 0, 0), (0, 0, 0, 0, 126)] = some 9 := by decide +kernel
theorem bkTap_isLetter_12 : zBk mTap_isLetter 12 [(1, 0, 0, 0, 0), (0, 0, 0, 0, 91)] = some 15 := by decide +kernel
theorem bkTap_isLetter_18 : zBk mTap_isLetter 18 [(1, 0, 0, 0, 0), (0, 0, 0, 0, 93)] = some 21 := by decide +kernel
theorem bkTap_isLetter_24 : zBk mTap_isLetter 24 [(0, 0, 0, 0, 1), (22, 29, 0, 0, 0)] = some 29 := by decide +kernel
theorem bdTap_isLetter_3 : decode mTap_isLetter.2.2.1 3 = .ok (.if_icmp .lt 25, 3) := by decide +kernel
theorem bdTap_isLetter_9 : decode mTap_isLetter.2.2.1 9 = .ok (.if_icmp .gt 19, 3) := by decide +kernel
theorem bdTap_isLetter_15 : decode mTap_isLetter.2.2.1 15 = .ok (.if_icmp .eq 13, 3) := by decide +kernel
theorem bdTap_isLetter_21 : decode mTap_isLetter.2.2.1 21 = .ok (.if_icmp .eq 7, 3) := by decide +kernel
theorem bdTap_isLetter_29 : decode mTap_isLetter.2.2.1 29 = .ok (.ireturn, 1) := by decide +kernel
theorem cTap_isLetter {sg : zSig} {v : Int32}  : zG mTap_isLetter 411 (fun rr h' => rr = some (.int (if (32 ≤ v ∧ v ≤ 126) ∧ v ≠ 91 ∧ v ≠ 93 then 1 else 0)) ∧ h' = zN sg) 0 [(0, .int v)] [] (zN sg) := by
  refine zb_iclt (tgt := 28) bkTap_isLetter_0 bdTap_isLetter_3 (by decide) (lv' := [(0, .int v)]) (st' := []) (h' := zN sg) (x := v) (y := 32) (Ps := []) rfl trivial (fun c1 => ?_) (fun c1 => ?_)
  · skip
    refine zb_zret bkTap_isLetter_28 bdTap_isLetter_29 rfl (x := 0) (h' := zN sg) (Ps := []) rfl trivial rfl (Or.inl rfl) ?_
    exact ⟨by grind, rfl⟩
  · skip
    refine zb_icgt (tgt := 28) bkTap_isLetter_6 bdTap_isLetter_9 (by decide) (lv' := [(0, .int v)]) (st' := []) (h' := zN sg) (x := v) (y := 126) (Ps := []) rfl trivial (fun c2 => ?_) (fun c2 => ?_)
    · skip
      refine zb_zret bkTap_isLetter_28 bdTap_isLetter_29 rfl (x := 0) (h' := zN sg) (Ps := []) rfl trivial rfl (Or.inl rfl) ?_
      exact ⟨by grind, rfl⟩
    · skip
      refine zb_iceq (tgt := 28) bkTap_isLetter_12 bdTap_isLetter_15 (by decide) (lv' := [(0, .int v)]) (st' := []) (h' := zN sg) (x := v) (y := 91) (Ps := []) rfl trivial (fun c3 => ?_) (fun c3 => ?_)
      · skip
        refine zb_zret bkTap_isLetter_28 bdTap_isLetter_29 rfl (x := 0) (h' := zN sg) (Ps := []) rfl trivial rfl (Or.inl rfl) ?_
        exact ⟨by grind, rfl⟩
      · skip
        refine zb_iceq (tgt := 28) bkTap_isLetter_18 bdTap_isLetter_21 (by decide) (lv' := [(0, .int v)]) (st' := []) (h' := zN sg) (x := v) (y := 93) (Ps := []) rfl trivial (fun c4 => ?_) (fun c4 => ?_)
        · skip
          refine zb_zret bkTap_isLetter_28 bdTap_isLetter_29 rfl (x := 0) (h' := zN sg) (Ps := []) rfl trivial rfl (Or.inl rfl) ?_
          exact ⟨by grind, rfl⟩
        · skip
          refine zb_zret bkTap_isLetter_24 bdTap_isLetter_29 rfl (x := 1) (h' := zN sg) (Ps := []) rfl trivial rfl (Or.inr rfl) ?_
          exact ⟨by grind, rfl⟩
theorem bkTap_areLetters_0 : zBk mTap_areLetters 0 [(0, 0, 0, 0, 0), (2, 1, 0, 0, 0)] = some 2 := by decide +kernel
theorem bkTap_areLetters_2 : zBk mTap_areLetters 2 [(1, 1, 0, 0, 0), (1, 0, 1, 0, 0), (5, 7, 1, 0, 1)] = some 7 := by decide +kernel
theorem bkTap_areLetters_30 : zBk mTap_areLetters 30 [(0, 0, 0, 0, 1)] = some 31 := by decide +kernel
theorem bkTap_areLetters_10 : zBk mTap_areLetters 10 [(1, 0, 1, 0, 0), (5, 7, 0, 1, 0), (1, 1, 0, 0, 0), (7, 0, 0, 0, 0)] = some 16 := by decide +kernel
theorem bkTap_areLetters_19 : zBk mTap_areLetters 19 [] = some 19 := by decide +kernel
theorem bkTap_areLetters_24 : zBk mTap_areLetters 24 [(3, 1, 0, 0, 1), (22, 2, 0, 0, 0)] = some 2 := by decide +kernel
theorem bkTap_areLetters_22 : zBk mTap_areLetters 22 [(0, 0, 0, 0, 0)] = some 23 := by decide +kernel
theorem bdTap_areLetters_7 : decode mTap_areLetters.2.2.1 7 = .ok (.if_icmp .ge 23, 3) := by decide +kernel
theorem bdTap_areLetters_16 : decode mTap_areLetters.2.2.1 16 = .ok (.invokestatic 31, 3) := by decide +kernel
theorem bdTap_areLetters_19 : decode mTap_areLetters.2.2.1 19 = .ok (.ifCond .ne 5, 3) := by decide +kernel
theorem bdTap_areLetters_23 : decode mTap_areLetters.2.2.1 23 = .ok (.ireturn, 1) := by decide +kernel
theorem bdTap_areLetters_31 : decode mTap_areLetters.2.2.1 31 = .ok (.ireturn, 1) := by decide +kernel
theorem lTap_areLetters {sg : zSig}  (hn0 : 0 ≤ sg 34 1) (hn : sg 34 1 ≤ 400) {Q : Option Value → zHp → Prop} (hq : ∀ rr h', (∃ v, rr = some (.int v) ∧ h' = zN sg ∧ ((v = 1 ∧ ∀ j, 0 ≤ j → j < sg 34 1 → isL (sg 35 j)) ∨ (v = 0 ∧ ∃ j, 0 ≤ j ∧ j < sg 34 1 ∧ ¬ isL (sg 35 j)))) → Q rr h') : zG mTap_areLetters 411 Q 0 [(0, .ref 34)] [] (zN sg) := by
  refine zG_run bkTap_areLetters_0 (lv' := [(1, .int 0), (0, .ref 34)]) (st' := []) (h' := zN sg) (Ps := []) rfl trivial ?_
  refine zG_pick (lv' := [(0, .ref 34), (1, .int 0)]) [1, 0] rfl ?_
  refine zlp1 (fun (k : Int32) => zG mTap_areLetters 411 Q 2 [(0, .ref 34), (1, .int k)] [] (zN sg)) (fun (k : Int32) => (0 ≤ k) ∧ (k ≤ sg 34 1) ∧ (∀ j, 0 ≤ j → j < k → isL (sg 35 j))) (fun (k : Int32) => zmu (sg 34 1) k) ?_ 0 ?_
  · intro k hI ih
    obtain ⟨h0, h1, h2⟩ := hI
    refine zb_icge (tgt := 30) bkTap_areLetters_2 bdTap_areLetters_7 (by decide) (lv' := [(0, .ref 34), (1, .int k)]) (st' := []) (h' := zN sg) (x := k) (y := sg 34 1) (Ps := [zOb (zN sg) 34 7]) rfl (zA zob_34 trivial) (fun c1 => ?_) (fun c1 => ?_)
    · skip
      refine zb_zret bkTap_areLetters_30 bdTap_areLetters_31 rfl (x := 1) (h' := zN sg) (Ps := []) rfl trivial rfl (Or.inr rfl) ?_
      refine hq _ _ ?_
      exact ⟨_, rfl, rfl, Or.inl ⟨rfl, fun j h3 h4 => h2 j h3 (by grind)⟩⟩
    · skip
      refine zG_run bkTap_areLetters_10 (lv' := [(0, .ref 34), (1, .int k)]) (st' := [.int (sg 35 k)]) (h' := zN sg) (Ps := [zOb (zN sg) 34 7 ∧ (zN sg).2.2 34 0 = true, zInL (zN sg) 35 k]) rfl (zA ⟨zob_34, rfl⟩ (zA (zinL_35 (i := k) (by grind) (by grind)) trivial)) ?_
      refine zG_calls (As := [.int (sg 35 k)]) (rest := []) (N2 := 411) bdTap_areLetters_16 okTap_isLetter lk7_31 (And.intro (by decide) (by decide)) rfl rfl (Nat.le_of_ble_eq_true rfl) (Nat.le_of_ble_eq_true rfl) (Nat.le_refl 411) (Nat.le_refl 411) cTap_isLetter ?_
      rintro rr h' ⟨rfl, rfl⟩ -
      refine zb_ifne (tgt := 24) bkTap_areLetters_19 bdTap_areLetters_19 (by decide) (lv' := [(0, .ref 34), (1, .int k)]) (st' := []) (h' := zN sg) (x := if (32 ≤ sg 35 k ∧ sg 35 k ≤ 126) ∧ sg 35 k ≠ 91 ∧ sg 35 k ≠ 93 then 1 else 0) (Ps := []) rfl trivial (fun c2 => ?_) (fun c2 => ?_)
      · skip
        refine zG_run bkTap_areLetters_24 (lv' := [(1, .int (k + 1)), (0, .ref 34)]) (st' := []) (h' := zN sg) (Ps := []) rfl trivial ?_
        refine zG_pick (lv' := [(0, .ref 34), (1, .int (k + 1))]) [1, 0] rfl ?_
        refine ih (k + 1) ?_ ?_
        · refine ⟨?_, ?_, ?_⟩
          · grind
          · grind
          · intro j hj0 hj1; by_cases hj : j = k; · subst hj; rw [isL_iff]; grind
            exact h2 j hj0 (by grind)
        · exact zmu_up (by grind)
      · skip
        refine zb_zret bkTap_areLetters_22 bdTap_areLetters_23 rfl (x := 0) (h' := zN sg) (Ps := []) rfl trivial rfl (Or.inl rfl) ?_
        refine hq _ _ ?_
        exact ⟨_, rfl, rfl, Or.inr ⟨rfl, k, h0, by grind, by rw [isL_iff]; grind⟩⟩
  · refine ⟨?_, ?_, ?_⟩
    · grind
    · grind
    · grind
theorem cTap_areLetters {sg : zSig}  (hn0 : 0 ≤ sg 34 1) (hn : sg 34 1 ≤ 400) : zG mTap_areLetters 411 (fun rr h' => ∃ v, rr = some (.int v) ∧ h' = zN sg ∧ ((v = 1 ∧ ∀ j, 0 ≤ j → j < sg 34 1 → isL (sg 35 j)) ∨ (v = 0 ∧ ∃ j, 0 ≤ j ∧ j < sg 34 1 ∧ ¬ isL (sg 35 j)))) 0 [(0, .ref 34)] [] (zN sg) := lTap_areLetters hn0 hn (fun _ _ q => q)
def hAF (sg : zSig) (v : Int32) : zSig := fun a j => if a = 34 ∧ j = 1 then sg 34 1 + 4 else if a = 35 ∧ j = sg 34 1 + 3 then v &&& 255 else if a = 35 ∧ j = sg 34 1 + 2 then ((v.toUInt32 >>> ((8 : Int32).toUInt32 &&& Int32.toUInt32 31)).toInt32) &&& 255 else if a = 35 ∧ j = sg 34 1 + 1 then ((v.toUInt32 >>> ((16 : Int32).toUInt32 &&& Int32.toUInt32 31)).toInt32) &&& 255 else if a = 35 ∧ j = sg 34 1 then (v.toUInt32 >>> ((24 : Int32).toUInt32 &&& Int32.toUInt32 31)).toInt32 else sg a j
theorem bkTap_addFour_0 : zBk mTap_addFour 0 [(1, 0, 1, 0, 0), (5, 7, 1, 0, 1), (0, 0, 0, 0, 4), (4, 0, 0, 0, 0), (0, 0, 0, 0, 400)] = some 9 := by decide +kernel
theorem bkTap_addFour_13 : zBk mTap_addFour 13 [(1, 0, 1, 0, 0), (5, 7, 0, 1, 0), (1, 0, 1, 0, 0), (5, 7, 1, 0, 1), (1, 1, 0, 0, 0), (0, 0, 0, 0, 24), (4, 8, 0, 0, 0), (8, 0, 0, 0, 0), (1, 0, 1, 0, 0), (5, 7, 0, 1, 0), (1, 0, 1, 0, 0), (5, 7, 1, 0, 1), (0, 0, 0, 0, 1), (4, 0, 0, 0, 0), (1, 1, 0, 0, 0), (0, 0, 0, 0, 16), (4, 8, 0, 0, 0), (0, 0, 0, 0, 255), (4, 3, 0, 0, 0), (8, 0, 0, 0, 0), (1, 0, 1, 0, 0), (5, 7, 0, 1, 0), (1, 0, 1, 0, 0), (5, 7, 1, 0, 1), (0, 0, 0, 0, 2), (4, 0, 0, 0, 0), (1, 1, 0, 0, 0), (0, 0, 0, 0, 8), (4, 8, 0, 0, 0), (0, 0, 0, 0, 255), (4, 3, 0, 0, 0), (8, 0, 0, 0, 0), (1, 0, 1, 0, 0), (5, 7, 0, 1, 0), (1, 0, 1, 0, 0), (5, 7, 1, 0, 1), (0, 0, 0, 0, 3), (4, 0, 0, 0, 0), (1, 1, 0, 0, 0), (0, 0, 0, 0, 255), (4, 3, 0, 0, 0), (8, 0, 0, 0, 0), (1, 0, 1, 0, 0), (18, 0, 0, 0, 0), (5, 7, 1, 0, 1), (0, 0, 0, 0, 4), (4, 0, 0, 0, 0), (6, 7, 1, 0, 1)] = some 90 := by decide +kernel
theorem bkTap_addFour_12 : zBk mTap_addFour 12 [] = some 12 := by decide +kernel
theorem bdTap_addFour_9 : decode mTap_addFour.2.2.1 9 = .ok (.if_icmp .le 4, 3) := by decide +kernel
theorem bdTap_addFour_12 : decode mTap_addFour.2.2.1 12 = .ok (.return_, 1) := by decide +kernel
theorem bdTap_addFour_90 : decode mTap_addFour.2.2.1 90 = .ok (.return_, 1) := by decide +kernel
theorem cTap_addFour {sg : zSig} {v : Int32} (h1 : 0 ≤ sg 34 1) (h2 : sg 34 1 ≤ 396) : zG mTap_addFour 411 (fun rr h' => rr = none ∧ h' = zN (hAF sg v)) 0 [(0, .ref 34), (1, .int v)] [] (zN sg) := by
  refine zb_icle (tgt := 13) bkTap_addFour_0 bdTap_addFour_9 (by decide) (lv' := [(0, .ref 34), (1, .int v)]) (st' := []) (h' := zN sg) (x := (sg 34 1) + 4) (y := 400) (Ps := [zOb (zN sg) 34 7]) rfl (zA zob_34 trivial) (fun c1 => ?_) (fun c1 => ?_)
  · skip
    refine zb_vret bkTap_addFour_13 bdTap_addFour_90 rfl (h' := zN (zup (zup (zup (zup (zup sg 35 (sg 34 1) ((v.toUInt32 >>> ((24 : Int32).toUInt32 &&& Int32.toUInt32 31)).toInt32)) 35 (((zup sg 35 (sg 34 1) ((v.toUInt32 >>> ((24 : Int32).toUInt32 &&& Int32.toUInt32 31)).toInt32)) 34 1) + 1) (((v.toUInt32 >>> ((16 : Int32).toUInt32 &&& Int32.toUInt32 31)).toInt32) &&& 255)) 35 (((zup (zup sg 35 (sg 34 1) ((v.toUInt32 >>> ((24 : Int32).toUInt32 &&& Int32.toUInt32 31)).toInt32)) 35 (((zup sg 35 (sg 34 1) ((v.toUInt32 >>> ((24 : Int32).toUInt32 &&& Int32.toUInt32 31)).toInt32)) 34 1) + 1) (((v.toUInt32 >>> ((16 : Int32).toUInt32 &&& Int32.toUInt32 31)).toInt32) &&& 255)) 34 1) + 2) (((v.toUInt32 >>> ((8 : Int32).toUInt32 &&& Int32.toUInt32 31)).toInt32) &&& 255)) 35 (((zup (zup (zup sg 35 (sg 34 1) ((v.toUInt32 >>> ((24 : Int32).toUInt32 &&& Int32.toUInt32 31)).toInt32)) 35 (((zup sg 35 (sg 34 1) ((v.toUInt32 >>> ((24 : Int32).toUInt32 &&& Int32.toUInt32 31)).toInt32)) 34 1) + 1) (((v.toUInt32 >>> ((16 : Int32).toUInt32 &&& Int32.toUInt32 31)).toInt32) &&& 255)) 35 (((zup (zup sg 35 (sg 34 1) ((v.toUInt32 >>> ((24 : Int32).toUInt32 &&& Int32.toUInt32 31)).toInt32)) 35 (((zup sg 35 (sg 34 1) ((v.toUInt32 >>> ((24 : Int32).toUInt32 &&& Int32.toUInt32 31)).toInt32)) 34 1) + 1) (((v.toUInt32 >>> ((16 : Int32).toUInt32 &&& Int32.toUInt32 31)).toInt32) &&& 255)) 34 1) + 2) (((v.toUInt32 >>> ((8 : Int32).toUInt32 &&& Int32.toUInt32 31)).toInt32) &&& 255)) 34 1) + 3) (v &&& 255)) 34 1 (((zup (zup (zup (zup sg 35 (sg 34 1) ((v.toUInt32 >>> ((24 : Int32).toUInt32 &&& Int32.toUInt32 31)).toInt32)) 35 (((zup sg 35 (sg 34 1) ((v.toUInt32 >>> ((24 : Int32).toUInt32 &&& Int32.toUInt32 31)).toInt32)) 34 1) + 1) (((v.toUInt32 >>> ((16 : Int32).toUInt32 &&& Int32.toUInt32 31)).toInt32) &&& 255)) 35 (((zup (zup sg 35 (sg 34 1) ((v.toUInt32 >>> ((24 : Int32).toUInt32 &&& Int32.toUInt32 31)).toInt32)) 35 (((zup sg 35 (sg 34 1) ((v.toUInt32 >>> ((24 : Int32).toUInt32 &&& Int32.toUInt32 31)).toInt32)) 34 1) + 1) (((v.toUInt32 >>> ((16 : Int32).toUInt32 &&& Int32.toUInt32 31)).toInt32) &&& 255)) 34 1) + 2) (((v.toUInt32 >>> ((8 : Int32).toUInt32 &&& Int32.toUInt32 31)).toInt32) &&& 255)) 35 (((zup (zup (zup sg 35 (sg 34 1) ((v.toUInt32 >>> ((24 : Int32).toUInt32 &&& Int32.toUInt32 31)).toInt32)) 35 (((zup sg 35 (sg 34 1) ((v.toUInt32 >>> ((24 : Int32).toUInt32 &&& Int32.toUInt32 31)).toInt32)) 34 1) + 1) (((v.toUInt32 >>> ((16 : Int32).toUInt32 &&& Int32.toUInt32 31)).toInt32) &&& 255)) 35 (((zup (zup sg 35 (sg 34 1) ((v.toUInt32 >>> ((24 : Int32).toUInt32 &&& Int32.toUInt32 31)).toInt32)) 35 (((zup sg 35 (sg 34 1) ((v.toUInt32 >>> ((24 : Int32).toUInt32 &&& Int32.toUInt32 31)).toInt32)) 34 1) + 1) (((v.toUInt32 >>> ((16 : Int32).toUInt32 &&& Int32.toUInt32 31)).toInt32) &&& 255)) 34 1) + 2) (((v.toUInt32 >>> ((8 : Int32).toUInt32 &&& Int32.toUInt32 31)).toInt32) &&& 255)) 34 1) + 3) (v &&& 255)) 34 1) + 4))) (Ps := [zOb (zN sg) 34 7 ∧ (zN sg).2.2 34 0 = true, zOb (zN sg) 34 7, zIn (zN sg) 35 0 (sg 34 1), zOb (zN (zup sg 35 (sg 34 1) ((v.toUInt32 >>> ((24 : Int32).toUInt32 &&& Int32.toUInt32 31)).toInt32))) 34 7 ∧ (zN (zup sg 35 (sg 34 1) ((v.toUInt32 >>> ((24 : Int32).toUInt32 &&& Int32.toUInt32 31)).toInt32))).2.2 34 0 = true, zOb (zN (zup sg 35 (sg 34 1) ((v.toUInt32 >>> ((24 : Int32).toUInt32 &&& Int32.toUInt32 31)).toInt32))) 34 7, zIn (zN (zup sg 35 (sg 34 1) ((v.toUInt32 >>> ((24 : Int32).toUInt32 &&& Int32.toUInt32 31)).toInt32))) 35 0 (((zup sg 35 (sg 34 1) ((v.toUInt32 >>> ((24 : Int32).toUInt32 &&& Int32.toUInt32 31)).toInt32)) 34 1) + 1), zOb (zN (zup (zup sg 35 (sg 34 1) ((v.toUInt32 >>> ((24 : Int32).toUInt32 &&& Int32.toUInt32 31)).toInt32)) 35 (((zup sg 35 (sg 34 1) ((v.toUInt32 >>> ((24 : Int32).toUInt32 &&& Int32.toUInt32 31)).toInt32)) 34 1) + 1) (((v.toUInt32 >>> ((16 : Int32).toUInt32 &&& Int32.toUInt32 31)).toInt32) &&& 255))) 34 7 ∧ (zN (zup (zup sg 35 (sg 34 1) ((v.toUInt32 >>> ((24 : Int32).toUInt32 &&& Int32.toUInt32 31)).toInt32)) 35 (((zup sg 35 (sg 34 1) ((v.toUInt32 >>> ((24 : Int32).toUInt32 &&& Int32.toUInt32 31)).toInt32)) 34 1) + 1) (((v.toUInt32 >>> ((16 : Int32).toUInt32 &&& Int32.toUInt32 31)).toInt32) &&& 255))).2.2 34 0 = true, zOb (zN (zup (zup sg 35 (sg 34 1) ((v.toUInt32 >>> ((24 : Int32).toUInt32 &&& Int32.toUInt32 31)).toInt32)) 35 (((zup sg 35 (sg 34 1) ((v.toUInt32 >>> ((24 : Int32).toUInt32 &&& Int32.toUInt32 31)).toInt32)) 34 1) + 1) (((v.toUInt32 >>> ((16 : Int32).toUInt32 &&& Int32.toUInt32 31)).toInt32) &&& 255))) 34 7, zIn (zN (zup (zup sg 35 (sg 34 1) ((v.toUInt32 >>> ((24 : Int32).toUInt32 &&& Int32.toUInt32 31)).toInt32)) 35 (((zup sg 35 (sg 34 1) ((v.toUInt32 >>> ((24 : Int32).toUInt32 &&& Int32.toUInt32 31)).toInt32)) 34 1) + 1) (((v.toUInt32 >>> ((16 : Int32).toUInt32 &&& Int32.toUInt32 31)).toInt32) &&& 255))) 35 0 (((zup (zup sg 35 (sg 34 1) ((v.toUInt32 >>> ((24 : Int32).toUInt32 &&& Int32.toUInt32 31)).toInt32)) 35 (((zup sg 35 (sg 34 1) ((v.toUInt32 >>> ((24 : Int32).toUInt32 &&& Int32.toUInt32 31)).toInt32)) 34 1) + 1) (((v.toUInt32 >>> ((16 : Int32).toUInt32 &&& Int32.toUInt32 31)).toInt32) &&& 255)) 34 1) + 2), zOb (zN (zup (zup (zup sg 35 (sg 34 1) ((v.toUInt32 >>> ((24 : Int32).toUInt32 &&& Int32.toUInt32 31)).toInt32)) 35 (((zup sg 35 (sg 34 1) ((v.toUInt32 >>> ((24 : Int32).toUInt32 &&& Int32.toUInt32 31)).toInt32)) 34 1) + 1) (((v.toUInt32 >>> ((16 : Int32).toUInt32 &&& Int32.toUInt32 31)).toInt32) &&& 255)) 35 (((zup (zup sg 35 (sg 34 1) ((v.toUInt32 >>> ((24 : Int32).toUInt32 &&& Int32.toUInt32 31)).toInt32)) 35 (((zup sg 35 (sg 34 1) ((v.toUInt32 >>> ((24 : Int32).toUInt32 &&& Int32.toUInt32 31)).toInt32)) 34 1) + 1) (((v.toUInt32 >>> ((16 : Int32).toUInt32 &&& Int32.toUInt32 31)).toInt32) &&& 255)) 34 1) + 2) (((v.toUInt32 >>> ((8 : Int32).toUInt32 &&& Int32.toUInt32 31)).toInt32) &&& 255))) 34 7 ∧ (zN (zup (zup (zup sg 35 (sg 34 1) ((v.toUInt32 >>> ((24 : Int32).toUInt32 &&& Int32.toUInt32 31)).toInt32)) 35 (((zup sg 35 (sg 34 1) ((v.toUInt32 >>> ((24 : Int32).toUInt32 &&& Int32.toUInt32 31)).toInt32)) 34 1) + 1) (((v.toUInt32 >>> ((16 : Int32).toUInt32 &&& Int32.toUInt32 31)).toInt32) &&& 255)) 35 (((zup (zup sg 35 (sg 34 1) ((v.toUInt32 >>> ((24 : Int32).toUInt32 &&& Int32.toUInt32 31)).toInt32)) 35 (((zup sg 35 (sg 34 1) ((v.toUInt32 >>> ((24 : Int32).toUInt32 &&& Int32.toUInt32 31)).toInt32)) 34 1) + 1) (((v.toUInt32 >>> ((16 : Int32).toUInt32 &&& Int32.toUInt32 31)).toInt32) &&& 255)) 34 1) + 2) (((v.toUInt32 >>> ((8 : Int32).toUInt32 &&& Int32.toUInt32 31)).toInt32) &&& 255))).2.2 34 0 = true, zOb (zN (zup (zup (zup sg 35 (sg 34 1) ((v.toUInt32 >>> ((24 : Int32).toUInt32 &&& Int32.toUInt32 31)).toInt32)) 35 (((zup sg 35 (sg 34 1) ((v.toUInt32 >>> ((24 : Int32).toUInt32 &&& Int32.toUInt32 31)).toInt32)) 34 1) + 1) (((v.toUInt32 >>> ((16 : Int32).toUInt32 &&& Int32.toUInt32 31)).toInt32) &&& 255)) 35 (((zup (zup sg 35 (sg 34 1) ((v.toUInt32 >>> ((24 : Int32).toUInt32 &&& Int32.toUInt32 31)).toInt32)) 35 (((zup sg 35 (sg 34 1) ((v.toUInt32 >>> ((24 : Int32).toUInt32 &&& Int32.toUInt32 31)).toInt32)) 34 1) + 1) (((v.toUInt32 >>> ((16 : Int32).toUInt32 &&& Int32.toUInt32 31)).toInt32) &&& 255)) 34 1) + 2) (((v.toUInt32 >>> ((8 : Int32).toUInt32 &&& Int32.toUInt32 31)).toInt32) &&& 255))) 34 7, zIn (zN (zup (zup (zup sg 35 (sg 34 1) ((v.toUInt32 >>> ((24 : Int32).toUInt32 &&& Int32.toUInt32 31)).toInt32)) 35 (((zup sg 35 (sg 34 1) ((v.toUInt32 >>> ((24 : Int32).toUInt32 &&& Int32.toUInt32 31)).toInt32)) 34 1) + 1) (((v.toUInt32 >>> ((16 : Int32).toUInt32 &&& Int32.toUInt32 31)).toInt32) &&& 255)) 35 (((zup (zup sg 35 (sg 34 1) ((v.toUInt32 >>> ((24 : Int32).toUInt32 &&& Int32.toUInt32 31)).toInt32)) 35 (((zup sg 35 (sg 34 1) ((v.toUInt32 >>> ((24 : Int32).toUInt32 &&& Int32.toUInt32 31)).toInt32)) 34 1) + 1) (((v.toUInt32 >>> ((16 : Int32).toUInt32 &&& Int32.toUInt32 31)).toInt32) &&& 255)) 34 1) + 2) (((v.toUInt32 >>> ((8 : Int32).toUInt32 &&& Int32.toUInt32 31)).toInt32) &&& 255))) 35 0 (((zup (zup (zup sg 35 (sg 34 1) ((v.toUInt32 >>> ((24 : Int32).toUInt32 &&& Int32.toUInt32 31)).toInt32)) 35 (((zup sg 35 (sg 34 1) ((v.toUInt32 >>> ((24 : Int32).toUInt32 &&& Int32.toUInt32 31)).toInt32)) 34 1) + 1) (((v.toUInt32 >>> ((16 : Int32).toUInt32 &&& Int32.toUInt32 31)).toInt32) &&& 255)) 35 (((zup (zup sg 35 (sg 34 1) ((v.toUInt32 >>> ((24 : Int32).toUInt32 &&& Int32.toUInt32 31)).toInt32)) 35 (((zup sg 35 (sg 34 1) ((v.toUInt32 >>> ((24 : Int32).toUInt32 &&& Int32.toUInt32 31)).toInt32)) 34 1) + 1) (((v.toUInt32 >>> ((16 : Int32).toUInt32 &&& Int32.toUInt32 31)).toInt32) &&& 255)) 34 1) + 2) (((v.toUInt32 >>> ((8 : Int32).toUInt32 &&& Int32.toUInt32 31)).toInt32) &&& 255)) 34 1) + 3), zOb (zN (zup (zup (zup (zup sg 35 (sg 34 1) ((v.toUInt32 >>> ((24 : Int32).toUInt32 &&& Int32.toUInt32 31)).toInt32)) 35 (((zup sg 35 (sg 34 1) ((v.toUInt32 >>> ((24 : Int32).toUInt32 &&& Int32.toUInt32 31)).toInt32)) 34 1) + 1) (((v.toUInt32 >>> ((16 : Int32).toUInt32 &&& Int32.toUInt32 31)).toInt32) &&& 255)) 35 (((zup (zup sg 35 (sg 34 1) ((v.toUInt32 >>> ((24 : Int32).toUInt32 &&& Int32.toUInt32 31)).toInt32)) 35 (((zup sg 35 (sg 34 1) ((v.toUInt32 >>> ((24 : Int32).toUInt32 &&& Int32.toUInt32 31)).toInt32)) 34 1) + 1) (((v.toUInt32 >>> ((16 : Int32).toUInt32 &&& Int32.toUInt32 31)).toInt32) &&& 255)) 34 1) + 2) (((v.toUInt32 >>> ((8 : Int32).toUInt32 &&& Int32.toUInt32 31)).toInt32) &&& 255)) 35 (((zup (zup (zup sg 35 (sg 34 1) ((v.toUInt32 >>> ((24 : Int32).toUInt32 &&& Int32.toUInt32 31)).toInt32)) 35 (((zup sg 35 (sg 34 1) ((v.toUInt32 >>> ((24 : Int32).toUInt32 &&& Int32.toUInt32 31)).toInt32)) 34 1) + 1) (((v.toUInt32 >>> ((16 : Int32).toUInt32 &&& Int32.toUInt32 31)).toInt32) &&& 255)) 35 (((zup (zup sg 35 (sg 34 1) ((v.toUInt32 >>> ((24 : Int32).toUInt32 &&& Int32.toUInt32 31)).toInt32)) 35 (((zup sg 35 (sg 34 1) ((v.toUInt32 >>> ((24 : Int32).toUInt32 &&& Int32.toUInt32 31)).toInt32)) 34 1) + 1) (((v.toUInt32 >>> ((16 : Int32).toUInt32 &&& Int32.toUInt32 31)).toInt32) &&& 255)) 34 1) + 2) (((v.toUInt32 >>> ((8 : Int32).toUInt32 &&& Int32.toUInt32 31)).toInt32) &&& 255)) 34 1) + 3) (v &&& 255))) 34 7, zOb (zN (zup (zup (zup (zup sg 35 (sg 34 1) ((v.toUInt32 >>> ((24 : Int32).toUInt32 &&& Int32.toUInt32 31)).toInt32)) 35 (((zup sg 35 (sg 34 1) ((v.toUInt32 >>> ((24 : Int32).toUInt32 &&& Int32.toUInt32 31)).toInt32)) 34 1) + 1) (((v.toUInt32 >>> ((16 : Int32).toUInt32 &&& Int32.toUInt32 31)).toInt32) &&& 255)) 35 (((zup (zup sg 35 (sg 34 1) ((v.toUInt32 >>> ((24 : Int32).toUInt32 &&& Int32.toUInt32 31)).toInt32)) 35 (((zup sg 35 (sg 34 1) ((v.toUInt32 >>> ((24 : Int32).toUInt32 &&& Int32.toUInt32 31)).toInt32)) 34 1) + 1) (((v.toUInt32 >>> ((16 : Int32).toUInt32 &&& Int32.toUInt32 31)).toInt32) &&& 255)) 34 1) + 2) (((v.toUInt32 >>> ((8 : Int32).toUInt32 &&& Int32.toUInt32 31)).toInt32) &&& 255)) 35 (((zup (zup (zup sg 35 (sg 34 1) ((v.toUInt32 >>> ((24 : Int32).toUInt32 &&& Int32.toUInt32 31)).toInt32)) 35 (((zup sg 35 (sg 34 1) ((v.toUInt32 >>> ((24 : Int32).toUInt32 &&& Int32.toUInt32 31)).toInt32)) 34 1) + 1) (((v.toUInt32 >>> ((16 : Int32).toUInt32 &&& Int32.toUInt32 31)).toInt32) &&& 255)) 35 (((zup (zup sg 35 (sg 34 1) ((v.toUInt32 >>> ((24 : Int32).toUInt32 &&& Int32.toUInt32 31)).toInt32)) 35 (((zup sg 35 (sg 34 1) ((v.toUInt32 >>> ((24 : Int32).toUInt32 &&& Int32.toUInt32 31)).toInt32)) 34 1) + 1) (((v.toUInt32 >>> ((16 : Int32).toUInt32 &&& Int32.toUInt32 31)).toInt32) &&& 255)) 34 1) + 2) (((v.toUInt32 >>> ((8 : Int32).toUInt32 &&& Int32.toUInt32 31)).toInt32) &&& 255)) 34 1) + 3) (v &&& 255))) 34 7]) rfl (zA ⟨zob_34, rfl⟩ (zA zob_34 (zA (zin_35 (i := sg 34 1) (by (try simp only [zup_e]); grind) (by (try simp only [zup_e]); grind)) (zA ⟨zob_34, rfl⟩ (zA zob_34 (zA (zin_35 (i := ((zup sg 35 (sg 34 1) ((v.toUInt32 >>> ((24 : Int32).toUInt32 &&& Int32.toUInt32 31)).toInt32)) 34 1) + 1) (by (try simp only [zup_e]); grind) (by (try simp only [zup_e]); grind)) (zA ⟨zob_34, rfl⟩ (zA zob_34 (zA (zin_35 (i := ((zup (zup sg 35 (sg 34 1) ((v.toUInt32 >>> ((24 : Int32).toUInt32 &&& Int32.toUInt32 31)).toInt32)) 35 (((zup sg 35 (sg 34 1) ((v.toUInt32 >>> ((24 : Int32).toUInt32 &&& Int32.toUInt32 31)).toInt32)) 34 1) + 1) (((v.toUInt32 >>> ((16 : Int32).toUInt32 &&& Int32.toUInt32 31)).toInt32) &&& 255)) 34 1) + 2) (by (try simp only [zup_e]); grind) (by (try simp only [zup_e]); grind)) (zA ⟨zob_34, rfl⟩ (zA zob_34 (zA (zin_35 (i := ((zup (zup (zup sg 35 (sg 34 1) ((v.toUInt32 >>> ((24 : Int32).toUInt32 &&& Int32.toUInt32 31)).toInt32)) 35 (((zup sg 35 (sg 34 1) ((v.toUInt32 >>> ((24 : Int32).toUInt32 &&& Int32.toUInt32 31)).toInt32)) 34 1) + 1) (((v.toUInt32 >>> ((16 : Int32).toUInt32 &&& Int32.toUInt32 31)).toInt32) &&& 255)) 35 (((zup (zup sg 35 (sg 34 1) ((v.toUInt32 >>> ((24 : Int32).toUInt32 &&& Int32.toUInt32 31)).toInt32)) 35 (((zup sg 35 (sg 34 1) ((v.toUInt32 >>> ((24 : Int32).toUInt32 &&& Int32.toUInt32 31)).toInt32)) 34 1) + 1) (((v.toUInt32 >>> ((16 : Int32).toUInt32 &&& Int32.toUInt32 31)).toInt32) &&& 255)) 34 1) + 2) (((v.toUInt32 >>> ((8 : Int32).toUInt32 &&& Int32.toUInt32 31)).toInt32) &&& 255)) 34 1) + 3) (by (try simp only [zup_e]); grind) (by (try simp only [zup_e]); grind)) (zA zob_34 (zA zob_34 trivial)))))))))))))) rfl ?_
    first | (exfalso; grind; done) | (refine ⟨rfl, ?_⟩; congr 1; funext a j; simp only [hAF, zup_e]; grind (splits := 40))
  · skip
    refine zb_vret bkTap_addFour_12 bdTap_addFour_12 rfl (h' := zN sg) (Ps := []) rfl trivial rfl ?_
    first | (exfalso; grind; done) | (refine ⟨rfl, ?_⟩; congr 1; funext a j; simp only [hAF, zup_e]; grind (splits := 40))
theorem bkLoo_beginsRun_0 : zBk mLoo_beginsRun 0 [(1, 1, 0, 0, 0)] = some 1 := by decide +kernel
theorem bkLoo_beginsRun_21 : zBk mLoo_beginsRun 21 [(0, 0, 0, 0, 1), (22, 26, 0, 0, 0)] = some 26 := by decide +kernel
theorem bkLoo_beginsRun_4 : zBk mLoo_beginsRun 4 [(1, 0, 1, 0, 0), (5, 3, 0, 1, 0), (1, 1, 0, 0, 0), (7, 0, 0, 0, 0), (1, 0, 1, 0, 0), (5, 3, 0, 1, 0), (1, 1, 0, 0, 0), (0, 0, 0, 0, 1), (4, 1, 0, 0, 0), (7, 0, 0, 0, 0)] = some 18 := by decide +kernel
theorem bkLoo_beginsRun_25 : zBk mLoo_beginsRun 25 [(0, 0, 0, 0, 0)] = some 26 := by decide +kernel
theorem bdLoo_beginsRun_1 : decode mLoo_beginsRun.2.2.1 1 = .ok (.ifCond .eq 20, 3) := by decide +kernel
theorem bdLoo_beginsRun_18 : decode mLoo_beginsRun.2.2.1 18 = .ok (.if_icmp .eq 7, 3) := by decide +kernel
theorem bdLoo_beginsRun_26 : decode mLoo_beginsRun.2.2.1 26 = .ok (.ireturn, 1) := by decide +kernel
theorem cLoo_beginsRun_313 {sg : zSig} {i : Int32} (h0 : 0 ≤ i) (h1 : i < 200) : zG mLoo_beginsRun 411 (fun rr h' => rr = some (.int (bg (sg 314) i)) ∧ h' = zN sg) 0 [(0, .ref 313), (1, .int i)] [] (zN sg) := by
  refine zb_ifeq (tgt := 21) bkLoo_beginsRun_0 bdLoo_beginsRun_1 (by decide) (lv' := [(0, .ref 313), (1, .int i)]) (st' := []) (h' := zN sg) (x := i) (Ps := []) rfl trivial (fun c1 => ?_) (fun c1 => ?_)
  · skip
    refine zb_zret bkLoo_beginsRun_21 bdLoo_beginsRun_26 rfl (x := 1) (h' := zN sg) (Ps := []) rfl trivial rfl (Or.inr rfl) ?_
    exact ⟨by grind [bg], rfl⟩
  · skip
    refine zb_iceq (tgt := 25) bkLoo_beginsRun_4 bdLoo_beginsRun_18 (by decide) (lv' := [(0, .ref 313), (1, .int i)]) (st' := []) (h' := zN sg) (x := sg 314 i) (y := sg 314 (i - 1)) (Ps := [zOb (zN sg) 313 3 ∧ (zN sg).2.2 313 0 = true, zInL (zN sg) 314 i, zOb (zN sg) 313 3 ∧ (zN sg).2.2 313 0 = true, zInL (zN sg) 314 (i - 1)]) rfl (zA ⟨zob_313, rfl⟩ (zA (zinL_314 (i := i) (by grind) (by grind)) (zA ⟨zob_313, rfl⟩ (zA (zinL_314 (i := i - 1) (by grind) (by grind)) trivial)))) (fun c2 => ?_) (fun c2 => ?_)
    · skip
      refine zb_zret bkLoo_beginsRun_25 bdLoo_beginsRun_26 rfl (x := 0) (h' := zN sg) (Ps := []) rfl trivial rfl (Or.inl rfl) ?_
      exact ⟨by grind [bg], rfl⟩
    · skip
      refine zb_zret bkLoo_beginsRun_21 bdLoo_beginsRun_26 rfl (x := 1) (h' := zN sg) (Ps := []) rfl trivial rfl (Or.inr rfl) ?_
      exact ⟨by grind [bg], rfl⟩
theorem bkLoo_howManyRuns_0 : zBk mLoo_howManyRuns 0 [(0, 0, 0, 0, 0), (2, 1, 0, 0, 0), (0, 0, 0, 0, 0), (2, 2, 0, 0, 0)] = some 4 := by decide +kernel
theorem bkLoo_howManyRuns_4 : zBk mLoo_howManyRuns 4 [(1, 2, 0, 0, 0), (1, 0, 1, 0, 0), (5, 3, 1, 0, 1)] = some 9 := by decide +kernel
theorem bkLoo_howManyRuns_29 : zBk mLoo_howManyRuns 29 [(1, 1, 0, 0, 0)] = some 30 := by decide +kernel
theorem bkLoo_howManyRuns_12 : zBk mLoo_howManyRuns 12 [(1, 0, 1, 0, 0), (1, 2, 0, 0, 0)] = some 14 := by decide +kernel
theorem bkLoo_howManyRuns_17 : zBk mLoo_howManyRuns 17 [] = some 17 := by decide +kernel
theorem bkLoo_howManyRuns_23 : zBk mLoo_howManyRuns 23 [(3, 2, 0, 0, 1), (22, 4, 0, 0, 0)] = some 4 := by decide +kernel
theorem bkLoo_howManyRuns_20 : zBk mLoo_howManyRuns 20 [(3, 1, 0, 0, 1), (3, 2, 0, 0, 1), (22, 4, 0, 0, 0)] = some 4 := by decide +kernel
theorem bdLoo_howManyRuns_9 : decode mLoo_howManyRuns.2.2.1 9 = .ok (.if_icmp .ge 20, 3) := by decide +kernel
theorem bdLoo_howManyRuns_14 : decode mLoo_howManyRuns.2.2.1 14 = .ok (.invokevirtual 84, 3) := by decide +kernel
theorem bdLoo_howManyRuns_17 : decode mLoo_howManyRuns.2.2.1 17 = .ok (.ifCond .eq 6, 3) := by decide +kernel
theorem bdLoo_howManyRuns_30 : decode mLoo_howManyRuns.2.2.1 30 = .ok (.ireturn, 1) := by decide +kernel
theorem lLoo_howManyRuns_313 {sg : zSig}  (hn0 : 0 ≤ sg 313 1) (hn : sg 313 1 ≤ 200) {Q : Option Value → zHp → Prop} (hq : ∀ rr h', (rr = some (.int (zit (rN (sg 314)) 0 (sg 313 1))) ∧ h' = zN sg) → Q rr h') : zG mLoo_howManyRuns 411 Q 0 [(0, .ref 313)] [] (zN sg) := by
  refine zG_run bkLoo_howManyRuns_0 (lv' := [(2, .int 0), (1, .int 0), (0, .ref 313)]) (st' := []) (h' := zN sg) (Ps := []) rfl trivial ?_
  refine zG_pick (lv' := [(0, .ref 313), (1, .int 0), (2, .int 0)]) [2, 1, 0] rfl ?_
  refine zlp2 (fun (n : Int32) (i : Int32) => zG mLoo_howManyRuns 411 Q 4 [(0, .ref 313), (1, .int n), (2, .int i)] [] (zN sg)) (fun (n : Int32) (i : Int32) => (0 ≤ i) ∧ (i ≤ sg 313 1) ∧ (n = zit (rN (sg 314)) 0 i)) (fun (n : Int32) (i : Int32) => zmu (sg 313 1) i) ?_ 0 0 ?_
  · intro n i hI ih
    obtain ⟨h0, h1, h2⟩ := hI
    refine zb_icge (tgt := 29) bkLoo_howManyRuns_4 bdLoo_howManyRuns_9 (by decide) (lv' := [(0, .ref 313), (1, .int n), (2, .int i)]) (st' := []) (h' := zN sg) (x := i) (y := sg 313 1) (Ps := [zOb (zN sg) 313 3]) rfl (zA zob_313 trivial) (fun c1 => ?_) (fun c1 => ?_)
    · skip
      refine zb_iret bkLoo_howManyRuns_29 bdLoo_howManyRuns_30 rfl (x := n) (h' := zN sg) (Ps := []) rfl trivial rfl ?_
      refine hq _ _ ?_
      exact ⟨by grind, rfl⟩
    · skip
      refine zG_run bkLoo_howManyRuns_12 (lv' := [(0, .ref 313), (1, .int n), (2, .int i)]) (st' := [.int i, .ref 313]) (h' := zN sg) (Ps := []) rfl trivial ?_
      refine zG_callv (a := 313) (c := 3) (As := [.int i]) (rest := []) (N2 := 411) bdLoo_howManyRuns_14 okLoo_beginsRun lk3_84 (And.intro (by decide) (by decide)) (by decide) rfl rfl rfl (Nat.le_of_ble_eq_true rfl) (Nat.le_of_ble_eq_true rfl) (Nat.le_refl 411) (Nat.le_refl 411) zob_313 (cLoo_beginsRun_313 (by grind) (by grind)) ?_
      rintro rr h' ⟨rfl, rfl⟩ -
      refine zb_ifeq (tgt := 23) bkLoo_howManyRuns_17 bdLoo_howManyRuns_17 (by decide) (lv' := [(0, .ref 313), (1, .int n), (2, .int i)]) (st' := []) (h' := zN sg) (x := bg (sg 314) i) (Ps := []) rfl trivial (fun c2 => ?_) (fun c2 => ?_)
      · skip
        refine zG_run bkLoo_howManyRuns_23 (lv' := [(2, .int (i + 1)), (0, .ref 313), (1, .int n)]) (st' := []) (h' := zN sg) (Ps := []) rfl trivial ?_
        refine zG_pick (lv' := [(0, .ref 313), (1, .int n), (2, .int (i + 1))]) [1, 2, 0] rfl ?_
        refine ih n (i + 1) ?_ ?_
        · refine ⟨?_, ?_, ?_⟩
          · grind
          · grind
          · rw [zit_s _ _ h0 (by grind : i < sg 313 1)]; grind [rN]
        · exact zmu_up (by grind)
      · skip
        refine zG_run bkLoo_howManyRuns_20 (lv' := [(2, .int (i + 1)), (1, .int (n + 1)), (0, .ref 313)]) (st' := []) (h' := zN sg) (Ps := []) rfl trivial ?_
        refine zG_pick (lv' := [(0, .ref 313), (1, .int (n + 1)), (2, .int (i + 1))]) [2, 1, 0] rfl ?_
        refine ih (n + 1) (i + 1) ?_ ?_
        · refine ⟨?_, ?_, ?_⟩
          · grind
          · grind
          · rw [zit_s _ _ h0 (by grind : i < sg 313 1)]; grind [rN]
        · exact zmu_up (by grind)
  · refine ⟨?_, ?_, ?_⟩
    · grind
    · grind
    · rfl
theorem cLoo_howManyRuns_313 {sg : zSig}  (hn0 : 0 ≤ sg 313 1) (hn : sg 313 1 ≤ 200) : zG mLoo_howManyRuns 411 (fun rr h' => rr = some (.int (zit (rN (sg 314)) 0 (sg 313 1))) ∧ h' = zN sg) 0 [(0, .ref 313)] [] (zN sg) := lLoo_howManyRuns_313 hn0 hn (fun _ _ q => q)
theorem bkLoo_firstOfRun_0 : zBk mLoo_firstOfRun 0 [(0, 0, 0, 0, 0), (2, 2, 0, 0, 0), (0, 0, 0, 0, 0), (2, 3, 0, 0, 0)] = some 4 := by decide +kernel
theorem bkLoo_firstOfRun_4 : zBk mLoo_firstOfRun 4 [(1, 3, 0, 0, 0), (1, 0, 1, 0, 0), (5, 3, 1, 0, 1)] = some 9 := by decide +kernel
theorem bkLoo_firstOfRun_36 : zBk mLoo_firstOfRun 36 [(0, 0, 0, 0, -1)] = some 37 := by decide +kernel
theorem bkLoo_firstOfRun_12 : zBk mLoo_firstOfRun 12 [(1, 0, 1, 0, 0), (1, 3, 0, 0, 0)] = some 14 := by decide +kernel
theorem bkLoo_firstOfRun_17 : zBk mLoo_firstOfRun 17 [] = some 17 := by decide +kernel
theorem bkLoo_firstOfRun_30 : zBk mLoo_firstOfRun 30 [(3, 3, 0, 0, 1), (22, 4, 0, 0, 0)] = some 4 := by decide +kernel
theorem bkLoo_firstOfRun_20 : zBk mLoo_firstOfRun 20 [(1, 2, 0, 0, 0), (1, 1, 0, 0, 0)] = some 22 := by decide +kernel
theorem bkLoo_firstOfRun_27 : zBk mLoo_firstOfRun 27 [(3, 2, 0, 0, 1), (3, 3, 0, 0, 1), (22, 4, 0, 0, 0)] = some 4 := by decide +kernel
theorem bkLoo_firstOfRun_25 : zBk mLoo_firstOfRun 25 [(1, 3, 0, 0, 0)] = some 26 := by decide +kernel
theorem bdLoo_firstOfRun_9 : decode mLoo_firstOfRun.2.2.1 9 = .ok (.if_icmp .ge 27, 3) := by decide +kernel
theorem bdLoo_firstOfRun_14 : decode mLoo_firstOfRun.2.2.1 14 = .ok (.invokevirtual 84, 3) := by decide +kernel
theorem bdLoo_firstOfRun_17 : decode mLoo_firstOfRun.2.2.1 17 = .ok (.ifCond .eq 13, 3) := by decide +kernel
theorem bdLoo_firstOfRun_22 : decode mLoo_firstOfRun.2.2.1 22 = .ok (.if_icmp .ne 5, 3) := by decide +kernel
theorem bdLoo_firstOfRun_26 : decode mLoo_firstOfRun.2.2.1 26 = .ok (.ireturn, 1) := by decide +kernel
theorem bdLoo_firstOfRun_37 : decode mLoo_firstOfRun.2.2.1 37 = .ok (.ireturn, 1) := by decide +kernel
theorem lLoo_firstOfRun_313 {sg : zSig} {q : Int32} (hn0 : 0 ≤ sg 313 1) (hn : sg 313 1 ≤ 200) {Q : Option Value → zHp → Prop} (hq : ∀ rr h', (∃ v, rr = some (.int v) ∧ h' = zN sg ∧ ((0 ≤ v ∧ v < sg 313 1 ∧ bg (sg 314) v ≠ 0 ∧ zit (rN (sg 314)) 0 v = q) ∨ (v = -1 ∧ ∀ j, 0 ≤ j → j < sg 313 1 → bg (sg 314) j = 0 ∨ zit (rN (sg 314)) 0 j ≠ q))) → Q rr h') : zG mLoo_firstOfRun 411 Q 0 [(0, .ref 313), (1, .int q)] [] (zN sg) := by
  refine zG_run bkLoo_firstOfRun_0 (lv' := [(3, .int 0), (2, .int 0), (0, .ref 313), (1, .int q)]) (st' := []) (h' := zN sg) (Ps := []) rfl trivial ?_
  refine zG_pick (lv' := [(0, .ref 313), (1, .int q), (2, .int 0), (3, .int 0)]) [2, 3, 1, 0] rfl ?_
  refine zlp2 (fun (n : Int32) (i : Int32) => zG mLoo_firstOfRun 411 Q 4 [(0, .ref 313), (1, .int q), (2, .int n), (3, .int i)] [] (zN sg)) (fun (n : Int32) (i : Int32) => (0 ≤ i) ∧ (i ≤ sg 313 1) ∧ (n = zit (rN (sg 314)) 0 i) ∧ (∀ j, 0 ≤ j → j < i → bg (sg 314) j = 0 ∨ zit (rN (sg 314)) 0 j ≠ q)) (fun (n : Int32) (i : Int32) => zmu (sg 313 1) i) ?_ 0 0 ?_
  · intro n i hI ih
    obtain ⟨h0, h1, h2, h3⟩ := hI
    refine zb_icge (tgt := 36) bkLoo_firstOfRun_4 bdLoo_firstOfRun_9 (by decide) (lv' := [(0, .ref 313), (1, .int q), (2, .int n), (3, .int i)]) (st' := []) (h' := zN sg) (x := i) (y := sg 313 1) (Ps := [zOb (zN sg) 313 3]) rfl (zA zob_313 trivial) (fun c1 => ?_) (fun c1 => ?_)
    · skip
      refine zb_iret bkLoo_firstOfRun_36 bdLoo_firstOfRun_37 rfl (x := (-1)) (h' := zN sg) (Ps := []) rfl trivial rfl ?_
      refine hq _ _ ?_
      exact ⟨_, rfl, rfl, Or.inr ⟨rfl, fun j h5 h6 => h3 j h5 (by grind)⟩⟩
    · skip
      refine zG_run bkLoo_firstOfRun_12 (lv' := [(0, .ref 313), (1, .int q), (2, .int n), (3, .int i)]) (st' := [.int i, .ref 313]) (h' := zN sg) (Ps := []) rfl trivial ?_
      refine zG_callv (a := 313) (c := 3) (As := [.int i]) (rest := []) (N2 := 411) bdLoo_firstOfRun_14 okLoo_beginsRun lk3_84 (And.intro (by decide) (by decide)) (by decide) rfl rfl rfl (Nat.le_of_ble_eq_true rfl) (Nat.le_of_ble_eq_true rfl) (Nat.le_refl 411) (Nat.le_refl 411) zob_313 (cLoo_beginsRun_313 (by grind) (by grind)) ?_
      rintro rr h' ⟨rfl, rfl⟩ -
      refine zb_ifeq (tgt := 30) bkLoo_firstOfRun_17 bdLoo_firstOfRun_17 (by decide) (lv' := [(0, .ref 313), (1, .int q), (2, .int n), (3, .int i)]) (st' := []) (h' := zN sg) (x := bg (sg 314) i) (Ps := []) rfl trivial (fun c2 => ?_) (fun c2 => ?_)
      · skip
        refine zG_run bkLoo_firstOfRun_30 (lv' := [(3, .int (i + 1)), (0, .ref 313), (1, .int q), (2, .int n)]) (st' := []) (h' := zN sg) (Ps := []) rfl trivial ?_
        refine zG_pick (lv' := [(0, .ref 313), (1, .int q), (2, .int n), (3, .int (i + 1))]) [1, 2, 3, 0] rfl ?_
        refine ih n (i + 1) ?_ ?_
        · refine ⟨?_, ?_, ?_, ?_⟩
          · grind
          · grind
          · rw [zit_s _ _ h0 (by grind : i < sg 313 1)]; grind [rN]
          · intro j hj0 hj1; by_cases hj : j = i; · subst hj; grind
            exact h3 j hj0 (by grind)
        · exact zmu_up (by grind)
      · skip
        refine zb_icne (tgt := 27) bkLoo_firstOfRun_20 bdLoo_firstOfRun_22 (by decide) (lv' := [(0, .ref 313), (1, .int q), (2, .int n), (3, .int i)]) (st' := []) (h' := zN sg) (x := n) (y := q) (Ps := []) rfl trivial (fun c3 => ?_) (fun c3 => ?_)
        · skip
          refine zG_run bkLoo_firstOfRun_27 (lv' := [(3, .int (i + 1)), (2, .int (n + 1)), (0, .ref 313), (1, .int q)]) (st' := []) (h' := zN sg) (Ps := []) rfl trivial ?_
          refine zG_pick (lv' := [(0, .ref 313), (1, .int q), (2, .int (n + 1)), (3, .int (i + 1))]) [2, 3, 1, 0] rfl ?_
          refine ih (n + 1) (i + 1) ?_ ?_
          · refine ⟨?_, ?_, ?_, ?_⟩
            · grind
            · grind
            · rw [zit_s _ _ h0 (by grind : i < sg 313 1)]; grind [rN]
            · intro j hj0 hj1; by_cases hj : j = i; · subst hj; grind
              exact h3 j hj0 (by grind)
          · exact zmu_up (by grind)
        · skip
          refine zb_iret bkLoo_firstOfRun_25 bdLoo_firstOfRun_26 rfl (x := i) (h' := zN sg) (Ps := []) rfl trivial rfl ?_
          refine hq _ _ ?_
          exact ⟨_, rfl, rfl, Or.inl ⟨h0, by grind, by grind, by grind⟩⟩
  · refine ⟨?_, ?_, ?_, ?_⟩
    · grind
    · grind
    · rfl
    · grind
theorem cLoo_firstOfRun_313 {sg : zSig} {q : Int32} (hn0 : 0 ≤ sg 313 1) (hn : sg 313 1 ≤ 200) : zG mLoo_firstOfRun 411 (fun rr h' => ∃ v, rr = some (.int v) ∧ h' = zN sg ∧ ((0 ≤ v ∧ v < sg 313 1 ∧ bg (sg 314) v ≠ 0 ∧ zit (rN (sg 314)) 0 v = q) ∨ (v = -1 ∧ ∀ j, 0 ≤ j → j < sg 313 1 → bg (sg 314) j = 0 ∨ zit (rN (sg 314)) 0 j ≠ q))) 0 [(0, .ref 313), (1, .int q)] [] (zN sg) := lLoo_firstOfRun_313 hn0 hn (fun _ _ q => q)
theorem bkLoo_endOfRun_0 : zBk mLoo_endOfRun 0 [(1, 1, 0, 0, 0), (0, 0, 0, 0, 1), (4, 0, 0, 0, 0), (2, 2, 0, 0, 0)] = some 4 := by decide +kernel
theorem bkLoo_endOfRun_4 : zBk mLoo_endOfRun 4 [(1, 2, 0, 0, 0), (1, 0, 1, 0, 0), (5, 3, 1, 0, 1)] = some 9 := by decide +kernel
theorem bkLoo_endOfRun_26 : zBk mLoo_endOfRun 26 [(1, 2, 0, 0, 0)] = some 27 := by decide +kernel
theorem bkLoo_endOfRun_12 : zBk mLoo_endOfRun 12 [(1, 0, 1, 0, 0), (1, 2, 0, 0, 0)] = some 14 := by decide +kernel
theorem bkLoo_endOfRun_17 : zBk mLoo_endOfRun 17 [] = some 17 := by decide +kernel
theorem bkLoo_endOfRun_20 : zBk mLoo_endOfRun 20 [(3, 2, 0, 0, 1), (22, 4, 0, 0, 0)] = some 4 := by decide +kernel
theorem bdLoo_endOfRun_9 : decode mLoo_endOfRun.2.2.1 9 = .ok (.if_icmp .ge 17, 3) := by decide +kernel
theorem bdLoo_endOfRun_14 : decode mLoo_endOfRun.2.2.1 14 = .ok (.invokevirtual 84, 3) := by decide +kernel
theorem bdLoo_endOfRun_17 : decode mLoo_endOfRun.2.2.1 17 = .ok (.ifCond .ne 9, 3) := by decide +kernel
theorem bdLoo_endOfRun_27 : decode mLoo_endOfRun.2.2.1 27 = .ok (.ireturn, 1) := by decide +kernel
theorem lLoo_endOfRun_313 {sg : zSig} {f : Int32} (hn0 : 0 ≤ sg 313 1) (hn : sg 313 1 ≤ 200) (hf0 : 0 ≤ f) (hf : f < sg 313 1) {Q : Option Value → zHp → Prop} (hq : ∀ rr h', (∃ v, rr = some (.int v) ∧ h' = zN sg ∧ f < v ∧ v ≤ sg 313 1 ∧ (∀ j, f < j → j < v → bg (sg 314) j = 0) ∧ (v = sg 313 1 ∨ bg (sg 314) v ≠ 0)) → Q rr h') : zG mLoo_endOfRun 411 Q 0 [(0, .ref 313), (1, .int f)] [] (zN sg) := by
  refine zG_run bkLoo_endOfRun_0 (lv' := [(2, .int (f + 1)), (0, .ref 313), (1, .int f)]) (st' := []) (h' := zN sg) (Ps := []) rfl trivial ?_
  refine zG_pick (lv' := [(0, .ref 313), (1, .int f), (2, .int (f + 1))]) [1, 2, 0] rfl ?_
  refine zlp1 (fun (i : Int32) => zG mLoo_endOfRun 411 Q 4 [(0, .ref 313), (1, .int f), (2, .int i)] [] (zN sg)) (fun (i : Int32) => (f < i) ∧ (i ≤ sg 313 1) ∧ (∀ j, f < j → j < i → bg (sg 314) j = 0)) (fun (i : Int32) => zmu (sg 313 1) i) ?_ (f + 1) ?_
  · intro i hI ih
    obtain ⟨h0, h1, h2⟩ := hI
    refine zb_icge (tgt := 26) bkLoo_endOfRun_4 bdLoo_endOfRun_9 (by decide) (lv' := [(0, .ref 313), (1, .int f), (2, .int i)]) (st' := []) (h' := zN sg) (x := i) (y := sg 313 1) (Ps := [zOb (zN sg) 313 3]) rfl (zA zob_313 trivial) (fun c1 => ?_) (fun c1 => ?_)
    · skip
      refine zb_iret bkLoo_endOfRun_26 bdLoo_endOfRun_27 rfl (x := i) (h' := zN sg) (Ps := []) rfl trivial rfl ?_
      refine hq _ _ ?_
      exact ⟨_, rfl, rfl, h0, h1, h2, by grind⟩
    · skip
      refine zG_run bkLoo_endOfRun_12 (lv' := [(0, .ref 313), (1, .int f), (2, .int i)]) (st' := [.int i, .ref 313]) (h' := zN sg) (Ps := []) rfl trivial ?_
      refine zG_callv (a := 313) (c := 3) (As := [.int i]) (rest := []) (N2 := 411) bdLoo_endOfRun_14 okLoo_beginsRun lk3_84 (And.intro (by decide) (by decide)) (by decide) rfl rfl rfl (Nat.le_of_ble_eq_true rfl) (Nat.le_of_ble_eq_true rfl) (Nat.le_refl 411) (Nat.le_refl 411) zob_313 (cLoo_beginsRun_313 (by grind) (by grind)) ?_
      rintro rr h' ⟨rfl, rfl⟩ -
      refine zb_ifne (tgt := 26) bkLoo_endOfRun_17 bdLoo_endOfRun_17 (by decide) (lv' := [(0, .ref 313), (1, .int f), (2, .int i)]) (st' := []) (h' := zN sg) (x := bg (sg 314) i) (Ps := []) rfl trivial (fun c2 => ?_) (fun c2 => ?_)
      · skip
        refine zb_iret bkLoo_endOfRun_26 bdLoo_endOfRun_27 rfl (x := i) (h' := zN sg) (Ps := []) rfl trivial rfl ?_
        refine hq _ _ ?_
        exact ⟨_, rfl, rfl, h0, h1, h2, by grind⟩
      · skip
        refine zG_run bkLoo_endOfRun_20 (lv' := [(2, .int (i + 1)), (0, .ref 313), (1, .int f)]) (st' := []) (h' := zN sg) (Ps := []) rfl trivial ?_
        refine zG_pick (lv' := [(0, .ref 313), (1, .int f), (2, .int (i + 1))]) [1, 2, 0] rfl ?_
        refine ih (i + 1) ?_ ?_
        · refine ⟨?_, ?_, ?_⟩
          · grind
          · grind
          · intro j hj0 hj1; by_cases hj : j = i; · subst hj; grind
            exact h2 j hj0 (by grind)
        · exact zmu_up (by grind)
  · refine ⟨?_, ?_, ?_⟩
    · grind
    · grind
    · grind
theorem cLoo_endOfRun_313 {sg : zSig} {f : Int32} (hn0 : 0 ≤ sg 313 1) (hn : sg 313 1 ≤ 200) (hf0 : 0 ≤ f) (hf : f < sg 313 1) : zG mLoo_endOfRun 411 (fun rr h' => ∃ v, rr = some (.int v) ∧ h' = zN sg ∧ f < v ∧ v ≤ sg 313 1 ∧ (∀ j, f < j → j < v → bg (sg 314) j = 0) ∧ (v = sg 313 1 ∨ bg (sg 314) v ≠ 0)) 0 [(0, .ref 313), (1, .int f)] [] (zN sg) := lLoo_endOfRun_313 hn0 hn hf0 hf (fun _ _ q => q)
theorem bkLoo_longestLength_0 : zBk mLoo_longestLength 0 [(0, 0, 0, 0, 0), (2, 1, 0, 0, 0), (0, 0, 0, 0, 0), (2, 2, 0, 0, 0), (0, 0, 0, 0, 0), (2, 3, 0, 0, 0)] = some 6 := by decide +kernel
theorem bkLoo_longestLength_6 : zBk mLoo_longestLength 6 [(1, 3, 0, 0, 0), (1, 0, 1, 0, 0), (5, 3, 1, 0, 1)] = some 11 := by decide +kernel
theorem bkLoo_longestLength_42 : zBk mLoo_longestLength 42 [(1, 1, 0, 0, 0)] = some 43 := by decide +kernel
theorem bkLoo_longestLength_14 : zBk mLoo_longestLength 14 [(1, 0, 1, 0, 0), (1, 3, 0, 0, 0)] = some 16 := by decide +kernel
theorem bkLoo_longestLength_19 : zBk mLoo_longestLength 19 [] = some 19 := by decide +kernel
theorem bkLoo_longestLength_26 : zBk mLoo_longestLength 26 [(1, 2, 0, 0, 0), (0, 0, 0, 0, 1), (4, 0, 0, 0, 0), (2, 2, 0, 0, 0), (1, 1, 0, 0, 0), (1, 2, 0, 0, 0)] = some 32 := by decide +kernel
theorem bkLoo_longestLength_35 : zBk mLoo_longestLength 35 [(2, 1, 0, 0, 0), (3, 3, 0, 0, 1), (22, 6, 0, 0, 0)] = some 6 := by decide +kernel
theorem bkLoo_longestLength_22 : zBk mLoo_longestLength 22 [(0, 0, 0, 0, 1), (22, 29, 0, 0, 0), (2, 2, 0, 0, 0), (1, 1, 0, 0, 0), (1, 2, 0, 0, 0)] = some 32 := by decide +kernel
theorem bdLoo_longestLength_11 : decode mLoo_longestLength.2.2.1 11 = .ok (.if_icmp .ge 31, 3) := by decide +kernel
theorem bdLoo_longestLength_16 : decode mLoo_longestLength.2.2.1 16 = .ok (.invokevirtual 84, 3) := by decide +kernel
theorem bdLoo_longestLength_19 : decode mLoo_longestLength.2.2.1 19 = .ok (.ifCond .eq 7, 3) := by decide +kernel
theorem bdLoo_longestLength_32 : decode mLoo_longestLength.2.2.1 32 = .ok (.invokestatic 63, 3) := by decide +kernel
theorem bdLoo_longestLength_43 : decode mLoo_longestLength.2.2.1 43 = .ok (.ireturn, 1) := by decide +kernel
theorem lLoo_longestLength_313 {sg : zSig}  (hn0 : 0 ≤ sg 313 1) (hn : sg 313 1 ≤ 200) {Q : Option Value → zHp → Prop} (hq : ∀ rr h', (rr = some (.int (zit (rL (sg 314)) (0, 0) (sg 313 1)).1) ∧ h' = zN sg) → Q rr h') : zG mLoo_longestLength 411 Q 0 [(0, .ref 313)] [] (zN sg) := by
  refine zG_run bkLoo_longestLength_0 (lv' := [(3, .int 0), (2, .int 0), (1, .int 0), (0, .ref 313)]) (st' := []) (h' := zN sg) (Ps := []) rfl trivial ?_
  refine zG_pick (lv' := [(0, .ref 313), (1, .int 0), (2, .int 0), (3, .int 0)]) [3, 2, 1, 0] rfl ?_
  refine zlp3 (fun (lo : Int32) (le : Int32) (i : Int32) => zG mLoo_longestLength 411 Q 6 [(0, .ref 313), (1, .int lo), (2, .int le), (3, .int i)] [] (zN sg)) (fun (lo : Int32) (le : Int32) (i : Int32) => (0 ≤ i) ∧ (i ≤ sg 313 1) ∧ ((lo, le) = zit (rL (sg 314)) (0, 0) i)) (fun (lo : Int32) (le : Int32) (i : Int32) => zmu (sg 313 1) i) ?_ 0 0 0 ?_
  · intro lo le i hI ih
    obtain ⟨h0, h1, h2⟩ := hI
    refine zb_icge (tgt := 42) bkLoo_longestLength_6 bdLoo_longestLength_11 (by decide) (lv' := [(0, .ref 313), (1, .int lo), (2, .int le), (3, .int i)]) (st' := []) (h' := zN sg) (x := i) (y := sg 313 1) (Ps := [zOb (zN sg) 313 3]) rfl (zA zob_313 trivial) (fun c1 => ?_) (fun c1 => ?_)
    · skip
      refine zb_iret bkLoo_longestLength_42 bdLoo_longestLength_43 rfl (x := lo) (h' := zN sg) (Ps := []) rfl trivial rfl ?_
      refine hq _ _ ?_
      have e : i = sg 313 1 := by grind
      rw [← e, ← h2]; exact ⟨rfl, rfl⟩
    · skip
      refine zG_run bkLoo_longestLength_14 (lv' := [(0, .ref 313), (1, .int lo), (2, .int le), (3, .int i)]) (st' := [.int i, .ref 313]) (h' := zN sg) (Ps := []) rfl trivial ?_
      refine zG_callv (a := 313) (c := 3) (As := [.int i]) (rest := []) (N2 := 411) bdLoo_longestLength_16 okLoo_beginsRun lk3_84 (And.intro (by decide) (by decide)) (by decide) rfl rfl rfl (Nat.le_of_ble_eq_true rfl) (Nat.le_of_ble_eq_true rfl) (Nat.le_refl 411) (Nat.le_refl 411) zob_313 (cLoo_beginsRun_313 (by grind) (by grind)) ?_
      rintro rr h' ⟨rfl, rfl⟩ -
      refine zb_ifeq (tgt := 26) bkLoo_longestLength_19 bdLoo_longestLength_19 (by decide) (lv' := [(0, .ref 313), (1, .int lo), (2, .int le), (3, .int i)]) (st' := []) (h' := zN sg) (x := bg (sg 314) i) (Ps := []) rfl trivial (fun c2 => ?_) (fun c2 => ?_)
      · skip
        refine zG_run bkLoo_longestLength_26 (lv' := [(2, .int (le + 1)), (0, .ref 313), (1, .int lo), (3, .int i)]) (st' := [.int (le + 1), .int lo]) (h' := zN sg) (Ps := []) rfl trivial ?_
        refine zG_calls (As := [.int lo, .int (le + 1)]) (rest := []) (N2 := 411) bdLoo_longestLength_32 okMa_max lk3_63 (And.intro (by decide) (by decide)) rfl rfl (Nat.le_of_ble_eq_true rfl) (Nat.le_of_ble_eq_true rfl) (Nat.le_refl 411) (Nat.le_refl 411) cMa_max ?_
        rintro rr h' ⟨rfl, rfl⟩ -
        refine zG_run bkLoo_longestLength_35 (lv' := [(3, .int (i + 1)), (1, .int (fMax lo (le + 1))), (2, .int (le + 1)), (0, .ref 313)]) (st' := []) (h' := zN sg) (Ps := []) rfl trivial ?_
        refine zG_pick (lv' := [(0, .ref 313), (1, .int (fMax lo (le + 1))), (2, .int (le + 1)), (3, .int (i + 1))]) [3, 1, 2, 0] rfl ?_
        refine ih (fMax lo (le + 1)) (le + 1) (i + 1) ?_ ?_
        · refine ⟨?_, ?_, ?_⟩
          · grind
          · grind
          · rw [zit_s _ _ h0 (by grind : i < sg 313 1), ← h2]; simp [rL, *]
        · exact zmu_up (by grind)
      · skip
        refine zG_run bkLoo_longestLength_22 (lv' := [(2, .int 1), (0, .ref 313), (1, .int lo), (3, .int i)]) (st' := [.int 1, .int lo]) (h' := zN sg) (Ps := []) rfl trivial ?_
        refine zG_calls (As := [.int lo, .int 1]) (rest := []) (N2 := 411) bdLoo_longestLength_32 okMa_max lk3_63 (And.intro (by decide) (by decide)) rfl rfl (Nat.le_of_ble_eq_true rfl) (Nat.le_of_ble_eq_true rfl) (Nat.le_refl 411) (Nat.le_refl 411) cMa_max ?_
        rintro rr h' ⟨rfl, rfl⟩ -
        refine zG_run bkLoo_longestLength_35 (lv' := [(3, .int (i + 1)), (1, .int (fMax lo 1)), (2, .int 1), (0, .ref 313)]) (st' := []) (h' := zN sg) (Ps := []) rfl trivial ?_
        refine zG_pick (lv' := [(0, .ref 313), (1, .int (fMax lo 1)), (2, .int 1), (3, .int (i + 1))]) [3, 1, 2, 0] rfl ?_
        refine ih (fMax lo 1) 1 (i + 1) ?_ ?_
        · refine ⟨?_, ?_, ?_⟩
          · grind
          · grind
          · rw [zit_s _ _ h0 (by grind : i < sg 313 1), ← h2]; simp [rL, *]
        · exact zmu_up (by grind)
  · refine ⟨?_, ?_, ?_⟩
    · grind
    · grind
    · rfl
theorem cLoo_longestLength_313 {sg : zSig}  (hn0 : 0 ≤ sg 313 1) (hn : sg 313 1 ≤ 200) : zG mLoo_longestLength 411 (fun rr h' => rr = some (.int (zit (rL (sg 314)) (0, 0) (sg 313 1)).1) ∧ h' = zN sg) 0 [(0, .ref 313)] [] (zN sg) := lLoo_longestLength_313 hn0 hn (fun _ _ q => q)
theorem bkLoo_standsAhead_0 : zBk mLoo_standsAhead 0 [(0, 0, 0, 0, 0), (2, 3, 0, 0, 0)] = some 2 := by decide +kernel
theorem bkLoo_standsAhead_2 : zBk mLoo_standsAhead 2 [(1, 3, 0, 0, 0), (1, 2, 0, 0, 0)] = some 4 := by decide +kernel
theorem bkLoo_standsAhead_25 : zBk mLoo_standsAhead 25 [(0, 0, 0, 0, 0)] = some 26 := by decide +kernel
theorem bkLoo_standsAhead_7 : zBk mLoo_standsAhead 7 [(1, 0, 1, 0, 0), (5, 3, 0, 1, 0), (1, 3, 0, 0, 0), (7, 0, 0, 0, 0), (1, 1, 0, 0, 0)] = some 14 := by decide +kernel
theorem bkLoo_standsAhead_19 : zBk mLoo_standsAhead 19 [(3, 3, 0, 0, 1), (22, 2, 0, 0, 0)] = some 2 := by decide +kernel
theorem bkLoo_standsAhead_17 : zBk mLoo_standsAhead 17 [(0, 0, 0, 0, 1)] = some 18 := by decide +kernel
theorem bdLoo_standsAhead_4 : decode mLoo_standsAhead.2.2.1 4 = .ok (.if_icmp .ge 21, 3) := by decide +kernel
theorem bdLoo_standsAhead_14 : decode mLoo_standsAhead.2.2.1 14 = .ok (.if_icmp .ne 5, 3) := by decide +kernel
theorem bdLoo_standsAhead_18 : decode mLoo_standsAhead.2.2.1 18 = .ok (.ireturn, 1) := by decide +kernel
theorem bdLoo_standsAhead_26 : decode mLoo_standsAhead.2.2.1 26 = .ok (.ireturn, 1) := by decide +kernel
theorem lLoo_standsAhead_313 {sg : zSig} {y q : Int32} (hq0 : 0 ≤ q) (hq1 : q ≤ 200) {Q : Option Value → zHp → Prop} (hq : ∀ rr h', (∃ v, rr = some (.int v) ∧ h' = zN sg ∧ ((v = 1 ∧ ∃ j, 0 ≤ j ∧ j < q ∧ sg 314 j = y) ∨ (v = 0 ∧ ∀ j, 0 ≤ j → j < q → sg 314 j ≠ y))) → Q rr h') : zG mLoo_standsAhead 411 Q 0 [(0, .ref 313), (1, .int y), (2, .int q)] [] (zN sg) := by
  refine zG_run bkLoo_standsAhead_0 (lv' := [(3, .int 0), (0, .ref 313), (1, .int y), (2, .int q)]) (st' := []) (h' := zN sg) (Ps := []) rfl trivial ?_
  refine zG_pick (lv' := [(0, .ref 313), (1, .int y), (2, .int q), (3, .int 0)]) [1, 2, 3, 0] rfl ?_
  refine zlp1 (fun (i : Int32) => zG mLoo_standsAhead 411 Q 2 [(0, .ref 313), (1, .int y), (2, .int q), (3, .int i)] [] (zN sg)) (fun (i : Int32) => (0 ≤ i) ∧ (i ≤ q) ∧ (∀ j, 0 ≤ j → j < i → sg 314 j ≠ y)) (fun (i : Int32) => zmu q i) ?_ 0 ?_
  · intro i hI ih
    obtain ⟨h0, h1, h2⟩ := hI
    refine zb_icge (tgt := 25) bkLoo_standsAhead_2 bdLoo_standsAhead_4 (by decide) (lv' := [(0, .ref 313), (1, .int y), (2, .int q), (3, .int i)]) (st' := []) (h' := zN sg) (x := i) (y := q) (Ps := []) rfl trivial (fun c1 => ?_) (fun c1 => ?_)
    · skip
      refine zb_zret bkLoo_standsAhead_25 bdLoo_standsAhead_26 rfl (x := 0) (h' := zN sg) (Ps := []) rfl trivial rfl (Or.inl rfl) ?_
      refine hq _ _ ?_
      exact ⟨_, rfl, rfl, Or.inr ⟨rfl, fun j h5 h6 => h2 j h5 (by grind)⟩⟩
    · skip
      refine zb_icne (tgt := 19) bkLoo_standsAhead_7 bdLoo_standsAhead_14 (by decide) (lv' := [(0, .ref 313), (1, .int y), (2, .int q), (3, .int i)]) (st' := []) (h' := zN sg) (x := sg 314 i) (y := y) (Ps := [zOb (zN sg) 313 3 ∧ (zN sg).2.2 313 0 = true, zInL (zN sg) 314 i]) rfl (zA ⟨zob_313, rfl⟩ (zA (zinL_314 (i := i) (by grind) (by grind)) trivial)) (fun c2 => ?_) (fun c2 => ?_)
      · skip
        refine zG_run bkLoo_standsAhead_19 (lv' := [(3, .int (i + 1)), (0, .ref 313), (1, .int y), (2, .int q)]) (st' := []) (h' := zN sg) (Ps := []) rfl trivial ?_
        refine zG_pick (lv' := [(0, .ref 313), (1, .int y), (2, .int q), (3, .int (i + 1))]) [1, 2, 3, 0] rfl ?_
        refine ih (i + 1) ?_ ?_
        · refine ⟨?_, ?_, ?_⟩
          · grind
          · grind
          · intro j hj0 hj1; by_cases hj : j = i; · subst hj; grind
            exact h2 j hj0 (by grind)
        · exact zmu_up (by grind)
      · skip
        refine zb_zret bkLoo_standsAhead_17 bdLoo_standsAhead_18 rfl (x := 1) (h' := zN sg) (Ps := []) rfl trivial rfl (Or.inr rfl) ?_
        refine hq _ _ ?_
        exact ⟨_, rfl, rfl, Or.inl ⟨rfl, i, h0, by grind, by grind⟩⟩
  · refine ⟨?_, ?_, ?_⟩
    · grind
    · grind
    · grind
theorem cLoo_standsAhead_313 {sg : zSig} {y q : Int32} (hq0 : 0 ≤ q) (hq1 : q ≤ 200) : zG mLoo_standsAhead 411 (fun rr h' => ∃ v, rr = some (.int v) ∧ h' = zN sg ∧ ((v = 1 ∧ ∃ j, 0 ≤ j ∧ j < q ∧ sg 314 j = y) ∨ (v = 0 ∧ ∀ j, 0 ≤ j → j < q → sg 314 j ≠ y))) 0 [(0, .ref 313), (1, .int y), (2, .int q)] [] (zN sg) := lLoo_standsAhead_313 hq0 hq1 (fun _ _ q => q)
theorem cLoo_beginsRun_315 {sg : zSig} {i : Int32} (h0 : 0 ≤ i) (h1 : i < 200) : zG mLoo_beginsRun 411 (fun rr h' => rr = some (.int (bg (sg 316) i)) ∧ h' = zN sg) 0 [(0, .ref 315), (1, .int i)] [] (zN sg) := by
  refine zb_ifeq (tgt := 21) bkLoo_beginsRun_0 bdLoo_beginsRun_1 (by decide) (lv' := [(0, .ref 315), (1, .int i)]) (st' := []) (h' := zN sg) (x := i) (Ps := []) rfl trivial (fun c1 => ?_) (fun c1 => ?_)
  · skip
    refine zb_zret bkLoo_beginsRun_21 bdLoo_beginsRun_26 rfl (x := 1) (h' := zN sg) (Ps := []) rfl trivial rfl (Or.inr rfl) ?_
    exact ⟨by grind [bg], rfl⟩
  · skip
    refine zb_iceq (tgt := 25) bkLoo_beginsRun_4 bdLoo_beginsRun_18 (by decide) (lv' := [(0, .ref 315), (1, .int i)]) (st' := []) (h' := zN sg) (x := sg 316 i) (y := sg 316 (i - 1)) (Ps := [zOb (zN sg) 315 3 ∧ (zN sg).2.2 315 0 = true, zInL (zN sg) 316 i, zOb (zN sg) 315 3 ∧ (zN sg).2.2 315 0 = true, zInL (zN sg) 316 (i - 1)]) rfl (zA ⟨zob_315, rfl⟩ (zA (zinL_316 (i := i) (by grind) (by grind)) (zA ⟨zob_315, rfl⟩ (zA (zinL_316 (i := i - 1) (by grind) (by grind)) trivial)))) (fun c2 => ?_) (fun c2 => ?_)
    · skip
      refine zb_zret bkLoo_beginsRun_25 bdLoo_beginsRun_26 rfl (x := 0) (h' := zN sg) (Ps := []) rfl trivial rfl (Or.inl rfl) ?_
      exact ⟨by grind [bg], rfl⟩
    · skip
      refine zb_zret bkLoo_beginsRun_21 bdLoo_beginsRun_26 rfl (x := 1) (h' := zN sg) (Ps := []) rfl trivial rfl (Or.inr rfl) ?_
      exact ⟨by grind [bg], rfl⟩
theorem lLoo_howManyRuns_315 {sg : zSig}  (hn0 : 0 ≤ sg 315 1) (hn : sg 315 1 ≤ 200) {Q : Option Value → zHp → Prop} (hq : ∀ rr h', (rr = some (.int (zit (rN (sg 316)) 0 (sg 315 1))) ∧ h' = zN sg) → Q rr h') : zG mLoo_howManyRuns 411 Q 0 [(0, .ref 315)] [] (zN sg) := by
  refine zG_run bkLoo_howManyRuns_0 (lv' := [(2, .int 0), (1, .int 0), (0, .ref 315)]) (st' := []) (h' := zN sg) (Ps := []) rfl trivial ?_
  refine zG_pick (lv' := [(0, .ref 315), (1, .int 0), (2, .int 0)]) [2, 1, 0] rfl ?_
  refine zlp2 (fun (n : Int32) (i : Int32) => zG mLoo_howManyRuns 411 Q 4 [(0, .ref 315), (1, .int n), (2, .int i)] [] (zN sg)) (fun (n : Int32) (i : Int32) => (0 ≤ i) ∧ (i ≤ sg 315 1) ∧ (n = zit (rN (sg 316)) 0 i)) (fun (n : Int32) (i : Int32) => zmu (sg 315 1) i) ?_ 0 0 ?_
  · intro n i hI ih
    obtain ⟨h0, h1, h2⟩ := hI
    refine zb_icge (tgt := 29) bkLoo_howManyRuns_4 bdLoo_howManyRuns_9 (by decide) (lv' := [(0, .ref 315), (1, .int n), (2, .int i)]) (st' := []) (h' := zN sg) (x := i) (y := sg 315 1) (Ps := [zOb (zN sg) 315 3]) rfl (zA zob_315 trivial) (fun c1 => ?_) (fun c1 => ?_)
    · skip
      refine zb_iret bkLoo_howManyRuns_29 bdLoo_howManyRuns_30 rfl (x := n) (h' := zN sg) (Ps := []) rfl trivial rfl ?_
      refine hq _ _ ?_
      exact ⟨by grind, rfl⟩
    · skip
      refine zG_run bkLoo_howManyRuns_12 (lv' := [(0, .ref 315), (1, .int n), (2, .int i)]) (st' := [.int i, .ref 315]) (h' := zN sg) (Ps := []) rfl trivial ?_
      refine zG_callv (a := 315) (c := 3) (As := [.int i]) (rest := []) (N2 := 411) bdLoo_howManyRuns_14 okLoo_beginsRun lk3_84 (And.intro (by decide) (by decide)) (by decide) rfl rfl rfl (Nat.le_of_ble_eq_true rfl) (Nat.le_of_ble_eq_true rfl) (Nat.le_refl 411) (Nat.le_refl 411) zob_315 (cLoo_beginsRun_315 (by grind) (by grind)) ?_
      rintro rr h' ⟨rfl, rfl⟩ -
      refine zb_ifeq (tgt := 23) bkLoo_howManyRuns_17 bdLoo_howManyRuns_17 (by decide) (lv' := [(0, .ref 315), (1, .int n), (2, .int i)]) (st' := []) (h' := zN sg) (x := bg (sg 316) i) (Ps := []) rfl trivial (fun c2 => ?_) (fun c2 => ?_)
      · skip
        refine zG_run bkLoo_howManyRuns_23 (lv' := [(2, .int (i + 1)), (0, .ref 315), (1, .int n)]) (st' := []) (h' := zN sg) (Ps := []) rfl trivial ?_
        refine zG_pick (lv' := [(0, .ref 315), (1, .int n), (2, .int (i + 1))]) [1, 2, 0] rfl ?_
        refine ih n (i + 1) ?_ ?_
        · refine ⟨?_, ?_, ?_⟩
          · grind
          · grind
          · rw [zit_s _ _ h0 (by grind : i < sg 315 1)]; grind [rN]
        · exact zmu_up (by grind)
      · skip
        refine zG_run bkLoo_howManyRuns_20 (lv' := [(2, .int (i + 1)), (1, .int (n + 1)), (0, .ref 315)]) (st' := []) (h' := zN sg) (Ps := []) rfl trivial ?_
        refine zG_pick (lv' := [(0, .ref 315), (1, .int (n + 1)), (2, .int (i + 1))]) [2, 1, 0] rfl ?_
        refine ih (n + 1) (i + 1) ?_ ?_
        · refine ⟨?_, ?_, ?_⟩
          · grind
          · grind
          · rw [zit_s _ _ h0 (by grind : i < sg 315 1)]; grind [rN]
        · exact zmu_up (by grind)
  · refine ⟨?_, ?_, ?_⟩
    · grind
    · grind
    · rfl
theorem cLoo_howManyRuns_315 {sg : zSig}  (hn0 : 0 ≤ sg 315 1) (hn : sg 315 1 ≤ 200) : zG mLoo_howManyRuns 411 (fun rr h' => rr = some (.int (zit (rN (sg 316)) 0 (sg 315 1))) ∧ h' = zN sg) 0 [(0, .ref 315)] [] (zN sg) := lLoo_howManyRuns_315 hn0 hn (fun _ _ q => q)
theorem lLoo_firstOfRun_315 {sg : zSig} {q : Int32} (hn0 : 0 ≤ sg 315 1) (hn : sg 315 1 ≤ 200) {Q : Option Value → zHp → Prop} (hq : ∀ rr h', (∃ v, rr = some (.int v) ∧ h' = zN sg ∧ ((0 ≤ v ∧ v < sg 315 1 ∧ bg (sg 316) v ≠ 0 ∧ zit (rN (sg 316)) 0 v = q) ∨ (v = -1 ∧ ∀ j, 0 ≤ j → j < sg 315 1 → bg (sg 316) j = 0 ∨ zit (rN (sg 316)) 0 j ≠ q))) → Q rr h') : zG mLoo_firstOfRun 411 Q 0 [(0, .ref 315), (1, .int q)] [] (zN sg) := by
  refine zG_run bkLoo_firstOfRun_0 (lv' := [(3, .int 0), (2, .int 0), (0, .ref 315), (1, .int q)]) (st' := []) (h' := zN sg) (Ps := []) rfl trivial ?_
  refine zG_pick (lv' := [(0, .ref 315), (1, .int q), (2, .int 0), (3, .int 0)]) [2, 3, 1, 0] rfl ?_
  refine zlp2 (fun (n : Int32) (i : Int32) => zG mLoo_firstOfRun 411 Q 4 [(0, .ref 315), (1, .int q), (2, .int n), (3, .int i)] [] (zN sg)) (fun (n : Int32) (i : Int32) => (0 ≤ i) ∧ (i ≤ sg 315 1) ∧ (n = zit (rN (sg 316)) 0 i) ∧ (∀ j, 0 ≤ j → j < i → bg (sg 316) j = 0 ∨ zit (rN (sg 316)) 0 j ≠ q)) (fun (n : Int32) (i : Int32) => zmu (sg 315 1) i) ?_ 0 0 ?_
  · intro n i hI ih
    obtain ⟨h0, h1, h2, h3⟩ := hI
    refine zb_icge (tgt := 36) bkLoo_firstOfRun_4 bdLoo_firstOfRun_9 (by decide) (lv' := [(0, .ref 315), (1, .int q), (2, .int n), (3, .int i)]) (st' := []) (h' := zN sg) (x := i) (y := sg 315 1) (Ps := [zOb (zN sg) 315 3]) rfl (zA zob_315 trivial) (fun c1 => ?_) (fun c1 => ?_)
    · skip
      refine zb_iret bkLoo_firstOfRun_36 bdLoo_firstOfRun_37 rfl (x := (-1)) (h' := zN sg) (Ps := []) rfl trivial rfl ?_
      refine hq _ _ ?_
      exact ⟨_, rfl, rfl, Or.inr ⟨rfl, fun j h5 h6 => h3 j h5 (by grind)⟩⟩
    · skip
      refine zG_run bkLoo_firstOfRun_12 (lv' := [(0, .ref 315), (1, .int q), (2, .int n), (3, .int i)]) (st' := [.int i, .ref 315]) (h' := zN sg) (Ps := []) rfl trivial ?_
      refine zG_callv (a := 315) (c := 3) (As := [.int i]) (rest := []) (N2 := 411) bdLoo_firstOfRun_14 okLoo_beginsRun lk3_84 (And.intro (by decide) (by decide)) (by decide) rfl rfl rfl (Nat.le_of_ble_eq_true rfl) (Nat.le_of_ble_eq_true rfl) (Nat.le_refl 411) (Nat.le_refl 411) zob_315 (cLoo_beginsRun_315 (by grind) (by grind)) ?_
      rintro rr h' ⟨rfl, rfl⟩ -
      refine zb_ifeq (tgt := 30) bkLoo_firstOfRun_17 bdLoo_firstOfRun_17 (by decide) (lv' := [(0, .ref 315), (1, .int q), (2, .int n), (3, .int i)]) (st' := []) (h' := zN sg) (x := bg (sg 316) i) (Ps := []) rfl trivial (fun c2 => ?_) (fun c2 => ?_)
      · skip
        refine zG_run bkLoo_firstOfRun_30 (lv' := [(3, .int (i + 1)), (0, .ref 315), (1, .int q), (2, .int n)]) (st' := []) (h' := zN sg) (Ps := []) rfl trivial ?_
        refine zG_pick (lv' := [(0, .ref 315), (1, .int q), (2, .int n), (3, .int (i + 1))]) [1, 2, 3, 0] rfl ?_
        refine ih n (i + 1) ?_ ?_
        · refine ⟨?_, ?_, ?_, ?_⟩
          · grind
          · grind
          · rw [zit_s _ _ h0 (by grind : i < sg 315 1)]; grind [rN]
          · intro j hj0 hj1; by_cases hj : j = i; · subst hj; grind
            exact h3 j hj0 (by grind)
        · exact zmu_up (by grind)
      · skip
        refine zb_icne (tgt := 27) bkLoo_firstOfRun_20 bdLoo_firstOfRun_22 (by decide) (lv' := [(0, .ref 315), (1, .int q), (2, .int n), (3, .int i)]) (st' := []) (h' := zN sg) (x := n) (y := q) (Ps := []) rfl trivial (fun c3 => ?_) (fun c3 => ?_)
        · skip
          refine zG_run bkLoo_firstOfRun_27 (lv' := [(3, .int (i + 1)), (2, .int (n + 1)), (0, .ref 315), (1, .int q)]) (st' := []) (h' := zN sg) (Ps := []) rfl trivial ?_
          refine zG_pick (lv' := [(0, .ref 315), (1, .int q), (2, .int (n + 1)), (3, .int (i + 1))]) [2, 3, 1, 0] rfl ?_
          refine ih (n + 1) (i + 1) ?_ ?_
          · refine ⟨?_, ?_, ?_, ?_⟩
            · grind
            · grind
            · rw [zit_s _ _ h0 (by grind : i < sg 315 1)]; grind [rN]
            · intro j hj0 hj1; by_cases hj : j = i; · subst hj; grind
              exact h3 j hj0 (by grind)
          · exact zmu_up (by grind)
        · skip
          refine zb_iret bkLoo_firstOfRun_25 bdLoo_firstOfRun_26 rfl (x := i) (h' := zN sg) (Ps := []) rfl trivial rfl ?_
          refine hq _ _ ?_
          exact ⟨_, rfl, rfl, Or.inl ⟨h0, by grind, by grind, by grind⟩⟩
  · refine ⟨?_, ?_, ?_, ?_⟩
    · grind
    · grind
    · rfl
    · grind
theorem cLoo_firstOfRun_315 {sg : zSig} {q : Int32} (hn0 : 0 ≤ sg 315 1) (hn : sg 315 1 ≤ 200) : zG mLoo_firstOfRun 411 (fun rr h' => ∃ v, rr = some (.int v) ∧ h' = zN sg ∧ ((0 ≤ v ∧ v < sg 315 1 ∧ bg (sg 316) v ≠ 0 ∧ zit (rN (sg 316)) 0 v = q) ∨ (v = -1 ∧ ∀ j, 0 ≤ j → j < sg 315 1 → bg (sg 316) j = 0 ∨ zit (rN (sg 316)) 0 j ≠ q))) 0 [(0, .ref 315), (1, .int q)] [] (zN sg) := lLoo_firstOfRun_315 hn0 hn (fun _ _ q => q)
theorem lLoo_endOfRun_315 {sg : zSig} {f : Int32} (hn0 : 0 ≤ sg 315 1) (hn : sg 315 1 ≤ 200) (hf0 : 0 ≤ f) (hf : f < sg 315 1) {Q : Option Value → zHp → Prop} (hq : ∀ rr h', (∃ v, rr = some (.int v) ∧ h' = zN sg ∧ f < v ∧ v ≤ sg 315 1 ∧ (∀ j, f < j → j < v → bg (sg 316) j = 0) ∧ (v = sg 315 1 ∨ bg (sg 316) v ≠ 0)) → Q rr h') : zG mLoo_endOfRun 411 Q 0 [(0, .ref 315), (1, .int f)] [] (zN sg) := by
  refine zG_run bkLoo_endOfRun_0 (lv' := [(2, .int (f + 1)), (0, .ref 315), (1, .int f)]) (st' := []) (h' := zN sg) (Ps := []) rfl trivial ?_
  refine zG_pick (lv' := [(0, .ref 315), (1, .int f), (2, .int (f + 1))]) [1, 2, 0] rfl ?_
  refine zlp1 (fun (i : Int32) => zG mLoo_endOfRun 411 Q 4 [(0, .ref 315), (1, .int f), (2, .int i)] [] (zN sg)) (fun (i : Int32) => (f < i) ∧ (i ≤ sg 315 1) ∧ (∀ j, f < j → j < i → bg (sg 316) j = 0)) (fun (i : Int32) => zmu (sg 315 1) i) ?_ (f + 1) ?_
  · intro i hI ih
    obtain ⟨h0, h1, h2⟩ := hI
    refine zb_icge (tgt := 26) bkLoo_endOfRun_4 bdLoo_endOfRun_9 (by decide) (lv' := [(0, .ref 315), (1, .int f), (2, .int i)]) (st' := []) (h' := zN sg) (x := i) (y := sg 315 1) (Ps := [zOb (zN sg) 315 3]) rfl (zA zob_315 trivial) (fun c1 => ?_) (fun c1 => ?_)
    · skip
      refine zb_iret bkLoo_endOfRun_26 bdLoo_endOfRun_27 rfl (x := i) (h' := zN sg) (Ps := []) rfl trivial rfl ?_
      refine hq _ _ ?_
      exact ⟨_, rfl, rfl, h0, h1, h2, by grind⟩
    · skip
      refine zG_run bkLoo_endOfRun_12 (lv' := [(0, .ref 315), (1, .int f), (2, .int i)]) (st' := [.int i, .ref 315]) (h' := zN sg) (Ps := []) rfl trivial ?_
      refine zG_callv (a := 315) (c := 3) (As := [.int i]) (rest := []) (N2 := 411) bdLoo_endOfRun_14 okLoo_beginsRun lk3_84 (And.intro (by decide) (by decide)) (by decide) rfl rfl rfl (Nat.le_of_ble_eq_true rfl) (Nat.le_of_ble_eq_true rfl) (Nat.le_refl 411) (Nat.le_refl 411) zob_315 (cLoo_beginsRun_315 (by grind) (by grind)) ?_
      rintro rr h' ⟨rfl, rfl⟩ -
      refine zb_ifne (tgt := 26) bkLoo_endOfRun_17 bdLoo_endOfRun_17 (by decide) (lv' := [(0, .ref 315), (1, .int f), (2, .int i)]) (st' := []) (h' := zN sg) (x := bg (sg 316) i) (Ps := []) rfl trivial (fun c2 => ?_) (fun c2 => ?_)
      · skip
        refine zb_iret bkLoo_endOfRun_26 bdLoo_endOfRun_27 rfl (x := i) (h' := zN sg) (Ps := []) rfl trivial rfl ?_
        refine hq _ _ ?_
        exact ⟨_, rfl, rfl, h0, h1, h2, by grind⟩
      · skip
        refine zG_run bkLoo_endOfRun_20 (lv' := [(2, .int (i + 1)), (0, .ref 315), (1, .int f)]) (st' := []) (h' := zN sg) (Ps := []) rfl trivial ?_
        refine zG_pick (lv' := [(0, .ref 315), (1, .int f), (2, .int (i + 1))]) [1, 2, 0] rfl ?_
        refine ih (i + 1) ?_ ?_
        · refine ⟨?_, ?_, ?_⟩
          · grind
          · grind
          · intro j hj0 hj1; by_cases hj : j = i; · subst hj; grind
            exact h2 j hj0 (by grind)
        · exact zmu_up (by grind)
  · refine ⟨?_, ?_, ?_⟩
    · grind
    · grind
    · grind
theorem cLoo_endOfRun_315 {sg : zSig} {f : Int32} (hn0 : 0 ≤ sg 315 1) (hn : sg 315 1 ≤ 200) (hf0 : 0 ≤ f) (hf : f < sg 315 1) : zG mLoo_endOfRun 411 (fun rr h' => ∃ v, rr = some (.int v) ∧ h' = zN sg ∧ f < v ∧ v ≤ sg 315 1 ∧ (∀ j, f < j → j < v → bg (sg 316) j = 0) ∧ (v = sg 315 1 ∨ bg (sg 316) v ≠ 0)) 0 [(0, .ref 315), (1, .int f)] [] (zN sg) := lLoo_endOfRun_315 hn0 hn hf0 hf (fun _ _ q => q)
theorem lLoo_longestLength_315 {sg : zSig}  (hn0 : 0 ≤ sg 315 1) (hn : sg 315 1 ≤ 200) {Q : Option Value → zHp → Prop} (hq : ∀ rr h', (rr = some (.int (zit (rL (sg 316)) (0, 0) (sg 315 1)).1) ∧ h' = zN sg) → Q rr h') : zG mLoo_longestLength 411 Q 0 [(0, .ref 315)] [] (zN sg) := by
  refine zG_run bkLoo_longestLength_0 (lv' := [(3, .int 0), (2, .int 0), (1, .int 0), (0, .ref 315)]) (st' := []) (h' := zN sg) (Ps := []) rfl trivial ?_
  refine zG_pick (lv' := [(0, .ref 315), (1, .int 0), (2, .int 0), (3, .int 0)]) [3, 2, 1, 0] rfl ?_
  refine zlp3 (fun (lo : Int32) (le : Int32) (i : Int32) => zG mLoo_longestLength 411 Q 6 [(0, .ref 315), (1, .int lo), (2, .int le), (3, .int i)] [] (zN sg)) (fun (lo : Int32) (le : Int32) (i : Int32) => (0 ≤ i) ∧ (i ≤ sg 315 1) ∧ ((lo, le) = zit (rL (sg 316)) (0, 0) i)) (fun (lo : Int32) (le : Int32) (i : Int32) => zmu (sg 315 1) i) ?_ 0 0 0 ?_
  · intro lo le i hI ih
    obtain ⟨h0, h1, h2⟩ := hI
    refine zb_icge (tgt := 42) bkLoo_longestLength_6 bdLoo_longestLength_11 (by decide) (lv' := [(0, .ref 315), (1, .int lo), (2, .int le), (3, .int i)]) (st' := []) (h' := zN sg) (x := i) (y := sg 315 1) (Ps := [zOb (zN sg) 315 3]) rfl (zA zob_315 trivial) (fun c1 => ?_) (fun c1 => ?_)
    · skip
      refine zb_iret bkLoo_longestLength_42 bdLoo_longestLength_43 rfl (x := lo) (h' := zN sg) (Ps := []) rfl trivial rfl ?_
      refine hq _ _ ?_
      have e : i = sg 315 1 := by grind
      rw [← e, ← h2]; exact ⟨rfl, rfl⟩
    · skip
      refine zG_run bkLoo_longestLength_14 (lv' := [(0, .ref 315), (1, .int lo), (2, .int le), (3, .int i)]) (st' := [.int i, .ref 315]) (h' := zN sg) (Ps := []) rfl trivial ?_
      refine zG_callv (a := 315) (c := 3) (As := [.int i]) (rest := []) (N2 := 411) bdLoo_longestLength_16 okLoo_beginsRun lk3_84 (And.intro (by decide) (by decide)) (by decide) rfl rfl rfl (Nat.le_of_ble_eq_true rfl) (Nat.le_of_ble_eq_true rfl) (Nat.le_refl 411) (Nat.le_refl 411) zob_315 (cLoo_beginsRun_315 (by grind) (by grind)) ?_
      rintro rr h' ⟨rfl, rfl⟩ -
      refine zb_ifeq (tgt := 26) bkLoo_longestLength_19 bdLoo_longestLength_19 (by decide) (lv' := [(0, .ref 315), (1, .int lo), (2, .int le), (3, .int i)]) (st' := []) (h' := zN sg) (x := bg (sg 316) i) (Ps := []) rfl trivial (fun c2 => ?_) (fun c2 => ?_)
      · skip
        refine zG_run bkLoo_longestLength_26 (lv' := [(2, .int (le + 1)), (0, .ref 315), (1, .int lo), (3, .int i)]) (st' := [.int (le + 1), .int lo]) (h' := zN sg) (Ps := []) rfl trivial ?_
        refine zG_calls (As := [.int lo, .int (le + 1)]) (rest := []) (N2 := 411) bdLoo_longestLength_32 okMa_max lk3_63 (And.intro (by decide) (by decide)) rfl rfl (Nat.le_of_ble_eq_true rfl) (Nat.le_of_ble_eq_true rfl) (Nat.le_refl 411) (Nat.le_refl 411) cMa_max ?_
        rintro rr h' ⟨rfl, rfl⟩ -
        refine zG_run bkLoo_longestLength_35 (lv' := [(3, .int (i + 1)), (1, .int (fMax lo (le + 1))), (2, .int (le + 1)), (0, .ref 315)]) (st' := []) (h' := zN sg) (Ps := []) rfl trivial ?_
        refine zG_pick (lv' := [(0, .ref 315), (1, .int (fMax lo (le + 1))), (2, .int (le + 1)), (3, .int (i + 1))]) [3, 1, 2, 0] rfl ?_
        refine ih (fMax lo (le + 1)) (le + 1) (i + 1) ?_ ?_
        · refine ⟨?_, ?_, ?_⟩
          · grind
          · grind
          · rw [zit_s _ _ h0 (by grind : i < sg 315 1), ← h2]; simp [rL, *]
        · exact zmu_up (by grind)
      · skip
        refine zG_run bkLoo_longestLength_22 (lv' := [(2, .int 1), (0, .ref 315), (1, .int lo), (3, .int i)]) (st' := [.int 1, .int lo]) (h' := zN sg) (Ps := []) rfl trivial ?_
        refine zG_calls (As := [.int lo, .int 1]) (rest := []) (N2 := 411) bdLoo_longestLength_32 okMa_max lk3_63 (And.intro (by decide) (by decide)) rfl rfl (Nat.le_of_ble_eq_true rfl) (Nat.le_of_ble_eq_true rfl) (Nat.le_refl 411) (Nat.le_refl 411) cMa_max ?_
        rintro rr h' ⟨rfl, rfl⟩ -
        refine zG_run bkLoo_longestLength_35 (lv' := [(3, .int (i + 1)), (1, .int (fMax lo 1)), (2, .int 1), (0, .ref 315)]) (st' := []) (h' := zN sg) (Ps := []) rfl trivial ?_
        refine zG_pick (lv' := [(0, .ref 315), (1, .int (fMax lo 1)), (2, .int 1), (3, .int (i + 1))]) [3, 1, 2, 0] rfl ?_
        refine ih (fMax lo 1) 1 (i + 1) ?_ ?_
        · refine ⟨?_, ?_, ?_⟩
          · grind
          · grind
          · rw [zit_s _ _ h0 (by grind : i < sg 315 1), ← h2]; simp [rL, *]
        · exact zmu_up (by grind)
  · refine ⟨?_, ?_, ?_⟩
    · grind
    · grind
    · rfl
theorem cLoo_longestLength_315 {sg : zSig}  (hn0 : 0 ≤ sg 315 1) (hn : sg 315 1 ≤ 200) : zG mLoo_longestLength 411 (fun rr h' => rr = some (.int (zit (rL (sg 316)) (0, 0) (sg 315 1)).1) ∧ h' = zN sg) 0 [(0, .ref 315)] [] (zN sg) := lLoo_longestLength_315 hn0 hn (fun _ _ q => q)
theorem lLoo_standsAhead_315 {sg : zSig} {y q : Int32} (hq0 : 0 ≤ q) (hq1 : q ≤ 200) {Q : Option Value → zHp → Prop} (hq : ∀ rr h', (∃ v, rr = some (.int v) ∧ h' = zN sg ∧ ((v = 1 ∧ ∃ j, 0 ≤ j ∧ j < q ∧ sg 316 j = y) ∨ (v = 0 ∧ ∀ j, 0 ≤ j → j < q → sg 316 j ≠ y))) → Q rr h') : zG mLoo_standsAhead 411 Q 0 [(0, .ref 315), (1, .int y), (2, .int q)] [] (zN sg) := by
  refine zG_run bkLoo_standsAhead_0 (lv' := [(3, .int 0), (0, .ref 315), (1, .int y), (2, .int q)]) (st' := []) (h' := zN sg) (Ps := []) rfl trivial ?_
  refine zG_pick (lv' := [(0, .ref 315), (1, .int y), (2, .int q), (3, .int 0)]) [1, 2, 3, 0] rfl ?_
  refine zlp1 (fun (i : Int32) => zG mLoo_standsAhead 411 Q 2 [(0, .ref 315), (1, .int y), (2, .int q), (3, .int i)] [] (zN sg)) (fun (i : Int32) => (0 ≤ i) ∧ (i ≤ q) ∧ (∀ j, 0 ≤ j → j < i → sg 316 j ≠ y)) (fun (i : Int32) => zmu q i) ?_ 0 ?_
  · intro i hI ih
    obtain ⟨h0, h1, h2⟩ := hI
    refine zb_icge (tgt := 25) bkLoo_standsAhead_2 bdLoo_standsAhead_4 (by decide) (lv' := [(0, .ref 315), (1, .int y), (2, .int q), (3, .int i)]) (st' := []) (h' := zN sg) (x := i) (y := q) (Ps := []) rfl trivial (fun c1 => ?_) (fun c1 => ?_)
    · skip
      refine zb_zret bkLoo_standsAhead_25 bdLoo_standsAhead_26 rfl (x := 0) (h' := zN sg) (Ps := []) rfl trivial rfl (Or.inl rfl) ?_
      refine hq _ _ ?_
      exact ⟨_, rfl, rfl, Or.inr ⟨rfl, fun j h5 h6 => h2 j h5 (by grind)⟩⟩
    · skip
      refine zb_icne (tgt := 19) bkLoo_standsAhead_7 bdLoo_standsAhead_14 (by decide) (lv' := [(0, .ref 315), (1, .int y), (2, .int q), (3, .int i)]) (st' := []) (h' := zN sg) (x := sg 316 i) (y := y) (Ps := [zOb (zN sg) 315 3 ∧ (zN sg).2.2 315 0 = true, zInL (zN sg) 316 i]) rfl (zA ⟨zob_315, rfl⟩ (zA (zinL_316 (i := i) (by grind) (by grind)) trivial)) (fun c2 => ?_) (fun c2 => ?_)
      · skip
        refine zG_run bkLoo_standsAhead_19 (lv' := [(3, .int (i + 1)), (0, .ref 315), (1, .int y), (2, .int q)]) (st' := []) (h' := zN sg) (Ps := []) rfl trivial ?_
        refine zG_pick (lv' := [(0, .ref 315), (1, .int y), (2, .int q), (3, .int (i + 1))]) [1, 2, 3, 0] rfl ?_
        refine ih (i + 1) ?_ ?_
        · refine ⟨?_, ?_, ?_⟩
          · grind
          · grind
          · intro j hj0 hj1; by_cases hj : j = i; · subst hj; grind
            exact h2 j hj0 (by grind)
        · exact zmu_up (by grind)
      · skip
        refine zb_zret bkLoo_standsAhead_17 bdLoo_standsAhead_18 rfl (x := 1) (h' := zN sg) (Ps := []) rfl trivial rfl (Or.inr rfl) ?_
        refine hq _ _ ?_
        exact ⟨_, rfl, rfl, Or.inl ⟨rfl, i, h0, by grind, by grind⟩⟩
  · refine ⟨?_, ?_, ?_⟩
    · grind
    · grind
    · grind
theorem cLoo_standsAhead_315 {sg : zSig} {y q : Int32} (hq0 : 0 ≤ q) (hq1 : q ≤ 200) : zG mLoo_standsAhead 411 (fun rr h' => ∃ v, rr = some (.int v) ∧ h' = zN sg ∧ ((v = 1 ∧ ∃ j, 0 ≤ j ∧ j < q ∧ sg 316 j = y) ∨ (v = 0 ∧ ∀ j, 0 ≤ j → j < q → sg 316 j ≠ y))) 0 [(0, .ref 315), (1, .int y), (2, .int q)] [] (zN sg) := lLoo_standsAhead_315 hq0 hq1 (fun _ _ q => q)
end
section
/-! what letters look like: printed by wip/whole/p16.py -/
theorem zel4_rng {i : Int32} (h0 : 0 ≤ i) (h1 : i < 16) : 6 ≤ zel 4 i ∧ zel 4 i < 22 := by
  obtain ⟨j, hj, rfl, he⟩ := zel_4 h0 h1
  rw [he]; omega
theorem zel5_rng {i : Int32} (h0 : 0 ≤ i) (h1 : i < 12) : 22 ≤ zel 5 i ∧ zel 5 i < 34 := by
  obtain ⟨j, hj, rfl, he⟩ := zel_5 h0 h1
  rw [he]; omega
theorem zel4_inj {i j : Int32} (h0 : 0 ≤ i) (h1 : i < 16) (h2 : 0 ≤ j) (h3 : j < 16) (h : zel 4 i = zel 4 j) : i = j := by
  obtain ⟨a, ha, rfl, he⟩ := zel_4 h0 h1
  obtain ⟨b, hb, rfl, hf⟩ := zel_4 h2 h3
  rw [he, hf] at h
  have : a = b := by omega
  rw [this]
theorem zel5_inj {i j : Int32} (h0 : 0 ≤ i) (h1 : i < 12) (h2 : 0 ≤ j) (h3 : j < 12) (h : zel 5 i = zel 5 j) : i = j := by
  obtain ⟨a, ha, rfl, he⟩ := zel_5 h0 h1
  obtain ⟨b, hb, rfl, hf⟩ := zel_5 h2 h3
  rw [he, hf] at h
  have : a = b := by omega
  rw [this]
/-- one span over letter i, on a layer; but for one (wo), one (mv) being on another layer (mt) -/
def cS1 (sg : zSig) (wo mv mt i lay k a : Int32) : Int32 := if sg (zel 4 k) 0 ≠ 0 ∧ k ≠ wo ∧ (if k = mv then mt else sg (zel 4 k) 3) = lay ∧ sg (zel 4 k) 1 ≤ i ∧ i < sg (zel 4 k) 2 then fBr a (sg (zel 4 k) 4) (sg (zel 4 k) 5) (sg (zel 4 k) 6) (sg (zel 4 k) 7) else a
def cS2 (sg : zSig) (wo mv mt i lay a : Int32) : Int32 := zit (cS1 sg wo mv mt i lay) a (sg 1 4)
def cS (sg : zSig) (wo mv mt i : Int32) : Int32 := zit (cS2 sg wo mv mt i) (sg 3 i) 10
def seen (S : Int32 → Int32) (i : Int32) : Int32 := zit (fun j a => if S j = S i then 1 else a) 0 i
def uN (S : Int32 → Int32) (i a : Int32) : Int32 := if seen S i = 1 then a else a + 1
theorem zit_ex (p : Int32 → Prop) [DecidablePred p] {q : Int32} (hq : 0 ≤ q) : (zit (fun j a => if p j then 1 else a) (0 : Int32) q = 1 ∧ ∃ j, 0 ≤ j ∧ j < q ∧ p j) ∨ (zit (fun j a => if p j then 1 else a) (0 : Int32) q = 0 ∧ ∀ j, 0 ≤ j → j < q → ¬ p j) := by
  obtain ⟨n, hn, rfl⟩ := znn hq
  have key : ∀ m : Nat, m ≤ n → (zitN (fun j a => if p j then 1 else a) (0 : Int32) m = 1 ∧ ∃ j, 0 ≤ j ∧ j < nI m ∧ p j) ∨ (zitN (fun j a => if p j then 1 else a) (0 : Int32) m = 0 ∧ ∀ j, 0 ≤ j → j < nI m → ¬ p j) := by
    intro m
    induction m with
    | zero => intro _; right; exact ⟨rfl, fun j h1 h2 => by rw [nI_0] at h2; grind⟩
    | succ m ih =>
      intro hm
      have hlt : nI m < nI (m + 1) := nI_lt (by omega) (by omega)
      have hs : nI (m + 1) = nI m + 1 := (nI_1 m).symm
      have hp0 := nI_pos' (n := m) (by omega)
      show (((if p (nI m) then 1 else zitN (fun j a => if p j then 1 else a) (0 : Int32) m) : Int32) = 1 ∧ _) ∨ (((if p (nI m) then 1 else zitN (fun j a => if p j then 1 else a) (0 : Int32) m) : Int32) = 0 ∧ _)
      by_cases hp : p (nI m)
      · left; rw [if_pos hp]; exact ⟨rfl, nI m, hp0, hlt, hp⟩
      · rw [if_neg hp]
        rcases ih (by omega) with ⟨h1, j, h2, h3, h4⟩ | ⟨h1, h2⟩
        · left; exact ⟨h1, j, h2, by grind, h4⟩
        · right
          refine ⟨h1, fun j h3 h4 => ?_⟩
          by_cases hj : j = nI m
          · rw [hj]; exact hp
          · exact h2 j h3 (by grind)
  unfold zit
  rw [nI_clamp hn]
  exact key n (Nat.le_refl _)
theorem seen_or (S : Int32 → Int32) {i : Int32} (hi : 0 ≤ i) : (seen S i = 1 ∧ ∃ j, 0 ≤ j ∧ j < i ∧ S j = S i) ∨ (seen S i = 0 ∧ ∀ j, 0 ≤ j → j < i → ¬ S j = S i) := zit_ex (fun j => S j = S i) hi
theorem zcp_3_314 {sg : zSig} {sp dp n : Int32} (h1 : 0 ≤ sp) (h2 : 0 ≤ dp) (h3 : 0 ≤ n) (h4 : n ≤ 200) (h5 : n ≤ 200) (h6 : sp ≤ 200 - n) (h7 : dp ≤ 200 - n) : zCp (zN sg) 3 314 sp dp n := ⟨(by decide : 3 < 411), (by decide : 314 < 411), rfl, rfl, rfl, rfl, h1, h2, h3, h4, h5, h6, h7⟩
theorem zcp_3_316 {sg : zSig} {sp dp n : Int32} (h1 : 0 ≤ sp) (h2 : 0 ≤ dp) (h3 : 0 ≤ n) (h4 : n ≤ 200) (h5 : n ≤ 200) (h6 : sp ≤ 200 - n) (h7 : dp ≤ 200 - n) : zCp (zN sg) 3 316 sp dp n := ⟨(by decide : 3 < 411), (by decide : 316 < 411), rfl, rfl, rfl, rfl, h1, h2, h3, h4, h5, h6, h7⟩
theorem zcp_323_35 {sg : zSig} {sp dp n : Int32} (h1 : 0 ≤ sp) (h2 : 0 ≤ dp) (h3 : 0 ≤ n) (h4 : n ≤ 400) (h5 : n ≤ 400) (h6 : sp ≤ 400 - n) (h7 : dp ≤ 400 - n) : zCp (zN sg) 323 35 sp dp n := ⟨(by decide : 323 < 411), (by decide : 35 < 411), rfl, rfl, rfl, rfl, h1, h2, h3, h4, h5, h6, h7⟩
theorem zcp_318_2 {sg : zSig} {sp dp n : Int32} (h1 : 0 ≤ sp) (h2 : 0 ≤ dp) (h3 : 0 ≤ n) (h4 : n ≤ 200) (h5 : n ≤ 200) (h6 : sp ≤ 200 - n) (h7 : dp ≤ 200 - n) : zCp (zN sg) 318 2 sp dp n := ⟨(by decide : 318 < 411), (by decide : 2 < 411), rfl, rfl, rfl, rfl, h1, h2, h3, h4, h5, h6, h7⟩
theorem zcp_319_3 {sg : zSig} {sp dp n : Int32} (h1 : 0 ≤ sp) (h2 : 0 ≤ dp) (h3 : 0 ≤ n) (h4 : n ≤ 200) (h5 : n ≤ 200) (h6 : sp ≤ 200 - n) (h7 : dp ≤ 200 - n) : zCp (zN sg) 319 3 sp dp n := ⟨(by decide : 319 < 411), (by decide : 3 < 411), rfl, rfl, rfl, rfl, h1, h2, h3, h4, h5, h6, h7⟩
theorem zcp_2_2 {sg : zSig} {sp dp n : Int32} (h1 : 0 ≤ sp) (h2 : 0 ≤ dp) (h3 : 0 ≤ n) (h4 : n ≤ 200) (h5 : n ≤ 200) (h6 : sp ≤ 200 - n) (h7 : dp ≤ 200 - n) : zCp (zN sg) 2 2 sp dp n := ⟨(by decide : 2 < 411), (by decide : 2 < 411), rfl, rfl, rfl, rfl, h1, h2, h3, h4, h5, h6, h7⟩
theorem zcp_3_3 {sg : zSig} {sp dp n : Int32} (h1 : 0 ≤ sp) (h2 : 0 ≤ dp) (h3 : 0 ≤ n) (h4 : n ≤ 200) (h5 : n ≤ 200) (h6 : sp ≤ 200 - n) (h7 : dp ≤ 200 - n) : zCp (zN sg) 3 3 sp dp n := ⟨(by decide : 3 < 411), (by decide : 3 < 411), rfl, rfl, rfl, rfl, h1, h2, h3, h4, h5, h6, h7⟩
theorem bkLoo_unlikeStyles_0 : zBk mLoo_unlikeStyles 0 [(0, 0, 0, 0, 0), (2, 1, 0, 0, 0), (0, 0, 0, 0, 0), (2, 2, 0, 0, 0)] = some 4 := by decide +kernel
theorem bkLoo_unlikeStyles_4 : zBk mLoo_unlikeStyles 4 [(1, 2, 0, 0, 0), (1, 0, 1, 0, 0), (5, 3, 1, 0, 1)] = some 9 := by decide +kernel
theorem bkLoo_unlikeStyles_43 : zBk mLoo_unlikeStyles 43 [(1, 1, 0, 0, 0)] = some 44 := by decide +kernel
theorem bkLoo_unlikeStyles_12 : zBk mLoo_unlikeStyles 12 [(1, 0, 1, 0, 0), (1, 2, 0, 0, 0)] = some 14 := by decide +kernel
theorem bkLoo_unlikeStyles_17 : zBk mLoo_unlikeStyles 17 [] = some 17 := by decide +kernel
theorem bkLoo_unlikeStyles_37 : zBk mLoo_unlikeStyles 37 [(3, 2, 0, 0, 1), (22, 4, 0, 0, 0)] = some 4 := by decide +kernel
theorem bkLoo_unlikeStyles_20 : zBk mLoo_unlikeStyles 20 [(1, 0, 1, 0, 0), (1, 0, 1, 0, 0), (5, 3, 0, 1, 0), (1, 2, 0, 0, 0), (7, 0, 0, 0, 0), (1, 2, 0, 0, 0)] = some 28 := by decide +kernel
theorem bkLoo_unlikeStyles_31 : zBk mLoo_unlikeStyles 31 [] = some 31 := by decide +kernel
theorem bkLoo_unlikeStyles_34 : zBk mLoo_unlikeStyles 34 [(3, 1, 0, 0, 1), (3, 2, 0, 0, 1), (22, 4, 0, 0, 0)] = some 4 := by decide +kernel
theorem bdLoo_unlikeStyles_9 : decode mLoo_unlikeStyles.2.2.1 9 = .ok (.if_icmp .ge 34, 3) := by decide +kernel
theorem bdLoo_unlikeStyles_14 : decode mLoo_unlikeStyles.2.2.1 14 = .ok (.invokevirtual 84, 3) := by decide +kernel
theorem bdLoo_unlikeStyles_17 : decode mLoo_unlikeStyles.2.2.1 17 = .ok (.ifCond .eq 20, 3) := by decide +kernel
theorem bdLoo_unlikeStyles_28 : decode mLoo_unlikeStyles.2.2.1 28 = .ok (.invokevirtual 92, 3) := by decide +kernel
theorem bdLoo_unlikeStyles_31 : decode mLoo_unlikeStyles.2.2.1 31 = .ok (.ifCond .ne 6, 3) := by decide +kernel
theorem bdLoo_unlikeStyles_44 : decode mLoo_unlikeStyles.2.2.1 44 = .ok (.ireturn, 1) := by decide +kernel
theorem lLoo_unlikeStyles_313 {sg : zSig}  (hn0 : 0 ≤ sg 313 1) (hn : sg 313 1 ≤ 200) {Q : Option Value → zHp → Prop} (hq : ∀ rr h', (rr = some (.int (zit (uN (sg 314)) 0 (sg 313 1))) ∧ h' = zN sg) → Q rr h') : zG mLoo_unlikeStyles 411 Q 0 [(0, .ref 313)] [] (zN sg) := by
  refine zG_run bkLoo_unlikeStyles_0 (lv' := [(2, .int 0), (1, .int 0), (0, .ref 313)]) (st' := []) (h' := zN sg) (Ps := []) rfl trivial ?_
  refine zG_pick (lv' := [(0, .ref 313), (1, .int 0), (2, .int 0)]) [2, 1, 0] rfl ?_
  refine zlp2 (fun (n : Int32) (i : Int32) => zG mLoo_unlikeStyles 411 Q 4 [(0, .ref 313), (1, .int n), (2, .int i)] [] (zN sg)) (fun (n : Int32) (i : Int32) => (0 ≤ i) ∧ (i ≤ sg 313 1) ∧ (n = zit (uN (sg 314)) 0 i)) (fun (n : Int32) (i : Int32) => zmu (sg 313 1) i) ?_ 0 0 ?_
  · intro n i hI ih
    obtain ⟨h0, h1, h2⟩ := hI
    refine zb_icge (tgt := 43) bkLoo_unlikeStyles_4 bdLoo_unlikeStyles_9 (by decide) (lv' := [(0, .ref 313), (1, .int n), (2, .int i)]) (st' := []) (h' := zN sg) (x := i) (y := sg 313 1) (Ps := [zOb (zN sg) 313 3]) rfl (zA zob_313 trivial) (fun c1 => ?_) (fun c1 => ?_)
    · skip
      refine zb_iret bkLoo_unlikeStyles_43 bdLoo_unlikeStyles_44 rfl (x := n) (h' := zN sg) (Ps := []) rfl trivial rfl ?_
      refine hq _ _ ?_
      exact ⟨by grind, rfl⟩
    · skip
      refine zG_run bkLoo_unlikeStyles_12 (lv' := [(0, .ref 313), (1, .int n), (2, .int i)]) (st' := [.int i, .ref 313]) (h' := zN sg) (Ps := []) rfl trivial ?_
      refine zG_callv (a := 313) (c := 3) (As := [.int i]) (rest := []) (N2 := 411) bdLoo_unlikeStyles_14 okLoo_beginsRun lk3_84 (And.intro (by decide) (by decide)) (by decide) rfl rfl rfl (Nat.le_of_ble_eq_true rfl) (Nat.le_of_ble_eq_true rfl) (Nat.le_refl 411) (Nat.le_refl 411) zob_313 (cLoo_beginsRun_313 (by grind) (by grind)) ?_
      rintro rr h' ⟨rfl, rfl⟩ -
      refine zb_ifeq (tgt := 37) bkLoo_unlikeStyles_17 bdLoo_unlikeStyles_17 (by decide) (lv' := [(0, .ref 313), (1, .int n), (2, .int i)]) (st' := []) (h' := zN sg) (x := bg (sg 314) i) (Ps := []) rfl trivial (fun c2 => ?_) (fun c2 => ?_)
      · skip
        refine zG_run bkLoo_unlikeStyles_37 (lv' := [(2, .int (i + 1)), (0, .ref 313), (1, .int n)]) (st' := []) (h' := zN sg) (Ps := []) rfl trivial ?_
        refine zG_pick (lv' := [(0, .ref 313), (1, .int n), (2, .int (i + 1))]) [1, 2, 0] rfl ?_
        refine ih n (i + 1) ?_ ?_
        · refine ⟨?_, ?_, ?_⟩
          · grind
          · grind
          · rw [zit_s _ _ h0 (by grind : i < sg 313 1)]
            have hs := seen_or (sg 314) h0
            simp only [uN]
            have hb : bg (sg 314) i = 0 → ∃ j, 0 ≤ j ∧ j < i ∧ sg 314 j = sg 314 i := by intro hb; exact ⟨i - 1, by grind [bg], by grind [bg], by grind [bg]⟩
            grind
        · exact zmu_up (by grind)
      · skip
        refine zG_run bkLoo_unlikeStyles_20 (lv' := [(0, .ref 313), (1, .int n), (2, .int i)]) (st' := [.int i, .int (sg 314 i), .ref 313]) (h' := zN sg) (Ps := [zOb (zN sg) 313 3 ∧ (zN sg).2.2 313 0 = true, zInL (zN sg) 314 i]) rfl (zA ⟨zob_313, rfl⟩ (zA (zinL_314 (i := i) (by grind) (by grind)) trivial)) ?_
        refine zG_callv (a := 313) (c := 3) (As := [.int (sg 314 i), .int i]) (rest := []) (N2 := 411) bdLoo_unlikeStyles_28 okLoo_standsAhead lk3_92 (And.intro (by decide) (by decide)) (by decide) rfl rfl rfl (Nat.le_of_ble_eq_true rfl) (Nat.le_of_ble_eq_true rfl) (Nat.le_refl 411) (Nat.le_refl 411) zob_313 (cLoo_standsAhead_313 (y := sg 314 i) (q := i) (by grind) (by grind)) ?_
        rintro rr h' ⟨v3, rfl, rfl, hv⟩ -
        refine zb_ifne (tgt := 37) bkLoo_unlikeStyles_31 bdLoo_unlikeStyles_31 (by decide) (lv' := [(0, .ref 313), (1, .int n), (2, .int i)]) (st' := []) (h' := zN sg) (x := v3) (Ps := []) rfl trivial (fun c4 => ?_) (fun c4 => ?_)
        · skip
          refine zG_run bkLoo_unlikeStyles_37 (lv' := [(2, .int (i + 1)), (0, .ref 313), (1, .int n)]) (st' := []) (h' := zN sg) (Ps := []) rfl trivial ?_
          refine zG_pick (lv' := [(0, .ref 313), (1, .int n), (2, .int (i + 1))]) [1, 2, 0] rfl ?_
          refine ih n (i + 1) ?_ ?_
          · refine ⟨?_, ?_, ?_⟩
            · grind
            · grind
            · rw [zit_s _ _ h0 (by grind : i < sg 313 1)]
              have hs := seen_or (sg 314) h0
              simp only [uN]
              have hb : bg (sg 314) i = 0 → ∃ j, 0 ≤ j ∧ j < i ∧ sg 314 j = sg 314 i := by intro hb; exact ⟨i - 1, by grind [bg], by grind [bg], by grind [bg]⟩
              grind
          · exact zmu_up (by grind)
        · skip
          refine zG_run bkLoo_unlikeStyles_34 (lv' := [(2, .int (i + 1)), (1, .int (n + 1)), (0, .ref 313)]) (st' := []) (h' := zN sg) (Ps := []) rfl trivial ?_
          refine zG_pick (lv' := [(0, .ref 313), (1, .int (n + 1)), (2, .int (i + 1))]) [2, 1, 0] rfl ?_
          refine ih (n + 1) (i + 1) ?_ ?_
          · refine ⟨?_, ?_, ?_⟩
            · grind
            · grind
            · rw [zit_s _ _ h0 (by grind : i < sg 313 1)]
              have hs := seen_or (sg 314) h0
              simp only [uN]
              have hb : bg (sg 314) i = 0 → ∃ j, 0 ≤ j ∧ j < i ∧ sg 314 j = sg 314 i := by intro hb; exact ⟨i - 1, by grind [bg], by grind [bg], by grind [bg]⟩
              grind
          · exact zmu_up (by grind)
  · refine ⟨?_, ?_, ?_⟩
    · grind
    · grind
    · rfl
theorem cLoo_unlikeStyles_313 {sg : zSig}  (hn0 : 0 ≤ sg 313 1) (hn : sg 313 1 ≤ 200) : zG mLoo_unlikeStyles 411 (fun rr h' => rr = some (.int (zit (uN (sg 314)) 0 (sg 313 1))) ∧ h' = zN sg) 0 [(0, .ref 313)] [] (zN sg) := lLoo_unlikeStyles_313 hn0 hn (fun _ _ q => q)
theorem bkLoo_longestRun_0 : zBk mLoo_longestRun 0 [(1, 0, 1, 0, 0)] = some 1 := by decide +kernel
theorem bkLoo_longestRun_4 : zBk mLoo_longestRun 4 [(2, 1, 0, 0, 0), (0, 0, 0, 0, -1), (2, 2, 0, 0, 0), (0, 0, 0, 0, 0), (2, 3, 0, 0, 0), (0, 0, 0, 0, 0), (2, 4, 0, 0, 0)] = some 12 := by decide +kernel
theorem bkLoo_longestRun_12 : zBk mLoo_longestRun 12 [(1, 4, 0, 0, 0), (1, 0, 1, 0, 0), (5, 3, 1, 0, 1)] = some 18 := by decide +kernel
theorem bkLoo_longestRun_68 : zBk mLoo_longestRun 68 [(0, 0, 0, 0, -1)] = some 69 := by decide +kernel
theorem bkLoo_longestRun_21 : zBk mLoo_longestRun 21 [(1, 0, 1, 0, 0), (1, 4, 0, 0, 0)] = some 24 := by decide +kernel
theorem bkLoo_longestRun_27 : zBk mLoo_longestRun 27 [(2, 5, 0, 0, 0), (1, 5, 0, 0, 0)] = some 31 := by decide +kernel
theorem bkLoo_longestRun_40 : zBk mLoo_longestRun 40 [(1, 2, 0, 0, 0), (2, 2, 0, 0, 0), (1, 5, 0, 0, 0)] = some 44 := by decide +kernel
theorem bkLoo_longestRun_51 : zBk mLoo_longestRun 51 [(1, 3, 0, 0, 0), (0, 0, 0, 0, 1), (4, 0, 0, 0, 0), (2, 3, 0, 0, 0), (1, 3, 0, 0, 0), (1, 1, 0, 0, 0)] = some 57 := by decide +kernel
theorem bkLoo_longestRun_62 : zBk mLoo_longestRun 62 [(3, 4, 0, 0, 1), (22, 12, 0, 0, 0)] = some 12 := by decide +kernel
theorem bkLoo_longestRun_60 : zBk mLoo_longestRun 60 [(1, 2, 0, 0, 0)] = some 61 := by decide +kernel
theorem bkLoo_longestRun_47 : zBk mLoo_longestRun 47 [(0, 0, 0, 0, 1), (22, 54, 0, 0, 0), (2, 3, 0, 0, 0), (1, 3, 0, 0, 0), (1, 1, 0, 0, 0)] = some 57 := by decide +kernel
theorem bkLoo_longestRun_34 : zBk mLoo_longestRun 34 [(1, 2, 0, 0, 0), (0, 0, 0, 0, 1), (4, 0, 0, 0, 0), (22, 41, 0, 0, 0), (2, 2, 0, 0, 0), (1, 5, 0, 0, 0)] = some 44 := by decide +kernel
theorem bdLoo_longestRun_1 : decode mLoo_longestRun.2.2.1 1 = .ok (.invokevirtual 88, 3) := by decide +kernel
theorem bdLoo_longestRun_18 : decode mLoo_longestRun.2.2.1 18 = .ok (.if_icmp .ge 50, 3) := by decide +kernel
theorem bdLoo_longestRun_24 : decode mLoo_longestRun.2.2.1 24 = .ok (.invokevirtual 84, 3) := by decide +kernel
theorem bdLoo_longestRun_31 : decode mLoo_longestRun.2.2.1 31 = .ok (.ifCond .eq 9, 3) := by decide +kernel
theorem bdLoo_longestRun_44 : decode mLoo_longestRun.2.2.1 44 = .ok (.ifCond .eq 7, 3) := by decide +kernel
theorem bdLoo_longestRun_57 : decode mLoo_longestRun.2.2.1 57 = .ok (.if_icmp .ne 5, 3) := by decide +kernel
theorem bdLoo_longestRun_61 : decode mLoo_longestRun.2.2.1 61 = .ok (.ireturn, 1) := by decide +kernel
theorem bdLoo_longestRun_69 : decode mLoo_longestRun.2.2.1 69 = .ok (.ireturn, 1) := by decide +kernel
theorem lLoo_longestRun_313 {sg : zSig}  (hn0 : 0 ≤ sg 313 1) (hn : sg 313 1 ≤ 200) {Q : Option Value → zHp → Prop} (hq : ∀ rr h', (∃ v, rr = some (.int v) ∧ h' = zN sg ∧ ((∃ i, 0 ≤ i ∧ i < sg 313 1 ∧ v = zit (rN (sg 314)) (-1) (i + 1) ∧ (zit (rL (sg 314)) (0, 0) (i + 1)).2 = (zit (rL (sg 314)) (0, 0) (sg 313 1)).1 ∧ ∀ j, 0 ≤ j → j < i → (zit (rL (sg 314)) (0, 0) (j + 1)).2 ≠ (zit (rL (sg 314)) (0, 0) (sg 313 1)).1) ∨ (v = -1 ∧ ∀ j, 0 ≤ j → j < sg 313 1 → (zit (rL (sg 314)) (0, 0) (j + 1)).2 ≠ (zit (rL (sg 314)) (0, 0) (sg 313 1)).1))) → Q rr h') : zG mLoo_longestRun 411 Q 0 [(0, .ref 313)] [] (zN sg) := by
  refine zG_run bkLoo_longestRun_0 (lv' := [(0, .ref 313)]) (st' := [.ref 313]) (h' := zN sg) (Ps := []) rfl trivial ?_
  refine zG_callv (a := 313) (c := 3) (As := []) (rest := []) (N2 := 411) bdLoo_longestRun_1 okLoo_longestLength lk3_88 (And.intro (by decide) (by decide)) (by decide) rfl rfl rfl (Nat.le_of_ble_eq_true rfl) (Nat.le_of_ble_eq_true rfl) (Nat.le_refl 411) (Nat.le_refl 411) zob_313 (cLoo_longestLength_313 (by grind) (by grind)) ?_
  rintro rr h' ⟨rfl, rfl⟩ -
  refine zG_run bkLoo_longestRun_4 (lv' := [(4, .int 0), (3, .int 0), (2, .int (-1)), (1, .int ((zit (rL (sg 314)) (0, 0) (sg 313 1)).1)), (0, .ref 313)]) (st' := []) (h' := zN sg) (Ps := []) rfl trivial ?_
  refine zG_pick (lv' := [(0, .ref 313), (1, .int ((zit (rL (sg 314)) (0, 0) (sg 313 1)).1)), (2, .int (-1)), (3, .int 0), (4, .int 0)]) [4, 3, 2, 1, 0] rfl ?_
  refine zlp3 (fun (n : Int32) (le : Int32) (i : Int32) => zG mLoo_longestRun 411 Q 12 [(0, .ref 313), (1, .int ((zit (rL (sg 314)) (0, 0) (sg 313 1)).1)), (2, .int n), (3, .int le), (4, .int i)] [] (zN sg)) (fun (n : Int32) (le : Int32) (i : Int32) => (0 ≤ i) ∧ (i ≤ sg 313 1) ∧ (n = zit (rN (sg 314)) (-1) i) ∧ (le = (zit (rL (sg 314)) (0, 0) i).2) ∧ (∀ j, 0 ≤ j → j < i → (zit (rL (sg 314)) (0, 0) (j + 1)).2 ≠ (zit (rL (sg 314)) (0, 0) (sg 313 1)).1)) (fun (n : Int32) (le : Int32) (i : Int32) => zmu (sg 313 1) i) ?_ (-1) 0 0 ?_
  · intro n le i hI ih
    obtain ⟨h0, h1, h2, h3, h4⟩ := hI
    refine zb_icge (tgt := 68) bkLoo_longestRun_12 bdLoo_longestRun_18 (by decide) (lv' := [(0, .ref 313), (1, .int ((zit (rL (sg 314)) (0, 0) (sg 313 1)).1)), (2, .int n), (3, .int le), (4, .int i)]) (st' := []) (h' := zN sg) (x := i) (y := sg 313 1) (Ps := [zOb (zN sg) 313 3]) rfl (zA zob_313 trivial) (fun c1 => ?_) (fun c1 => ?_)
    · skip
      refine zb_iret bkLoo_longestRun_68 bdLoo_longestRun_69 rfl (x := (-1)) (h' := zN sg) (Ps := []) rfl trivial rfl ?_
      refine hq _ _ ?_
      exact ⟨_, rfl, rfl, Or.inr ⟨rfl, fun j h5 h6 => h4 j h5 (by grind)⟩⟩
    · skip
      refine zG_run bkLoo_longestRun_21 (lv' := [(0, .ref 313), (1, .int ((zit (rL (sg 314)) (0, 0) (sg 313 1)).1)), (2, .int n), (3, .int le), (4, .int i)]) (st' := [.int i, .ref 313]) (h' := zN sg) (Ps := []) rfl trivial ?_
      refine zG_callv (a := 313) (c := 3) (As := [.int i]) (rest := []) (N2 := 411) bdLoo_longestRun_24 okLoo_beginsRun lk3_84 (And.intro (by decide) (by decide)) (by decide) rfl rfl rfl (Nat.le_of_ble_eq_true rfl) (Nat.le_of_ble_eq_true rfl) (Nat.le_refl 411) (Nat.le_refl 411) zob_313 (cLoo_beginsRun_313 (by grind) (by grind)) ?_
      rintro rr h' ⟨rfl, rfl⟩ -
      refine zb_ifeq (tgt := 40) bkLoo_longestRun_27 bdLoo_longestRun_31 (by decide) (lv' := [(5, .int (bg (sg 314) i)), (0, .ref 313), (1, .int ((zit (rL (sg 314)) (0, 0) (sg 313 1)).1)), (2, .int n), (3, .int le), (4, .int i)]) (st' := []) (h' := zN sg) (x := bg (sg 314) i) (Ps := []) rfl trivial (fun c2 => ?_) (fun c2 => ?_)
      · skip
        refine zb_ifeq (tgt := 51) bkLoo_longestRun_40 bdLoo_longestRun_44 (by decide) (lv' := [(2, .int n), (5, .int (bg (sg 314) i)), (0, .ref 313), (1, .int ((zit (rL (sg 314)) (0, 0) (sg 313 1)).1)), (3, .int le), (4, .int i)]) (st' := []) (h' := zN sg) (x := bg (sg 314) i) (Ps := []) rfl trivial (fun c3 => ?_) (fun c3 => ?_)
        · skip
          refine zb_icne (tgt := 62) bkLoo_longestRun_51 bdLoo_longestRun_57 (by decide) (lv' := [(3, .int (le + 1)), (2, .int n), (5, .int (bg (sg 314) i)), (0, .ref 313), (1, .int ((zit (rL (sg 314)) (0, 0) (sg 313 1)).1)), (4, .int i)]) (st' := []) (h' := zN sg) (x := le + 1) (y := (zit (rL (sg 314)) (0, 0) (sg 313 1)).1) (Ps := []) rfl trivial (fun c4 => ?_) (fun c4 => ?_)
          · skip
            refine zG_run bkLoo_longestRun_62 (lv' := [(4, .int (i + 1)), (3, .int (le + 1)), (2, .int n), (5, .int (bg (sg 314) i)), (0, .ref 313), (1, .int ((zit (rL (sg 314)) (0, 0) (sg 313 1)).1))]) (st' := []) (h' := zN sg) (Ps := []) rfl trivial ?_
            refine zG_pick (lv' := [(0, .ref 313), (1, .int ((zit (rL (sg 314)) (0, 0) (sg 313 1)).1)), (2, .int n), (3, .int (le + 1)), (4, .int (i + 1))]) [4, 5, 2, 1, 0] rfl ?_
            refine ih n (le + 1) (i + 1) ?_ ?_
            · refine ⟨?_, ?_, ?_, ?_, ?_⟩
              · grind
              · grind
              · rw [zit_s _ _ h0 (by grind : i < sg 313 1)]; grind [rN]
              · rw [zit_s _ _ h0 (by grind : i < sg 313 1)]; simp only [rL]; grind
              · intro j hj0 hj1; by_cases hj : j = i; · subst hj; rw [zit_s _ _ h0 (by grind : j < sg 313 1)]; simp only [rL]; grind
                exact h4 j hj0 (by grind)
            · exact zmu_up (by grind)
          · skip
            refine zb_iret bkLoo_longestRun_60 bdLoo_longestRun_61 rfl (x := n) (h' := zN sg) (Ps := []) rfl trivial rfl ?_
            refine hq _ _ ?_
            exact ⟨_, rfl, rfl, Or.inl ⟨i, h0, by grind, by rw [zit_s _ _ h0 (by grind : i < sg 313 1)]; grind [rN], by rw [zit_s _ _ h0 (by grind : i < sg 313 1)]; simp only [rL]; grind, h4⟩⟩
        · skip
          refine zb_icne (tgt := 62) bkLoo_longestRun_47 bdLoo_longestRun_57 (by decide) (lv' := [(3, .int 1), (2, .int n), (5, .int (bg (sg 314) i)), (0, .ref 313), (1, .int ((zit (rL (sg 314)) (0, 0) (sg 313 1)).1)), (4, .int i)]) (st' := []) (h' := zN sg) (x := 1) (y := (zit (rL (sg 314)) (0, 0) (sg 313 1)).1) (Ps := []) rfl trivial (fun c5 => ?_) (fun c5 => ?_)
          · skip
            refine zG_run bkLoo_longestRun_62 (lv' := [(4, .int (i + 1)), (3, .int 1), (2, .int n), (5, .int (bg (sg 314) i)), (0, .ref 313), (1, .int ((zit (rL (sg 314)) (0, 0) (sg 313 1)).1))]) (st' := []) (h' := zN sg) (Ps := []) rfl trivial ?_
            refine zG_pick (lv' := [(0, .ref 313), (1, .int ((zit (rL (sg 314)) (0, 0) (sg 313 1)).1)), (2, .int n), (3, .int 1), (4, .int (i + 1))]) [4, 5, 2, 1, 0] rfl ?_
            refine ih n 1 (i + 1) ?_ ?_
            · refine ⟨?_, ?_, ?_, ?_, ?_⟩
              · grind
              · grind
              · rw [zit_s _ _ h0 (by grind : i < sg 313 1)]; grind [rN]
              · rw [zit_s _ _ h0 (by grind : i < sg 313 1)]; simp only [rL]; grind
              · intro j hj0 hj1; by_cases hj : j = i; · subst hj; rw [zit_s _ _ h0 (by grind : j < sg 313 1)]; simp only [rL]; grind
                exact h4 j hj0 (by grind)
            · exact zmu_up (by grind)
          · skip
            refine zb_iret bkLoo_longestRun_60 bdLoo_longestRun_61 rfl (x := n) (h' := zN sg) (Ps := []) rfl trivial rfl ?_
            refine hq _ _ ?_
            exact ⟨_, rfl, rfl, Or.inl ⟨i, h0, by grind, by rw [zit_s _ _ h0 (by grind : i < sg 313 1)]; grind [rN], by rw [zit_s _ _ h0 (by grind : i < sg 313 1)]; simp only [rL]; grind, h4⟩⟩
      · skip
        refine zb_ifeq (tgt := 51) bkLoo_longestRun_34 bdLoo_longestRun_44 (by decide) (lv' := [(2, .int (n + 1)), (5, .int (bg (sg 314) i)), (0, .ref 313), (1, .int ((zit (rL (sg 314)) (0, 0) (sg 313 1)).1)), (3, .int le), (4, .int i)]) (st' := []) (h' := zN sg) (x := bg (sg 314) i) (Ps := []) rfl trivial (fun c6 => ?_) (fun c6 => ?_)
        · skip
          refine zb_icne (tgt := 62) bkLoo_longestRun_51 bdLoo_longestRun_57 (by decide) (lv' := [(3, .int (le + 1)), (2, .int (n + 1)), (5, .int (bg (sg 314) i)), (0, .ref 313), (1, .int ((zit (rL (sg 314)) (0, 0) (sg 313 1)).1)), (4, .int i)]) (st' := []) (h' := zN sg) (x := le + 1) (y := (zit (rL (sg 314)) (0, 0) (sg 313 1)).1) (Ps := []) rfl trivial (fun c7 => ?_) (fun c7 => ?_)
          · skip
            refine zG_run bkLoo_longestRun_62 (lv' := [(4, .int (i + 1)), (3, .int (le + 1)), (2, .int (n + 1)), (5, .int (bg (sg 314) i)), (0, .ref 313), (1, .int ((zit (rL (sg 314)) (0, 0) (sg 313 1)).1))]) (st' := []) (h' := zN sg) (Ps := []) rfl trivial ?_
            refine zG_pick (lv' := [(0, .ref 313), (1, .int ((zit (rL (sg 314)) (0, 0) (sg 313 1)).1)), (2, .int (n + 1)), (3, .int (le + 1)), (4, .int (i + 1))]) [4, 5, 2, 1, 0] rfl ?_
            refine ih (n + 1) (le + 1) (i + 1) ?_ ?_
            · refine ⟨?_, ?_, ?_, ?_, ?_⟩
              · grind
              · grind
              · rw [zit_s _ _ h0 (by grind : i < sg 313 1)]; grind [rN]
              · rw [zit_s _ _ h0 (by grind : i < sg 313 1)]; simp only [rL]; grind
              · intro j hj0 hj1; by_cases hj : j = i; · subst hj; rw [zit_s _ _ h0 (by grind : j < sg 313 1)]; simp only [rL]; grind
                exact h4 j hj0 (by grind)
            · exact zmu_up (by grind)
          · skip
            refine zb_iret bkLoo_longestRun_60 bdLoo_longestRun_61 rfl (x := n + 1) (h' := zN sg) (Ps := []) rfl trivial rfl ?_
            refine hq _ _ ?_
            exact ⟨_, rfl, rfl, Or.inl ⟨i, h0, by grind, by rw [zit_s _ _ h0 (by grind : i < sg 313 1)]; grind [rN], by rw [zit_s _ _ h0 (by grind : i < sg 313 1)]; simp only [rL]; grind, h4⟩⟩
        · skip
          refine zb_icne (tgt := 62) bkLoo_longestRun_47 bdLoo_longestRun_57 (by decide) (lv' := [(3, .int 1), (2, .int (n + 1)), (5, .int (bg (sg 314) i)), (0, .ref 313), (1, .int ((zit (rL (sg 314)) (0, 0) (sg 313 1)).1)), (4, .int i)]) (st' := []) (h' := zN sg) (x := 1) (y := (zit (rL (sg 314)) (0, 0) (sg 313 1)).1) (Ps := []) rfl trivial (fun c8 => ?_) (fun c8 => ?_)
          · skip
            refine zG_run bkLoo_longestRun_62 (lv' := [(4, .int (i + 1)), (3, .int 1), (2, .int (n + 1)), (5, .int (bg (sg 314) i)), (0, .ref 313), (1, .int ((zit (rL (sg 314)) (0, 0) (sg 313 1)).1))]) (st' := []) (h' := zN sg) (Ps := []) rfl trivial ?_
            refine zG_pick (lv' := [(0, .ref 313), (1, .int ((zit (rL (sg 314)) (0, 0) (sg 313 1)).1)), (2, .int (n + 1)), (3, .int 1), (4, .int (i + 1))]) [4, 5, 2, 1, 0] rfl ?_
            refine ih (n + 1) 1 (i + 1) ?_ ?_
            · refine ⟨?_, ?_, ?_, ?_, ?_⟩
              · grind
              · grind
              · rw [zit_s _ _ h0 (by grind : i < sg 313 1)]; grind [rN]
              · rw [zit_s _ _ h0 (by grind : i < sg 313 1)]; simp only [rL]; grind
              · intro j hj0 hj1; by_cases hj : j = i; · subst hj; rw [zit_s _ _ h0 (by grind : j < sg 313 1)]; simp only [rL]; grind
                exact h4 j hj0 (by grind)
            · exact zmu_up (by grind)
          · skip
            refine zb_iret bkLoo_longestRun_60 bdLoo_longestRun_61 rfl (x := n + 1) (h' := zN sg) (Ps := []) rfl trivial rfl ?_
            refine hq _ _ ?_
            exact ⟨_, rfl, rfl, Or.inl ⟨i, h0, by grind, by rw [zit_s _ _ h0 (by grind : i < sg 313 1)]; grind [rN], by rw [zit_s _ _ h0 (by grind : i < sg 313 1)]; simp only [rL]; grind, h4⟩⟩
  · refine ⟨?_, ?_, ?_, ?_, ?_⟩
    · grind
    · grind
    · rfl
    · rfl
    · grind
theorem cLoo_longestRun_313 {sg : zSig}  (hn0 : 0 ≤ sg 313 1) (hn : sg 313 1 ≤ 200) : zG mLoo_longestRun 411 (fun rr h' => ∃ v, rr = some (.int v) ∧ h' = zN sg ∧ ((∃ i, 0 ≤ i ∧ i < sg 313 1 ∧ v = zit (rN (sg 314)) (-1) (i + 1) ∧ (zit (rL (sg 314)) (0, 0) (i + 1)).2 = (zit (rL (sg 314)) (0, 0) (sg 313 1)).1 ∧ ∀ j, 0 ≤ j → j < i → (zit (rL (sg 314)) (0, 0) (j + 1)).2 ≠ (zit (rL (sg 314)) (0, 0) (sg 313 1)).1) ∨ (v = -1 ∧ ∀ j, 0 ≤ j → j < sg 313 1 → (zit (rL (sg 314)) (0, 0) (j + 1)).2 ≠ (zit (rL (sg 314)) (0, 0) (sg 313 1)).1))) 0 [(0, .ref 313)] [] (zN sg) := lLoo_longestRun_313 hn0 hn (fun _ _ q => q)
theorem bkLoo_brush_0 : zBk mLoo_brush 0 [(1, 1, 1, 0, 0), (5, 6, 2, 0, 2), (1, 0, 1, 0, 0), (5, 3, 1, 0, 1)] = some 8 := by decide +kernel
theorem bkLoo_brush_11 : zBk mLoo_brush 11 [(2, 2, 0, 0, 0), (1, 1, 1, 0, 0), (5, 6, 1, 0, 1), (0, 0, 0, 0, 0)] = some 17 := by decide +kernel
theorem bkLoo_brush_20 : zBk mLoo_brush 20 [(2, 3, 0, 0, 0)] = some 21 := by decide +kernel
theorem bkLoo_brush_21 : zBk mLoo_brush 21 [(1, 3, 0, 0, 0), (1, 2, 0, 0, 0)] = some 23 := by decide +kernel
theorem bkLoo_brush_63 : zBk mLoo_brush 63 [] = some 63 := by decide +kernel
theorem bkLoo_brush_26 : zBk mLoo_brush 26 [(1, 0, 1, 0, 0), (5, 3, 0, 1, 0), (1, 3, 0, 0, 0), (1, 0, 1, 0, 0), (5, 3, 0, 1, 0), (1, 3, 0, 0, 0), (7, 0, 0, 0, 0), (1, 1, 1, 0, 0), (5, 6, 4, 0, 4), (1, 1, 1, 0, 0), (5, 6, 5, 0, 5), (1, 1, 1, 0, 0), (5, 6, 6, 0, 6), (1, 1, 1, 0, 0), (5, 6, 7, 0, 7)] = some 53 := by decide +kernel
theorem bkLoo_brush_56 : zBk mLoo_brush 56 [(8, 0, 0, 0, 0), (3, 3, 0, 0, 1), (22, 21, 0, 0, 0)] = some 21 := by decide +kernel
theorem bdLoo_brush_8 : decode mLoo_brush.2.2.1 8 = .ok (.invokestatic 54, 3) := by decide +kernel
theorem bdLoo_brush_17 : decode mLoo_brush.2.2.1 17 = .ok (.invokestatic 63, 3) := by decide +kernel
theorem bdLoo_brush_23 : decode mLoo_brush.2.2.1 23 = .ok (.if_icmp .ge 40, 3) := by decide +kernel
theorem bdLoo_brush_53 : decode mLoo_brush.2.2.1 53 = .ok (.invokestatic 78, 3) := by decide +kernel
theorem bdLoo_brush_63 : decode mLoo_brush.2.2.1 63 = .ok (.return_, 1) := by decide +kernel
theorem lLoo_brush_313 {sg : zSig} {s : Nat} (ho : zOb (zN sg) s 6) (hn0 : 0 ≤ sg 313 1) (hn : sg 313 1 ≤ 200) {Q : Option Value → zHp → Prop} (hq : ∀ rr h', (∃ sg', rr = none ∧ h' = zN sg' ∧ (∀ c j, c ≠ 314 → sg' c j = sg c j) ∧ ∀ j, 0 ≤ j → j < sg 313 1 → sg' 314 j = if sg s 1 ≤ j ∧ j < sg s 2 then fBr (sg 314 j) (sg s 4) (sg s 5) (sg s 6) (sg s 7) else sg 314 j) → Q rr h') : zG mLoo_brush 411 Q 0 [(0, .ref 313), (1, .ref s)] [] (zN sg) := by
  have hs : s ≠ 314 := by intro q; have := ho.2; rw [q] at this; exact absurd this (by decide)
  refine zG_run bkLoo_brush_0 (lv' := [(0, .ref 313), (1, .ref s)]) (st' := [.int (sg 313 1), .int (sg s 2)]) (h' := zN sg) (Ps := [zOb (zN sg) s 6, zOb (zN sg) 313 3]) rfl (zA ho (zA zob_313 trivial)) ?_
  refine zG_calls (As := [.int (sg s 2), .int (sg 313 1)]) (rest := []) (N2 := 411) bdLoo_brush_8 okMa_min lk3_54 (And.intro (by decide) (by decide)) rfl rfl (Nat.le_of_ble_eq_true rfl) (Nat.le_of_ble_eq_true rfl) (Nat.le_refl 411) (Nat.le_refl 411) cMa_min ?_
  rintro rr h' ⟨rfl, rfl⟩ -
  refine zG_run bkLoo_brush_11 (lv' := [(2, .int (fMin (sg s 2) (sg 313 1))), (0, .ref 313), (1, .ref s)]) (st' := [.int 0, .int (sg s 1)]) (h' := zN sg) (Ps := [zOb (zN sg) s 6]) rfl (zA ho trivial) ?_
  refine zG_calls (As := [.int (sg s 1), .int 0]) (rest := []) (N2 := 411) bdLoo_brush_17 okMa_max lk3_63 (And.intro (by decide) (by decide)) rfl rfl (Nat.le_of_ble_eq_true rfl) (Nat.le_of_ble_eq_true rfl) (Nat.le_refl 411) (Nat.le_refl 411) cMa_max ?_
  rintro rr h' ⟨rfl, rfl⟩ -
  refine zG_run bkLoo_brush_20 (lv' := [(3, .int (fMax (sg s 1) 0)), (2, .int (fMin (sg s 2) (sg 313 1))), (0, .ref 313), (1, .ref s)]) (st' := []) (h' := zN sg) (Ps := []) rfl trivial ?_
  refine zG_pick (lv' := [(0, .ref 313), (1, .ref s), (2, .int (fMin (sg s 2) (sg 313 1))), (3, .int (fMax (sg s 1) 0))]) [2, 3, 1, 0] rfl ?_
  refine zlp2 (fun (i : Int32) (sg1 : zSig) => zG mLoo_brush 411 Q 21 [(0, .ref 313), (1, .ref s), (2, .int (fMin (sg s 2) (sg 313 1))), (3, .int i)] [] (zN sg1)) (fun (i : Int32) (sg1 : zSig) => (fMax (sg s 1) 0 ≤ i) ∧ (∀ c j, c ≠ 314 → sg1 c j = sg c j) ∧ (∀ j, 0 ≤ j → j < sg 313 1 → sg1 314 j = if sg s 1 ≤ j ∧ j < sg s 2 ∧ j < i then fBr (sg 314 j) (sg s 4) (sg s 5) (sg s 6) (sg s 7) else sg 314 j)) (fun (i : Int32) (sg1 : zSig) => zmu (fMin (sg s 2) (sg 313 1)) i) ?_ (fMax (sg s 1) 0) sg ?_
  · intro i sg1 hI ih
    obtain ⟨h0, hf, h2⟩ := hI
    refine zb_icge (tgt := 63) bkLoo_brush_21 bdLoo_brush_23 (by decide) (lv' := [(0, .ref 313), (1, .ref s), (2, .int (fMin (sg s 2) (sg 313 1))), (3, .int i)]) (st' := []) (h' := zN sg1) (x := i) (y := fMin (sg s 2) (sg 313 1)) (Ps := []) rfl trivial (fun c1 => ?_) (fun c1 => ?_)
    · skip
      refine zb_vret bkLoo_brush_63 bdLoo_brush_63 rfl (h' := zN sg1) (Ps := []) rfl trivial rfl ?_
      refine hq _ _ ?_
      exact ⟨sg1, rfl, rfl, hf, fun j h5 h6 => by have h3 := h2 j h5 h6; grind [fMax, fMin]⟩
    · skip
      refine zG_run bkLoo_brush_26 (lv' := [(0, .ref 313), (1, .ref s), (2, .int (fMin (sg s 2) (sg 313 1))), (3, .int i)]) (st' := [.int (sg1 s 7), .int (sg1 s 6), .int (sg1 s 5), .int (sg1 s 4), .int (sg1 314 i), .int i, .ref 314]) (h' := zN sg1) (Ps := [zOb (zN sg1) 313 3 ∧ (zN sg1).2.2 313 0 = true, zOb (zN sg1) 313 3 ∧ (zN sg1).2.2 313 0 = true, zInL (zN sg1) 314 i, zOb (zN sg1) s 6, zOb (zN sg1) s 6, zOb (zN sg1) s 6, zOb (zN sg1) s 6]) rfl (zA ⟨zob_313, rfl⟩ (zA ⟨zob_313, rfl⟩ (zA (zinL_314 (i := i) (by grind [fMax, fMin]) (by grind [fMax, fMin])) (zA ho (zA ho (zA ho (zA ho trivial))))))) ?_
      refine zG_calls (As := [.int (sg1 314 i), .int (sg1 s 4), .int (sg1 s 5), .int (sg1 s 6), .int (sg1 s 7)]) (rest := [.int i, .ref 314]) (N2 := 411) bdLoo_brush_53 okSty_brushed lk3_78 (And.intro (by decide) (by decide)) rfl rfl (Nat.le_of_ble_eq_true rfl) (Nat.le_of_ble_eq_true rfl) (Nat.le_refl 411) (Nat.le_refl 411) cSty_brushed ?_
      rintro rr h' ⟨rfl, rfl⟩ -
      refine zG_run bkLoo_brush_56 (lv' := [(3, .int (i + 1)), (0, .ref 313), (1, .ref s), (2, .int (fMin (sg s 2) (sg 313 1)))]) (st' := []) (h' := zN (zup sg1 314 i (fBr (sg1 314 i) (sg1 s 4) (sg1 s 5) (sg1 s 6) (sg1 s 7)))) (Ps := [zIn (zN sg1) 314 0 i]) rfl (zA (zin_314 (i := i) (by grind [fMax, fMin]) (by grind [fMax, fMin])) trivial) ?_
      refine zG_pick (lv' := [(0, .ref 313), (1, .ref s), (2, .int (fMin (sg s 2) (sg 313 1))), (3, .int (i + 1))]) [1, 2, 3, 0] rfl ?_
      refine ih (i + 1) (zup sg1 314 i (fBr (sg1 314 i) (sg1 s 4) (sg1 s 5) (sg1 s 6) (sg1 s 7))) ?_ ?_
      · refine ⟨?_, ?_, ?_⟩
        · grind
        · intro c j hc; rw [zup_a hc]; exact hf c j hc
        · intro j hj0 hj1; rw [zup_e]; have h3 := h2 j hj0 hj1; have f4 := hf s 4 hs; have f5 := hf s 5 hs; have f6 := hf s 6 hs; have f7 := hf s 7 hs; grind [fMax, fMin]
      · exact zmu_up (by grind)
  · refine ⟨?_, ?_, ?_⟩
    · grind
    · intro c j _; rfl
    · grind [fMax]
theorem cLoo_brush_313 {sg : zSig} {s : Nat} (ho : zOb (zN sg) s 6) (hn0 : 0 ≤ sg 313 1) (hn : sg 313 1 ≤ 200) : zG mLoo_brush 411 (fun rr h' => ∃ sg', rr = none ∧ h' = zN sg' ∧ (∀ c j, c ≠ 314 → sg' c j = sg c j) ∧ ∀ j, 0 ≤ j → j < sg 313 1 → sg' 314 j = if sg s 1 ≤ j ∧ j < sg s 2 then fBr (sg 314 j) (sg s 4) (sg s 5) (sg s 6) (sg s 7) else sg 314 j) 0 [(0, .ref 313), (1, .ref s)] [] (zN sg) := lLoo_brush_313 ho hn0 hn (fun _ _ q => q)
theorem lLoo_unlikeStyles_315 {sg : zSig}  (hn0 : 0 ≤ sg 315 1) (hn : sg 315 1 ≤ 200) {Q : Option Value → zHp → Prop} (hq : ∀ rr h', (rr = some (.int (zit (uN (sg 316)) 0 (sg 315 1))) ∧ h' = zN sg) → Q rr h') : zG mLoo_unlikeStyles 411 Q 0 [(0, .ref 315)] [] (zN sg) := by
  refine zG_run bkLoo_unlikeStyles_0 (lv' := [(2, .int 0), (1, .int 0), (0, .ref 315)]) (st' := []) (h' := zN sg) (Ps := []) rfl trivial ?_
  refine zG_pick (lv' := [(0, .ref 315), (1, .int 0), (2, .int 0)]) [2, 1, 0] rfl ?_
  refine zlp2 (fun (n : Int32) (i : Int32) => zG mLoo_unlikeStyles 411 Q 4 [(0, .ref 315), (1, .int n), (2, .int i)] [] (zN sg)) (fun (n : Int32) (i : Int32) => (0 ≤ i) ∧ (i ≤ sg 315 1) ∧ (n = zit (uN (sg 316)) 0 i)) (fun (n : Int32) (i : Int32) => zmu (sg 315 1) i) ?_ 0 0 ?_
  · intro n i hI ih
    obtain ⟨h0, h1, h2⟩ := hI
    refine zb_icge (tgt := 43) bkLoo_unlikeStyles_4 bdLoo_unlikeStyles_9 (by decide) (lv' := [(0, .ref 315), (1, .int n), (2, .int i)]) (st' := []) (h' := zN sg) (x := i) (y := sg 315 1) (Ps := [zOb (zN sg) 315 3]) rfl (zA zob_315 trivial) (fun c1 => ?_) (fun c1 => ?_)
    · skip
      refine zb_iret bkLoo_unlikeStyles_43 bdLoo_unlikeStyles_44 rfl (x := n) (h' := zN sg) (Ps := []) rfl trivial rfl ?_
      refine hq _ _ ?_
      exact ⟨by grind, rfl⟩
    · skip
      refine zG_run bkLoo_unlikeStyles_12 (lv' := [(0, .ref 315), (1, .int n), (2, .int i)]) (st' := [.int i, .ref 315]) (h' := zN sg) (Ps := []) rfl trivial ?_
      refine zG_callv (a := 315) (c := 3) (As := [.int i]) (rest := []) (N2 := 411) bdLoo_unlikeStyles_14 okLoo_beginsRun lk3_84 (And.intro (by decide) (by decide)) (by decide) rfl rfl rfl (Nat.le_of_ble_eq_true rfl) (Nat.le_of_ble_eq_true rfl) (Nat.le_refl 411) (Nat.le_refl 411) zob_315 (cLoo_beginsRun_315 (by grind) (by grind)) ?_
      rintro rr h' ⟨rfl, rfl⟩ -
      refine zb_ifeq (tgt := 37) bkLoo_unlikeStyles_17 bdLoo_unlikeStyles_17 (by decide) (lv' := [(0, .ref 315), (1, .int n), (2, .int i)]) (st' := []) (h' := zN sg) (x := bg (sg 316) i) (Ps := []) rfl trivial (fun c2 => ?_) (fun c2 => ?_)
      · skip
        refine zG_run bkLoo_unlikeStyles_37 (lv' := [(2, .int (i + 1)), (0, .ref 315), (1, .int n)]) (st' := []) (h' := zN sg) (Ps := []) rfl trivial ?_
        refine zG_pick (lv' := [(0, .ref 315), (1, .int n), (2, .int (i + 1))]) [1, 2, 0] rfl ?_
        refine ih n (i + 1) ?_ ?_
        · refine ⟨?_, ?_, ?_⟩
          · grind
          · grind
          · rw [zit_s _ _ h0 (by grind : i < sg 315 1)]
            have hs := seen_or (sg 316) h0
            simp only [uN]
            have hb : bg (sg 316) i = 0 → ∃ j, 0 ≤ j ∧ j < i ∧ sg 316 j = sg 316 i := by intro hb; exact ⟨i - 1, by grind [bg], by grind [bg], by grind [bg]⟩
            grind
        · exact zmu_up (by grind)
      · skip
        refine zG_run bkLoo_unlikeStyles_20 (lv' := [(0, .ref 315), (1, .int n), (2, .int i)]) (st' := [.int i, .int (sg 316 i), .ref 315]) (h' := zN sg) (Ps := [zOb (zN sg) 315 3 ∧ (zN sg).2.2 315 0 = true, zInL (zN sg) 316 i]) rfl (zA ⟨zob_315, rfl⟩ (zA (zinL_316 (i := i) (by grind) (by grind)) trivial)) ?_
        refine zG_callv (a := 315) (c := 3) (As := [.int (sg 316 i), .int i]) (rest := []) (N2 := 411) bdLoo_unlikeStyles_28 okLoo_standsAhead lk3_92 (And.intro (by decide) (by decide)) (by decide) rfl rfl rfl (Nat.le_of_ble_eq_true rfl) (Nat.le_of_ble_eq_true rfl) (Nat.le_refl 411) (Nat.le_refl 411) zob_315 (cLoo_standsAhead_315 (y := sg 316 i) (q := i) (by grind) (by grind)) ?_
        rintro rr h' ⟨v3, rfl, rfl, hv⟩ -
        refine zb_ifne (tgt := 37) bkLoo_unlikeStyles_31 bdLoo_unlikeStyles_31 (by decide) (lv' := [(0, .ref 315), (1, .int n), (2, .int i)]) (st' := []) (h' := zN sg) (x := v3) (Ps := []) rfl trivial (fun c4 => ?_) (fun c4 => ?_)
        · skip
          refine zG_run bkLoo_unlikeStyles_37 (lv' := [(2, .int (i + 1)), (0, .ref 315), (1, .int n)]) (st' := []) (h' := zN sg) (Ps := []) rfl trivial ?_
          refine zG_pick (lv' := [(0, .ref 315), (1, .int n), (2, .int (i + 1))]) [1, 2, 0] rfl ?_
          refine ih n (i + 1) ?_ ?_
          · refine ⟨?_, ?_, ?_⟩
            · grind
            · grind
            · rw [zit_s _ _ h0 (by grind : i < sg 315 1)]
              have hs := seen_or (sg 316) h0
              simp only [uN]
              have hb : bg (sg 316) i = 0 → ∃ j, 0 ≤ j ∧ j < i ∧ sg 316 j = sg 316 i := by intro hb; exact ⟨i - 1, by grind [bg], by grind [bg], by grind [bg]⟩
              grind
          · exact zmu_up (by grind)
        · skip
          refine zG_run bkLoo_unlikeStyles_34 (lv' := [(2, .int (i + 1)), (1, .int (n + 1)), (0, .ref 315)]) (st' := []) (h' := zN sg) (Ps := []) rfl trivial ?_
          refine zG_pick (lv' := [(0, .ref 315), (1, .int (n + 1)), (2, .int (i + 1))]) [2, 1, 0] rfl ?_
          refine ih (n + 1) (i + 1) ?_ ?_
          · refine ⟨?_, ?_, ?_⟩
            · grind
            · grind
            · rw [zit_s _ _ h0 (by grind : i < sg 315 1)]
              have hs := seen_or (sg 316) h0
              simp only [uN]
              have hb : bg (sg 316) i = 0 → ∃ j, 0 ≤ j ∧ j < i ∧ sg 316 j = sg 316 i := by intro hb; exact ⟨i - 1, by grind [bg], by grind [bg], by grind [bg]⟩
              grind
          · exact zmu_up (by grind)
  · refine ⟨?_, ?_, ?_⟩
    · grind
    · grind
    · rfl
theorem cLoo_unlikeStyles_315 {sg : zSig}  (hn0 : 0 ≤ sg 315 1) (hn : sg 315 1 ≤ 200) : zG mLoo_unlikeStyles 411 (fun rr h' => rr = some (.int (zit (uN (sg 316)) 0 (sg 315 1))) ∧ h' = zN sg) 0 [(0, .ref 315)] [] (zN sg) := lLoo_unlikeStyles_315 hn0 hn (fun _ _ q => q)
theorem lLoo_longestRun_315 {sg : zSig}  (hn0 : 0 ≤ sg 315 1) (hn : sg 315 1 ≤ 200) {Q : Option Value → zHp → Prop} (hq : ∀ rr h', (∃ v, rr = some (.int v) ∧ h' = zN sg ∧ ((∃ i, 0 ≤ i ∧ i < sg 315 1 ∧ v = zit (rN (sg 316)) (-1) (i + 1) ∧ (zit (rL (sg 316)) (0, 0) (i + 1)).2 = (zit (rL (sg 316)) (0, 0) (sg 315 1)).1 ∧ ∀ j, 0 ≤ j → j < i → (zit (rL (sg 316)) (0, 0) (j + 1)).2 ≠ (zit (rL (sg 316)) (0, 0) (sg 315 1)).1) ∨ (v = -1 ∧ ∀ j, 0 ≤ j → j < sg 315 1 → (zit (rL (sg 316)) (0, 0) (j + 1)).2 ≠ (zit (rL (sg 316)) (0, 0) (sg 315 1)).1))) → Q rr h') : zG mLoo_longestRun 411 Q 0 [(0, .ref 315)] [] (zN sg) := by
  refine zG_run bkLoo_longestRun_0 (lv' := [(0, .ref 315)]) (st' := [.ref 315]) (h' := zN sg) (Ps := []) rfl trivial ?_
  refine zG_callv (a := 315) (c := 3) (As := []) (rest := []) (N2 := 411) bdLoo_longestRun_1 okLoo_longestLength lk3_88 (And.intro (by decide) (by decide)) (by decide) rfl rfl rfl (Nat.le_of_ble_eq_true rfl) (Nat.le_of_ble_eq_true rfl) (Nat.le_refl 411) (Nat.le_refl 411) zob_315 (cLoo_longestLength_315 (by grind) (by grind)) ?_
  rintro rr h' ⟨rfl, rfl⟩ -
  refine zG_run bkLoo_longestRun_4 (lv' := [(4, .int 0), (3, .int 0), (2, .int (-1)), (1, .int ((zit (rL (sg 316)) (0, 0) (sg 315 1)).1)), (0, .ref 315)]) (st' := []) (h' := zN sg) (Ps := []) rfl trivial ?_
  refine zG_pick (lv' := [(0, .ref 315), (1, .int ((zit (rL (sg 316)) (0, 0) (sg 315 1)).1)), (2, .int (-1)), (3, .int 0), (4, .int 0)]) [4, 3, 2, 1, 0] rfl ?_
  refine zlp3 (fun (n : Int32) (le : Int32) (i : Int32) => zG mLoo_longestRun 411 Q 12 [(0, .ref 315), (1, .int ((zit (rL (sg 316)) (0, 0) (sg 315 1)).1)), (2, .int n), (3, .int le), (4, .int i)] [] (zN sg)) (fun (n : Int32) (le : Int32) (i : Int32) => (0 ≤ i) ∧ (i ≤ sg 315 1) ∧ (n = zit (rN (sg 316)) (-1) i) ∧ (le = (zit (rL (sg 316)) (0, 0) i).2) ∧ (∀ j, 0 ≤ j → j < i → (zit (rL (sg 316)) (0, 0) (j + 1)).2 ≠ (zit (rL (sg 316)) (0, 0) (sg 315 1)).1)) (fun (n : Int32) (le : Int32) (i : Int32) => zmu (sg 315 1) i) ?_ (-1) 0 0 ?_
  · intro n le i hI ih
    obtain ⟨h0, h1, h2, h3, h4⟩ := hI
    refine zb_icge (tgt := 68) bkLoo_longestRun_12 bdLoo_longestRun_18 (by decide) (lv' := [(0, .ref 315), (1, .int ((zit (rL (sg 316)) (0, 0) (sg 315 1)).1)), (2, .int n), (3, .int le), (4, .int i)]) (st' := []) (h' := zN sg) (x := i) (y := sg 315 1) (Ps := [zOb (zN sg) 315 3]) rfl (zA zob_315 trivial) (fun c1 => ?_) (fun c1 => ?_)
    · skip
      refine zb_iret bkLoo_longestRun_68 bdLoo_longestRun_69 rfl (x := (-1)) (h' := zN sg) (Ps := []) rfl trivial rfl ?_
      refine hq _ _ ?_
      exact ⟨_, rfl, rfl, Or.inr ⟨rfl, fun j h5 h6 => h4 j h5 (by grind)⟩⟩
    · skip
      refine zG_run bkLoo_longestRun_21 (lv' := [(0, .ref 315), (1, .int ((zit (rL (sg 316)) (0, 0) (sg 315 1)).1)), (2, .int n), (3, .int le), (4, .int i)]) (st' := [.int i, .ref 315]) (h' := zN sg) (Ps := []) rfl trivial ?_
      refine zG_callv (a := 315) (c := 3) (As := [.int i]) (rest := []) (N2 := 411) bdLoo_longestRun_24 okLoo_beginsRun lk3_84 (And.intro (by decide) (by decide)) (by decide) rfl rfl rfl (Nat.le_of_ble_eq_true rfl) (Nat.le_of_ble_eq_true rfl) (Nat.le_refl 411) (Nat.le_refl 411) zob_315 (cLoo_beginsRun_315 (by grind) (by grind)) ?_
      rintro rr h' ⟨rfl, rfl⟩ -
      refine zb_ifeq (tgt := 40) bkLoo_longestRun_27 bdLoo_longestRun_31 (by decide) (lv' := [(5, .int (bg (sg 316) i)), (0, .ref 315), (1, .int ((zit (rL (sg 316)) (0, 0) (sg 315 1)).1)), (2, .int n), (3, .int le), (4, .int i)]) (st' := []) (h' := zN sg) (x := bg (sg 316) i) (Ps := []) rfl trivial (fun c2 => ?_) (fun c2 => ?_)
      · skip
        refine zb_ifeq (tgt := 51) bkLoo_longestRun_40 bdLoo_longestRun_44 (by decide) (lv' := [(2, .int n), (5, .int (bg (sg 316) i)), (0, .ref 315), (1, .int ((zit (rL (sg 316)) (0, 0) (sg 315 1)).1)), (3, .int le), (4, .int i)]) (st' := []) (h' := zN sg) (x := bg (sg 316) i) (Ps := []) rfl trivial (fun c3 => ?_) (fun c3 => ?_)
        · skip
          refine zb_icne (tgt := 62) bkLoo_longestRun_51 bdLoo_longestRun_57 (by decide) (lv' := [(3, .int (le + 1)), (2, .int n), (5, .int (bg (sg 316) i)), (0, .ref 315), (1, .int ((zit (rL (sg 316)) (0, 0) (sg 315 1)).1)), (4, .int i)]) (st' := []) (h' := zN sg) (x := le + 1) (y := (zit (rL (sg 316)) (0, 0) (sg 315 1)).1) (Ps := []) rfl trivial (fun c4 => ?_) (fun c4 => ?_)
          · skip
            refine zG_run bkLoo_longestRun_62 (lv' := [(4, .int (i + 1)), (3, .int (le + 1)), (2, .int n), (5, .int (bg (sg 316) i)), (0, .ref 315), (1, .int ((zit (rL (sg 316)) (0, 0) (sg 315 1)).1))]) (st' := []) (h' := zN sg) (Ps := []) rfl trivial ?_
            refine zG_pick (lv' := [(0, .ref 315), (1, .int ((zit (rL (sg 316)) (0, 0) (sg 315 1)).1)), (2, .int n), (3, .int (le + 1)), (4, .int (i + 1))]) [4, 5, 2, 1, 0] rfl ?_
            refine ih n (le + 1) (i + 1) ?_ ?_
            · refine ⟨?_, ?_, ?_, ?_, ?_⟩
              · grind
              · grind
              · rw [zit_s _ _ h0 (by grind : i < sg 315 1)]; grind [rN]
              · rw [zit_s _ _ h0 (by grind : i < sg 315 1)]; simp only [rL]; grind
              · intro j hj0 hj1; by_cases hj : j = i; · subst hj; rw [zit_s _ _ h0 (by grind : j < sg 315 1)]; simp only [rL]; grind
                exact h4 j hj0 (by grind)
            · exact zmu_up (by grind)
          · skip
            refine zb_iret bkLoo_longestRun_60 bdLoo_longestRun_61 rfl (x := n) (h' := zN sg) (Ps := []) rfl trivial rfl ?_
            refine hq _ _ ?_
            exact ⟨_, rfl, rfl, Or.inl ⟨i, h0, by grind, by rw [zit_s _ _ h0 (by grind : i < sg 315 1)]; grind [rN], by rw [zit_s _ _ h0 (by grind : i < sg 315 1)]; simp only [rL]; grind, h4⟩⟩
        · skip
          refine zb_icne (tgt := 62) bkLoo_longestRun_47 bdLoo_longestRun_57 (by decide) (lv' := [(3, .int 1), (2, .int n), (5, .int (bg (sg 316) i)), (0, .ref 315), (1, .int ((zit (rL (sg 316)) (0, 0) (sg 315 1)).1)), (4, .int i)]) (st' := []) (h' := zN sg) (x := 1) (y := (zit (rL (sg 316)) (0, 0) (sg 315 1)).1) (Ps := []) rfl trivial (fun c5 => ?_) (fun c5 => ?_)
          · skip
            refine zG_run bkLoo_longestRun_62 (lv' := [(4, .int (i + 1)), (3, .int 1), (2, .int n), (5, .int (bg (sg 316) i)), (0, .ref 315), (1, .int ((zit (rL (sg 316)) (0, 0) (sg 315 1)).1))]) (st' := []) (h' := zN sg) (Ps := []) rfl trivial ?_
            refine zG_pick (lv' := [(0, .ref 315), (1, .int ((zit (rL (sg 316)) (0, 0) (sg 315 1)).1)), (2, .int n), (3, .int 1), (4, .int (i + 1))]) [4, 5, 2, 1, 0] rfl ?_
            refine ih n 1 (i + 1) ?_ ?_
            · refine ⟨?_, ?_, ?_, ?_, ?_⟩
              · grind
              · grind
              · rw [zit_s _ _ h0 (by grind : i < sg 315 1)]; grind [rN]
              · rw [zit_s _ _ h0 (by grind : i < sg 315 1)]; simp only [rL]; grind
              · intro j hj0 hj1; by_cases hj : j = i; · subst hj; rw [zit_s _ _ h0 (by grind : j < sg 315 1)]; simp only [rL]; grind
                exact h4 j hj0 (by grind)
            · exact zmu_up (by grind)
          · skip
            refine zb_iret bkLoo_longestRun_60 bdLoo_longestRun_61 rfl (x := n) (h' := zN sg) (Ps := []) rfl trivial rfl ?_
            refine hq _ _ ?_
            exact ⟨_, rfl, rfl, Or.inl ⟨i, h0, by grind, by rw [zit_s _ _ h0 (by grind : i < sg 315 1)]; grind [rN], by rw [zit_s _ _ h0 (by grind : i < sg 315 1)]; simp only [rL]; grind, h4⟩⟩
      · skip
        refine zb_ifeq (tgt := 51) bkLoo_longestRun_34 bdLoo_longestRun_44 (by decide) (lv' := [(2, .int (n + 1)), (5, .int (bg (sg 316) i)), (0, .ref 315), (1, .int ((zit (rL (sg 316)) (0, 0) (sg 315 1)).1)), (3, .int le), (4, .int i)]) (st' := []) (h' := zN sg) (x := bg (sg 316) i) (Ps := []) rfl trivial (fun c6 => ?_) (fun c6 => ?_)
        · skip
          refine zb_icne (tgt := 62) bkLoo_longestRun_51 bdLoo_longestRun_57 (by decide) (lv' := [(3, .int (le + 1)), (2, .int (n + 1)), (5, .int (bg (sg 316) i)), (0, .ref 315), (1, .int ((zit (rL (sg 316)) (0, 0) (sg 315 1)).1)), (4, .int i)]) (st' := []) (h' := zN sg) (x := le + 1) (y := (zit (rL (sg 316)) (0, 0) (sg 315 1)).1) (Ps := []) rfl trivial (fun c7 => ?_) (fun c7 => ?_)
          · skip
            refine zG_run bkLoo_longestRun_62 (lv' := [(4, .int (i + 1)), (3, .int (le + 1)), (2, .int (n + 1)), (5, .int (bg (sg 316) i)), (0, .ref 315), (1, .int ((zit (rL (sg 316)) (0, 0) (sg 315 1)).1))]) (st' := []) (h' := zN sg) (Ps := []) rfl trivial ?_
            refine zG_pick (lv' := [(0, .ref 315), (1, .int ((zit (rL (sg 316)) (0, 0) (sg 315 1)).1)), (2, .int (n + 1)), (3, .int (le + 1)), (4, .int (i + 1))]) [4, 5, 2, 1, 0] rfl ?_
            refine ih (n + 1) (le + 1) (i + 1) ?_ ?_
            · refine ⟨?_, ?_, ?_, ?_, ?_⟩
              · grind
              · grind
              · rw [zit_s _ _ h0 (by grind : i < sg 315 1)]; grind [rN]
              · rw [zit_s _ _ h0 (by grind : i < sg 315 1)]; simp only [rL]; grind
              · intro j hj0 hj1; by_cases hj : j = i; · subst hj; rw [zit_s _ _ h0 (by grind : j < sg 315 1)]; simp only [rL]; grind
                exact h4 j hj0 (by grind)
            · exact zmu_up (by grind)
          · skip
            refine zb_iret bkLoo_longestRun_60 bdLoo_longestRun_61 rfl (x := n + 1) (h' := zN sg) (Ps := []) rfl trivial rfl ?_
            refine hq _ _ ?_
            exact ⟨_, rfl, rfl, Or.inl ⟨i, h0, by grind, by rw [zit_s _ _ h0 (by grind : i < sg 315 1)]; grind [rN], by rw [zit_s _ _ h0 (by grind : i < sg 315 1)]; simp only [rL]; grind, h4⟩⟩
        · skip
          refine zb_icne (tgt := 62) bkLoo_longestRun_47 bdLoo_longestRun_57 (by decide) (lv' := [(3, .int 1), (2, .int (n + 1)), (5, .int (bg (sg 316) i)), (0, .ref 315), (1, .int ((zit (rL (sg 316)) (0, 0) (sg 315 1)).1)), (4, .int i)]) (st' := []) (h' := zN sg) (x := 1) (y := (zit (rL (sg 316)) (0, 0) (sg 315 1)).1) (Ps := []) rfl trivial (fun c8 => ?_) (fun c8 => ?_)
          · skip
            refine zG_run bkLoo_longestRun_62 (lv' := [(4, .int (i + 1)), (3, .int 1), (2, .int (n + 1)), (5, .int (bg (sg 316) i)), (0, .ref 315), (1, .int ((zit (rL (sg 316)) (0, 0) (sg 315 1)).1))]) (st' := []) (h' := zN sg) (Ps := []) rfl trivial ?_
            refine zG_pick (lv' := [(0, .ref 315), (1, .int ((zit (rL (sg 316)) (0, 0) (sg 315 1)).1)), (2, .int (n + 1)), (3, .int 1), (4, .int (i + 1))]) [4, 5, 2, 1, 0] rfl ?_
            refine ih (n + 1) 1 (i + 1) ?_ ?_
            · refine ⟨?_, ?_, ?_, ?_, ?_⟩
              · grind
              · grind
              · rw [zit_s _ _ h0 (by grind : i < sg 315 1)]; grind [rN]
              · rw [zit_s _ _ h0 (by grind : i < sg 315 1)]; simp only [rL]; grind
              · intro j hj0 hj1; by_cases hj : j = i; · subst hj; rw [zit_s _ _ h0 (by grind : j < sg 315 1)]; simp only [rL]; grind
                exact h4 j hj0 (by grind)
            · exact zmu_up (by grind)
          · skip
            refine zb_iret bkLoo_longestRun_60 bdLoo_longestRun_61 rfl (x := n + 1) (h' := zN sg) (Ps := []) rfl trivial rfl ?_
            refine hq _ _ ?_
            exact ⟨_, rfl, rfl, Or.inl ⟨i, h0, by grind, by rw [zit_s _ _ h0 (by grind : i < sg 315 1)]; grind [rN], by rw [zit_s _ _ h0 (by grind : i < sg 315 1)]; simp only [rL]; grind, h4⟩⟩
  · refine ⟨?_, ?_, ?_, ?_, ?_⟩
    · grind
    · grind
    · rfl
    · rfl
    · grind
theorem cLoo_longestRun_315 {sg : zSig}  (hn0 : 0 ≤ sg 315 1) (hn : sg 315 1 ≤ 200) : zG mLoo_longestRun 411 (fun rr h' => ∃ v, rr = some (.int v) ∧ h' = zN sg ∧ ((∃ i, 0 ≤ i ∧ i < sg 315 1 ∧ v = zit (rN (sg 316)) (-1) (i + 1) ∧ (zit (rL (sg 316)) (0, 0) (i + 1)).2 = (zit (rL (sg 316)) (0, 0) (sg 315 1)).1 ∧ ∀ j, 0 ≤ j → j < i → (zit (rL (sg 316)) (0, 0) (j + 1)).2 ≠ (zit (rL (sg 316)) (0, 0) (sg 315 1)).1) ∨ (v = -1 ∧ ∀ j, 0 ≤ j → j < sg 315 1 → (zit (rL (sg 316)) (0, 0) (j + 1)).2 ≠ (zit (rL (sg 316)) (0, 0) (sg 315 1)).1))) 0 [(0, .ref 315)] [] (zN sg) := lLoo_longestRun_315 hn0 hn (fun _ _ q => q)
theorem lLoo_brush_315 {sg : zSig} {s : Nat} (ho : zOb (zN sg) s 6) (hn0 : 0 ≤ sg 315 1) (hn : sg 315 1 ≤ 200) {Q : Option Value → zHp → Prop} (hq : ∀ rr h', (∃ sg', rr = none ∧ h' = zN sg' ∧ (∀ c j, c ≠ 316 → sg' c j = sg c j) ∧ ∀ j, 0 ≤ j → j < sg 315 1 → sg' 316 j = if sg s 1 ≤ j ∧ j < sg s 2 then fBr (sg 316 j) (sg s 4) (sg s 5) (sg s 6) (sg s 7) else sg 316 j) → Q rr h') : zG mLoo_brush 411 Q 0 [(0, .ref 315), (1, .ref s)] [] (zN sg) := by
  have hs : s ≠ 316 := by intro q; have := ho.2; rw [q] at this; exact absurd this (by decide)
  refine zG_run bkLoo_brush_0 (lv' := [(0, .ref 315), (1, .ref s)]) (st' := [.int (sg 315 1), .int (sg s 2)]) (h' := zN sg) (Ps := [zOb (zN sg) s 6, zOb (zN sg) 315 3]) rfl (zA ho (zA zob_315 trivial)) ?_
  refine zG_calls (As := [.int (sg s 2), .int (sg 315 1)]) (rest := []) (N2 := 411) bdLoo_brush_8 okMa_min lk3_54 (And.intro (by decide) (by decide)) rfl rfl (Nat.le_of_ble_eq_true rfl) (Nat.le_of_ble_eq_true rfl) (Nat.le_refl 411) (Nat.le_refl 411) cMa_min ?_
  rintro rr h' ⟨rfl, rfl⟩ -
  refine zG_run bkLoo_brush_11 (lv' := [(2, .int (fMin (sg s 2) (sg 315 1))), (0, .ref 315), (1, .ref s)]) (st' := [.int 0, .int (sg s 1)]) (h' := zN sg) (Ps := [zOb (zN sg) s 6]) rfl (zA ho trivial) ?_
  refine zG_calls (As := [.int (sg s 1), .int 0]) (rest := []) (N2 := 411) bdLoo_brush_17 okMa_max lk3_63 (And.intro (by decide) (by decide)) rfl rfl (Nat.le_of_ble_eq_true rfl) (Nat.le_of_ble_eq_true rfl) (Nat.le_refl 411) (Nat.le_refl 411) cMa_max ?_
  rintro rr h' ⟨rfl, rfl⟩ -
  refine zG_run bkLoo_brush_20 (lv' := [(3, .int (fMax (sg s 1) 0)), (2, .int (fMin (sg s 2) (sg 315 1))), (0, .ref 315), (1, .ref s)]) (st' := []) (h' := zN sg) (Ps := []) rfl trivial ?_
  refine zG_pick (lv' := [(0, .ref 315), (1, .ref s), (2, .int (fMin (sg s 2) (sg 315 1))), (3, .int (fMax (sg s 1) 0))]) [2, 3, 1, 0] rfl ?_
  refine zlp2 (fun (i : Int32) (sg1 : zSig) => zG mLoo_brush 411 Q 21 [(0, .ref 315), (1, .ref s), (2, .int (fMin (sg s 2) (sg 315 1))), (3, .int i)] [] (zN sg1)) (fun (i : Int32) (sg1 : zSig) => (fMax (sg s 1) 0 ≤ i) ∧ (∀ c j, c ≠ 316 → sg1 c j = sg c j) ∧ (∀ j, 0 ≤ j → j < sg 315 1 → sg1 316 j = if sg s 1 ≤ j ∧ j < sg s 2 ∧ j < i then fBr (sg 316 j) (sg s 4) (sg s 5) (sg s 6) (sg s 7) else sg 316 j)) (fun (i : Int32) (sg1 : zSig) => zmu (fMin (sg s 2) (sg 315 1)) i) ?_ (fMax (sg s 1) 0) sg ?_
  · intro i sg1 hI ih
    obtain ⟨h0, hf, h2⟩ := hI
    refine zb_icge (tgt := 63) bkLoo_brush_21 bdLoo_brush_23 (by decide) (lv' := [(0, .ref 315), (1, .ref s), (2, .int (fMin (sg s 2) (sg 315 1))), (3, .int i)]) (st' := []) (h' := zN sg1) (x := i) (y := fMin (sg s 2) (sg 315 1)) (Ps := []) rfl trivial (fun c1 => ?_) (fun c1 => ?_)
    · skip
      refine zb_vret bkLoo_brush_63 bdLoo_brush_63 rfl (h' := zN sg1) (Ps := []) rfl trivial rfl ?_
      refine hq _ _ ?_
      exact ⟨sg1, rfl, rfl, hf, fun j h5 h6 => by have h3 := h2 j h5 h6; grind [fMax, fMin]⟩
    · skip
      refine zG_run bkLoo_brush_26 (lv' := [(0, .ref 315), (1, .ref s), (2, .int (fMin (sg s 2) (sg 315 1))), (3, .int i)]) (st' := [.int (sg1 s 7), .int (sg1 s 6), .int (sg1 s 5), .int (sg1 s 4), .int (sg1 316 i), .int i, .ref 316]) (h' := zN sg1) (Ps := [zOb (zN sg1) 315 3 ∧ (zN sg1).2.2 315 0 = true, zOb (zN sg1) 315 3 ∧ (zN sg1).2.2 315 0 = true, zInL (zN sg1) 316 i, zOb (zN sg1) s 6, zOb (zN sg1) s 6, zOb (zN sg1) s 6, zOb (zN sg1) s 6]) rfl (zA ⟨zob_315, rfl⟩ (zA ⟨zob_315, rfl⟩ (zA (zinL_316 (i := i) (by grind [fMax, fMin]) (by grind [fMax, fMin])) (zA ho (zA ho (zA ho (zA ho trivial))))))) ?_
      refine zG_calls (As := [.int (sg1 316 i), .int (sg1 s 4), .int (sg1 s 5), .int (sg1 s 6), .int (sg1 s 7)]) (rest := [.int i, .ref 316]) (N2 := 411) bdLoo_brush_53 okSty_brushed lk3_78 (And.intro (by decide) (by decide)) rfl rfl (Nat.le_of_ble_eq_true rfl) (Nat.le_of_ble_eq_true rfl) (Nat.le_refl 411) (Nat.le_refl 411) cSty_brushed ?_
      rintro rr h' ⟨rfl, rfl⟩ -
      refine zG_run bkLoo_brush_56 (lv' := [(3, .int (i + 1)), (0, .ref 315), (1, .ref s), (2, .int (fMin (sg s 2) (sg 315 1)))]) (st' := []) (h' := zN (zup sg1 316 i (fBr (sg1 316 i) (sg1 s 4) (sg1 s 5) (sg1 s 6) (sg1 s 7)))) (Ps := [zIn (zN sg1) 316 0 i]) rfl (zA (zin_316 (i := i) (by grind [fMax, fMin]) (by grind [fMax, fMin])) trivial) ?_
      refine zG_pick (lv' := [(0, .ref 315), (1, .ref s), (2, .int (fMin (sg s 2) (sg 315 1))), (3, .int (i + 1))]) [1, 2, 3, 0] rfl ?_
      refine ih (i + 1) (zup sg1 316 i (fBr (sg1 316 i) (sg1 s 4) (sg1 s 5) (sg1 s 6) (sg1 s 7))) ?_ ?_
      · refine ⟨?_, ?_, ?_⟩
        · grind
        · intro c j hc; rw [zup_a hc]; exact hf c j hc
        · intro j hj0 hj1; rw [zup_e]; have h3 := h2 j hj0 hj1; have f4 := hf s 4 hs; have f5 := hf s 5 hs; have f6 := hf s 6 hs; have f7 := hf s 7 hs; grind [fMax, fMin]
      · exact zmu_up (by grind)
  · refine ⟨?_, ?_, ?_⟩
    · grind
    · intro c j _; rfl
    · grind [fMax]
theorem cLoo_brush_315 {sg : zSig} {s : Nat} (ho : zOb (zN sg) s 6) (hn0 : 0 ≤ sg 315 1) (hn : sg 315 1 ≤ 200) : zG mLoo_brush 411 (fun rr h' => ∃ sg', rr = none ∧ h' = zN sg' ∧ (∀ c j, c ≠ 316 → sg' c j = sg c j) ∧ ∀ j, 0 ≤ j → j < sg 315 1 → sg' 316 j = if sg s 1 ≤ j ∧ j < sg s 2 then fBr (sg 316 j) (sg s 4) (sg s 5) (sg s 6) (sg s 7) else sg 316 j) 0 [(0, .ref 315), (1, .ref s)] [] (zN sg) := lLoo_brush_315 ho hn0 hn (fun _ _ q => q)
end
section
/-! Looks.see, isLike: printed by wip/whole/p17.py -/
theorem bkLoo_see_0 : zBk mLoo_see 0 [(1, 0, 1, 0, 0), (1, 1, 1, 0, 0), (5, 5, 2, 0, 2), (6, 3, 1, 0, 1)] = some 8 := by decide +kernel
theorem bkLoo_see_8 : zBk mLoo_see 8 [(1, 1, 1, 0, 0), (5, 5, 1, 2, 1), (0, 0, 0, 0, 0), (1, 0, 1, 0, 0), (5, 3, 0, 1, 0), (0, 0, 0, 0, 0), (1, 0, 1, 0, 0), (5, 3, 1, 0, 1)] = some 22 := by decide +kernel
theorem bkLoo_see_25 : zBk mLoo_see 25 [(0, 0, 0, 0, 0), (2, 5, 0, 0, 0)] = some 28 := by decide +kernel
theorem bkLoo_see_28 : zBk mLoo_see 28 [(1, 5, 0, 0, 0), (0, 0, 0, 0, 10)] = some 32 := by decide +kernel
theorem bkLoo_see_113 : zBk mLoo_see 113 [] = some 113 := by decide +kernel
theorem bkLoo_see_35 : zBk mLoo_see 35 [(0, 0, 0, 0, 0), (2, 6, 0, 0, 0)] = some 38 := by decide +kernel
theorem bkLoo_see_38 : zBk mLoo_see 38 [(1, 6, 0, 0, 0), (1, 1, 1, 0, 0), (5, 5, 4, 0, 4)] = some 44 := by decide +kernel
theorem bkLoo_see_107 : zBk mLoo_see 107 [(3, 5, 0, 0, 1), (22, 28, 0, 0, 0)] = some 28 := by decide +kernel
theorem bkLoo_see_47 : zBk mLoo_see 47 [(1, 1, 1, 0, 0), (5, 5, 3, 3, 3), (1, 6, 0, 0, 0), (9, 0, 0, 0, 0), (2, 7, 1, 0, 0), (1, 6, 0, 0, 0), (1, 3, 0, 0, 0)] = some 59 := by decide +kernel
theorem bkLoo_see_67 : zBk mLoo_see 67 [(1, 7, 1, 0, 0), (5, 6, 3, 0, 3), (2, 8, 0, 0, 0), (1, 7, 1, 0, 0), (5, 6, 0, 0, 0)] = some 79 := by decide +kernel
theorem bkLoo_see_101 : zBk mLoo_see 101 [(3, 6, 0, 0, 1), (22, 38, 0, 0, 0)] = some 38 := by decide +kernel
theorem bkLoo_see_82 : zBk mLoo_see 82 [(1, 6, 0, 0, 0), (1, 2, 0, 0, 0)] = some 85 := by decide +kernel
theorem bkLoo_see_88 : zBk mLoo_see 88 [(1, 8, 0, 0, 0), (1, 5, 0, 0, 0)] = some 92 := by decide +kernel
theorem bkLoo_see_95 : zBk mLoo_see 95 [(1, 0, 1, 0, 0), (1, 7, 1, 0, 0)] = some 98 := by decide +kernel
theorem bkLoo_see_62 : zBk mLoo_see 62 [(1, 4, 0, 0, 0), (22, 72, 0, 0, 0), (2, 8, 0, 0, 0), (1, 7, 1, 0, 0), (5, 6, 0, 0, 0)] = some 79 := by decide +kernel
theorem bdLoo_see_22 : decode mLoo_see.2.2.1 22 = .ok (.invokestatic 25, 3) := by decide +kernel
theorem bdLoo_see_32 : decode mLoo_see.2.2.1 32 = .ok (.if_icmp .ge 81, 3) := by decide +kernel
theorem bdLoo_see_44 : decode mLoo_see.2.2.1 44 = .ok (.if_icmp .ge 63, 3) := by decide +kernel
theorem bdLoo_see_59 : decode mLoo_see.2.2.1 59 = .ok (.if_icmp .ne 8, 3) := by decide +kernel
theorem bdLoo_see_79 : decode mLoo_see.2.2.1 79 = .ok (.ifCond .eq 22, 3) := by decide +kernel
theorem bdLoo_see_85 : decode mLoo_see.2.2.1 85 = .ok (.if_icmp .eq 16, 3) := by decide +kernel
theorem bdLoo_see_92 : decode mLoo_see.2.2.1 92 = .ok (.if_icmp .ne 9, 3) := by decide +kernel
theorem bdLoo_see_98 : decode mLoo_see.2.2.1 98 = .ok (.invokevirtual 47, 3) := by decide +kernel
theorem bdLoo_see_113 : decode mLoo_see.2.2.1 113 = .ok (.return_, 1) := by decide +kernel
theorem lLoo_see_313 {sg : zSig} {wo mv mt : Int32} (hn0 : 0 ≤ sg 1 2) (hn : sg 1 2 ≤ 200) (hk0 : 0 ≤ sg 1 4) (hk : sg 1 4 ≤ 16) {Q : Option Value → zHp → Prop} (hq : ∀ rr h', (∃ sg', rr = none ∧ h' = zN sg' ∧ (∀ c j, c ≠ 313 → c ≠ 314 → sg' c j = sg c j) ∧ sg' 313 1 = sg 1 2 ∧ ∀ j, 0 ≤ j → j < sg 1 2 → sg' 314 j = cS sg wo mv mt j) → Q rr h') : zG mLoo_see 411 Q 0 [(0, .ref 313), (1, .ref 1), (2, .int wo), (3, .int mv), (4, .int mt)] [] (zN sg) := by
  refine zG_run bkLoo_see_0 (lv' := [(0, .ref 313), (1, .ref 1), (2, .int wo), (3, .int mv), (4, .int mt)]) (st' := []) (h' := zN (zup sg 313 1 (sg 1 2))) (Ps := [zOb (zN sg) 1 5, zOb (zN sg) 313 3]) rfl (zA zob_1 (zA zob_313 trivial)) ?_
  refine zG_nm (sg := zup sg 313 1 (sg 1 2)) (fun sg1 e1 => ?_)
  have a1 : sg1 313 1 = sg 1 2 := by rw [e1]; exact zup_s
  have f1 : ∀ c j, c ≠ 313 → sg1 c j = sg c j := fun c j h => by rw [e1]; exact zup_a h
  refine zG_run bkLoo_see_8 (lv' := [(0, .ref 313), (1, .ref 1), (2, .int wo), (3, .int mv), (4, .int mt)]) (st' := [.int (sg1 313 1), .int 0, .ref 314, .int 0, .ref 3]) (h' := zN sg1) (Ps := [zOb (zN sg1) 1 5 ∧ (zN sg1).2.2 1 1 = true, zOb (zN sg1) 313 3 ∧ (zN sg1).2.2 313 0 = true, zOb (zN sg1) 313 3]) rfl (zA ⟨zob_1, rfl⟩ (zA ⟨zob_313, rfl⟩ (zA zob_313 trivial))) ?_
  refine zs_acopy bdLoo_see_22 lk3_25 (And.intro (by decide) (by decide)) (Nat.le_of_ble_eq_true rfl) (zcp_3_314 (sp := 0) (dp := 0) (n := sg1 313 1) (by grind) (by grind) (by grind) (by grind) (by grind) (by grind) (by grind)) ?_
  refine zG_nm (sg := zcp sg1 3 314 0 0 (sg1 313 1)) (fun sg2 e2 => ?_)
  have f2 : ∀ c j, c ≠ 313 → c ≠ 314 → sg2 c j = sg c j := fun c j h1 h2 => by rw [e2, zcp_e, if_neg (fun q => h2 q.1)]; exact f1 c j h1
  have a2 : sg2 313 1 = sg 1 2 := by rw [e2, zcp_e, if_neg (fun q => absurd q.1 (by decide))]; exact a1
  have c2 : ∀ j, 0 ≤ j → j < sg 1 2 → sg2 314 j = sg 3 j := fun j h1 h2 => by rw [e2, zcp_e, if_pos ⟨rfl, h1, by rw [a1]; grind⟩, f1 3 _ (by decide)]; congr 1; grind
  refine zG_run bkLoo_see_25 (lv' := [(5, .int 0), (0, .ref 313), (1, .ref 1), (2, .int wo), (3, .int mv), (4, .int mt)]) (st' := []) (h' := zN sg2) (Ps := []) rfl trivial ?_
  refine zG_pick (lv' := [(0, .ref 313), (1, .ref 1), (2, .int wo), (3, .int mv), (4, .int mt), (5, .int 0)]) [1, 2, 3, 4, 5, 0] rfl ?_
  refine zlp2 (fun (lay : Int32) (sg3 : zSig) => zG mLoo_see 411 Q 28 [(0, .ref 313), (1, .ref 1), (2, .int wo), (3, .int mv), (4, .int mt), (5, .int lay)] [] (zN sg3)) (fun (lay : Int32) (sg3 : zSig) => (0 ≤ lay) ∧ (lay ≤ 10) ∧ (∀ c j, c ≠ 313 → c ≠ 314 → sg3 c j = sg c j) ∧ (sg3 313 1 = sg 1 2) ∧ (∀ j, 0 ≤ j → j < sg 1 2 → sg3 314 j = zit (cS2 sg wo mv mt j) (sg 3 j) lay)) (fun (lay : Int32) (sg3 : zSig) => zmu 10 lay) ?_ 0 sg2 ?_
  · intro lay sg3 ho iho
    obtain ⟨o0, o1, of, oa, oc⟩ := ho
    refine zb_icge (tgt := 113) bkLoo_see_28 bdLoo_see_32 (by decide) (lv' := [(0, .ref 313), (1, .ref 1), (2, .int wo), (3, .int mv), (4, .int mt), (5, .int lay)]) (st' := []) (h' := zN sg3) (x := lay) (y := 10) (Ps := []) rfl trivial (fun c1 => ?_) (fun c1 => ?_)
    · skip
      refine zb_vret bkLoo_see_113 bdLoo_see_113 rfl (h' := zN sg3) (Ps := []) rfl trivial rfl ?_
      refine hq _ _ ?_
      have e3 : lay = 10 := by grind
      exact ⟨sg3, rfl, rfl, of, oa, fun j h5 h6 => by rw [oc j h5 h6, e3]; rfl⟩
    · skip
      refine zG_run bkLoo_see_35 (lv' := [(6, .int 0), (0, .ref 313), (1, .ref 1), (2, .int wo), (3, .int mv), (4, .int mt), (5, .int lay)]) (st' := []) (h' := zN sg3) (Ps := []) rfl trivial ?_
      refine zG_pick (lv' := [(0, .ref 313), (1, .ref 1), (2, .int wo), (3, .int mv), (4, .int mt), (5, .int lay), (6, .int 0)]) [1, 2, 3, 4, 5, 6, 0] rfl ?_
      refine zlp2 (fun (k : Int32) (sg4 : zSig) => zG mLoo_see 411 Q 38 [(0, .ref 313), (1, .ref 1), (2, .int wo), (3, .int mv), (4, .int mt), (5, .int lay), (6, .int k)] [] (zN sg4)) (fun (k : Int32) (sg4 : zSig) => (0 ≤ k) ∧ (k ≤ sg 1 4) ∧ (∀ c j, c ≠ 313 → c ≠ 314 → sg4 c j = sg c j) ∧ (sg4 313 1 = sg 1 2) ∧ (∀ j, 0 ≤ j → j < sg 1 2 → sg4 314 j = zit (cS1 sg wo mv mt j lay) (zit (cS2 sg wo mv mt j) (sg 3 j) lay) k)) (fun (k : Int32) (sg4 : zSig) => zmu (sg 1 4) k) ?_ 0 sg3 ?_
      · intro k sg4 hk ihk
        obtain ⟨k0, k1, kf, ka, kc⟩ := hk
        have e14 := kf 1 4 (by decide) (by decide)
        refine zb_icge (tgt := 107) bkLoo_see_38 bdLoo_see_44 (by decide) (lv' := [(0, .ref 313), (1, .ref 1), (2, .int wo), (3, .int mv), (4, .int mt), (5, .int lay), (6, .int k)]) (st' := []) (h' := zN sg4) (x := k) (y := sg4 1 4) (Ps := [zOb (zN sg4) 1 5]) rfl (zA zob_1 trivial) (fun c2 => ?_) (fun c2 => ?_)
        · skip
          refine zG_run bkLoo_see_107 (lv' := [(5, .int (lay + 1)), (0, .ref 313), (1, .ref 1), (2, .int wo), (3, .int mv), (4, .int mt), (6, .int k)]) (st' := []) (h' := zN sg4) (Ps := []) rfl trivial ?_
          refine zG_pick (lv' := [(0, .ref 313), (1, .ref 1), (2, .int wo), (3, .int mv), (4, .int mt), (5, .int (lay + 1))]) [1, 2, 3, 4, 5, 0] rfl ?_
          refine iho (lay + 1) sg4 ?_ ?_
          · refine ⟨?_, ?_, ?_, ?_, ?_⟩
            · grind
            · grind
            · exact kf
            · exact ka
            · intro j hj0 hj1; rw [zit_s _ _ o0 (by grind : lay < 10)]; have e1 := kc j hj0 hj1; have e2 : k = sg 1 4 := by grind
              rw [e1, e2]; rfl
          · exact zmu_up (by grind)
        · skip
          have hz := zel4_rng (i := k) k0 (by grind)
          refine zb_icne (tgt := 67) bkLoo_see_47 bdLoo_see_59 (by decide) (lv' := [(7, .ref (zel 4 k)), (0, .ref 313), (1, .ref 1), (2, .int wo), (3, .int mv), (4, .int mt), (5, .int lay), (6, .int k)]) (st' := []) (h' := zN sg4) (x := k) (y := mv) (Ps := [zOb (zN sg4) 1 5 ∧ (zN sg4).2.2 1 3 = true, zInR (zN sg4) 4 k]) rfl (zA ⟨zob_1, rfl⟩ (zA (zinR_4 (i := k) (by grind) (by grind)) trivial)) (fun c3 => ?_) (fun c3 => ?_)
          · skip
            refine zb_ifeq (tgt := 101) bkLoo_see_67 bdLoo_see_79 (by decide) (lv' := [(8, .int (sg4 (zel 4 k) 3)), (7, .ref (zel 4 k)), (0, .ref 313), (1, .ref 1), (2, .int wo), (3, .int mv), (4, .int mt), (5, .int lay), (6, .int k)]) (st' := []) (h' := zN sg4) (x := sg4 (zel 4 k) 0) (Ps := [zOb (zN sg4) (zel 4 k) 6, zOb (zN sg4) (zel 4 k) 6]) rfl (zA (zel_ob4 (i := k) (by grind) (by grind)) (zA (zel_ob4 (i := k) (by grind) (by grind)) trivial)) (fun c4 => ?_) (fun c4 => ?_)
            · skip
              refine zG_run bkLoo_see_101 (lv' := [(6, .int (k + 1)), (8, .int (sg4 (zel 4 k) 3)), (7, .ref (zel 4 k)), (0, .ref 313), (1, .ref 1), (2, .int wo), (3, .int mv), (4, .int mt), (5, .int lay)]) (st' := []) (h' := zN sg4) (Ps := []) rfl trivial ?_
              refine zG_pick (lv' := [(0, .ref 313), (1, .ref 1), (2, .int wo), (3, .int mv), (4, .int mt), (5, .int lay), (6, .int (k + 1))]) [3, 4, 5, 6, 7, 8, 0] rfl ?_
              refine ihk (k + 1) sg4 ?_ ?_
              · refine ⟨?_, ?_, ?_, ?_, ?_⟩
                · grind
                · grind
                · intro c j h1 h2; exact kf c j h1 h2
                · exact ka
                · intro j hj0 hj1; rw [zit_s _ _ k0 (by grind : k < sg 1 4)]; have e1 := kc j hj0 hj1
                  have e3 := kf (zel 4 k) 0 (by omega) (by omega); have e4 := kf (zel 4 k) 1 (by omega) (by omega); have e5 := kf (zel 4 k) 2 (by omega) (by omega); have e6 := kf (zel 4 k) 3 (by omega) (by omega)
                  have e7 := kf (zel 4 k) 4 (by omega) (by omega); have e8 := kf (zel 4 k) 5 (by omega) (by omega); have e9 := kf (zel 4 k) 6 (by omega) (by omega); have e10 := kf (zel 4 k) 7 (by omega) (by omega)
                  simp only [cS1]; grind
              · exact zmu_up (by grind)
            · skip
              refine zb_iceq (tgt := 101) bkLoo_see_82 bdLoo_see_85 (by decide) (lv' := [(8, .int (sg4 (zel 4 k) 3)), (7, .ref (zel 4 k)), (0, .ref 313), (1, .ref 1), (2, .int wo), (3, .int mv), (4, .int mt), (5, .int lay), (6, .int k)]) (st' := []) (h' := zN sg4) (x := k) (y := wo) (Ps := []) rfl trivial (fun c5 => ?_) (fun c5 => ?_)
              · skip
                refine zG_run bkLoo_see_101 (lv' := [(6, .int (k + 1)), (8, .int (sg4 (zel 4 k) 3)), (7, .ref (zel 4 k)), (0, .ref 313), (1, .ref 1), (2, .int wo), (3, .int mv), (4, .int mt), (5, .int lay)]) (st' := []) (h' := zN sg4) (Ps := []) rfl trivial ?_
                refine zG_pick (lv' := [(0, .ref 313), (1, .ref 1), (2, .int wo), (3, .int mv), (4, .int mt), (5, .int lay), (6, .int (k + 1))]) [3, 4, 5, 6, 7, 8, 0] rfl ?_
                refine ihk (k + 1) sg4 ?_ ?_
                · refine ⟨?_, ?_, ?_, ?_, ?_⟩
                  · grind
                  · grind
                  · intro c j h1 h2; exact kf c j h1 h2
                  · exact ka
                  · intro j hj0 hj1; rw [zit_s _ _ k0 (by grind : k < sg 1 4)]; have e1 := kc j hj0 hj1
                    have e3 := kf (zel 4 k) 0 (by omega) (by omega); have e4 := kf (zel 4 k) 1 (by omega) (by omega); have e5 := kf (zel 4 k) 2 (by omega) (by omega); have e6 := kf (zel 4 k) 3 (by omega) (by omega)
                    have e7 := kf (zel 4 k) 4 (by omega) (by omega); have e8 := kf (zel 4 k) 5 (by omega) (by omega); have e9 := kf (zel 4 k) 6 (by omega) (by omega); have e10 := kf (zel 4 k) 7 (by omega) (by omega)
                    simp only [cS1]; grind
                · exact zmu_up (by grind)
              · skip
                refine zb_icne (tgt := 101) bkLoo_see_88 bdLoo_see_92 (by decide) (lv' := [(8, .int (sg4 (zel 4 k) 3)), (7, .ref (zel 4 k)), (0, .ref 313), (1, .ref 1), (2, .int wo), (3, .int mv), (4, .int mt), (5, .int lay), (6, .int k)]) (st' := []) (h' := zN sg4) (x := sg4 (zel 4 k) 3) (y := lay) (Ps := []) rfl trivial (fun c6 => ?_) (fun c6 => ?_)
                · skip
                  refine zG_run bkLoo_see_101 (lv' := [(6, .int (k + 1)), (8, .int (sg4 (zel 4 k) 3)), (7, .ref (zel 4 k)), (0, .ref 313), (1, .ref 1), (2, .int wo), (3, .int mv), (4, .int mt), (5, .int lay)]) (st' := []) (h' := zN sg4) (Ps := []) rfl trivial ?_
                  refine zG_pick (lv' := [(0, .ref 313), (1, .ref 1), (2, .int wo), (3, .int mv), (4, .int mt), (5, .int lay), (6, .int (k + 1))]) [3, 4, 5, 6, 7, 8, 0] rfl ?_
                  refine ihk (k + 1) sg4 ?_ ?_
                  · refine ⟨?_, ?_, ?_, ?_, ?_⟩
                    · grind
                    · grind
                    · intro c j h1 h2; exact kf c j h1 h2
                    · exact ka
                    · intro j hj0 hj1; rw [zit_s _ _ k0 (by grind : k < sg 1 4)]; have e1 := kc j hj0 hj1
                      have e3 := kf (zel 4 k) 0 (by omega) (by omega); have e4 := kf (zel 4 k) 1 (by omega) (by omega); have e5 := kf (zel 4 k) 2 (by omega) (by omega); have e6 := kf (zel 4 k) 3 (by omega) (by omega)
                      have e7 := kf (zel 4 k) 4 (by omega) (by omega); have e8 := kf (zel 4 k) 5 (by omega) (by omega); have e9 := kf (zel 4 k) 6 (by omega) (by omega); have e10 := kf (zel 4 k) 7 (by omega) (by omega)
                      simp only [cS1]; grind
                  · exact zmu_up (by grind)
                · skip
                  refine zG_run bkLoo_see_95 (lv' := [(8, .int (sg4 (zel 4 k) 3)), (7, .ref (zel 4 k)), (0, .ref 313), (1, .ref 1), (2, .int wo), (3, .int mv), (4, .int mt), (5, .int lay), (6, .int k)]) (st' := [.ref (zel 4 k), .ref 313]) (h' := zN sg4) (Ps := []) rfl trivial ?_
                  refine zG_callv (a := 313) (c := 3) (As := [.ref (zel 4 k)]) (rest := []) (N2 := 411) bdLoo_see_98 okLoo_brush lk3_47 (And.intro (by decide) (by decide)) (by decide) rfl rfl rfl (Nat.le_of_ble_eq_true rfl) (Nat.le_of_ble_eq_true rfl) (Nat.le_refl 411) (Nat.le_refl 411) zob_313 (cLoo_brush_313 (zel_ob4 (i := k) (by grind) (by grind)) (by grind) (by grind)) ?_
                  rintro rr h' ⟨sg7, rfl, rfl, bf, bc⟩ -
                  refine zG_run bkLoo_see_101 (lv' := [(6, .int (k + 1)), (8, .int (sg4 (zel 4 k) 3)), (7, .ref (zel 4 k)), (0, .ref 313), (1, .ref 1), (2, .int wo), (3, .int mv), (4, .int mt), (5, .int lay)]) (st' := []) (h' := zN sg7) (Ps := []) rfl trivial ?_
                  refine zG_pick (lv' := [(0, .ref 313), (1, .ref 1), (2, .int wo), (3, .int mv), (4, .int mt), (5, .int lay), (6, .int (k + 1))]) [3, 4, 5, 6, 7, 8, 0] rfl ?_
                  refine ihk (k + 1) sg7 ?_ ?_
                  · refine ⟨?_, ?_, ?_, ?_, ?_⟩
                    · grind
                    · grind
                    · intro c j h1 h2; rw [bf c j h2]; exact kf c j h1 h2
                    · rw [bf 313 1 (by decide)]; exact ka
                    · intro j hj0 hj1; rw [zit_s _ _ k0 (by grind : k < sg 1 4)]; have e1 := kc j hj0 hj1; have e2 := bc j hj0 (by grind)
                      have e3 := kf (zel 4 k) 0 (by omega) (by omega); have e4 := kf (zel 4 k) 1 (by omega) (by omega); have e5 := kf (zel 4 k) 2 (by omega) (by omega); have e6 := kf (zel 4 k) 3 (by omega) (by omega)
                      have e7 := kf (zel 4 k) 4 (by omega) (by omega); have e8 := kf (zel 4 k) 5 (by omega) (by omega); have e9 := kf (zel 4 k) 6 (by omega) (by omega); have e10 := kf (zel 4 k) 7 (by omega) (by omega)
                      simp only [cS1]; grind
                  · exact zmu_up (by grind)
          · skip
            refine zb_ifeq (tgt := 101) bkLoo_see_62 bdLoo_see_79 (by decide) (lv' := [(8, .int mt), (7, .ref (zel 4 k)), (0, .ref 313), (1, .ref 1), (2, .int wo), (3, .int mv), (4, .int mt), (5, .int lay), (6, .int k)]) (st' := []) (h' := zN sg4) (x := sg4 (zel 4 k) 0) (Ps := [zOb (zN sg4) (zel 4 k) 6]) rfl (zA (zel_ob4 (i := k) (by grind) (by grind)) trivial) (fun c9 => ?_) (fun c9 => ?_)
            · skip
              refine zG_run bkLoo_see_101 (lv' := [(6, .int (k + 1)), (8, .int mt), (7, .ref (zel 4 k)), (0, .ref 313), (1, .ref 1), (2, .int wo), (3, .int mv), (4, .int mt), (5, .int lay)]) (st' := []) (h' := zN sg4) (Ps := []) rfl trivial ?_
              refine zG_pick (lv' := [(0, .ref 313), (1, .ref 1), (2, .int wo), (3, .int mv), (4, .int mt), (5, .int lay), (6, .int (k + 1))]) [3, 4, 5, 6, 7, 8, 0] rfl ?_
              refine ihk (k + 1) sg4 ?_ ?_
              · refine ⟨?_, ?_, ?_, ?_, ?_⟩
                · grind
                · grind
                · intro c j h1 h2; exact kf c j h1 h2
                · exact ka
                · intro j hj0 hj1; rw [zit_s _ _ k0 (by grind : k < sg 1 4)]; have e1 := kc j hj0 hj1
                  have e3 := kf (zel 4 k) 0 (by omega) (by omega); have e4 := kf (zel 4 k) 1 (by omega) (by omega); have e5 := kf (zel 4 k) 2 (by omega) (by omega); have e6 := kf (zel 4 k) 3 (by omega) (by omega)
                  have e7 := kf (zel 4 k) 4 (by omega) (by omega); have e8 := kf (zel 4 k) 5 (by omega) (by omega); have e9 := kf (zel 4 k) 6 (by omega) (by omega); have e10 := kf (zel 4 k) 7 (by omega) (by omega)
                  simp only [cS1]; grind
              · exact zmu_up (by grind)
            · skip
              refine zb_iceq (tgt := 101) bkLoo_see_82 bdLoo_see_85 (by decide) (lv' := [(8, .int mt), (7, .ref (zel 4 k)), (0, .ref 313), (1, .ref 1), (2, .int wo), (3, .int mv), (4, .int mt), (5, .int lay), (6, .int k)]) (st' := []) (h' := zN sg4) (x := k) (y := wo) (Ps := []) rfl trivial (fun c10 => ?_) (fun c10 => ?_)
              · skip
                refine zG_run bkLoo_see_101 (lv' := [(6, .int (k + 1)), (8, .int mt), (7, .ref (zel 4 k)), (0, .ref 313), (1, .ref 1), (2, .int wo), (3, .int mv), (4, .int mt), (5, .int lay)]) (st' := []) (h' := zN sg4) (Ps := []) rfl trivial ?_
                refine zG_pick (lv' := [(0, .ref 313), (1, .ref 1), (2, .int wo), (3, .int mv), (4, .int mt), (5, .int lay), (6, .int (k + 1))]) [3, 4, 5, 6, 7, 8, 0] rfl ?_
                refine ihk (k + 1) sg4 ?_ ?_
                · refine ⟨?_, ?_, ?_, ?_, ?_⟩
                  · grind
                  · grind
                  · intro c j h1 h2; exact kf c j h1 h2
                  · exact ka
                  · intro j hj0 hj1; rw [zit_s _ _ k0 (by grind : k < sg 1 4)]; have e1 := kc j hj0 hj1
                    have e3 := kf (zel 4 k) 0 (by omega) (by omega); have e4 := kf (zel 4 k) 1 (by omega) (by omega); have e5 := kf (zel 4 k) 2 (by omega) (by omega); have e6 := kf (zel 4 k) 3 (by omega) (by omega)
                    have e7 := kf (zel 4 k) 4 (by omega) (by omega); have e8 := kf (zel 4 k) 5 (by omega) (by omega); have e9 := kf (zel 4 k) 6 (by omega) (by omega); have e10 := kf (zel 4 k) 7 (by omega) (by omega)
                    simp only [cS1]; grind
                · exact zmu_up (by grind)
              · skip
                refine zb_icne (tgt := 101) bkLoo_see_88 bdLoo_see_92 (by decide) (lv' := [(8, .int mt), (7, .ref (zel 4 k)), (0, .ref 313), (1, .ref 1), (2, .int wo), (3, .int mv), (4, .int mt), (5, .int lay), (6, .int k)]) (st' := []) (h' := zN sg4) (x := mt) (y := lay) (Ps := []) rfl trivial (fun c11 => ?_) (fun c11 => ?_)
                · skip
                  refine zG_run bkLoo_see_101 (lv' := [(6, .int (k + 1)), (8, .int mt), (7, .ref (zel 4 k)), (0, .ref 313), (1, .ref 1), (2, .int wo), (3, .int mv), (4, .int mt), (5, .int lay)]) (st' := []) (h' := zN sg4) (Ps := []) rfl trivial ?_
                  refine zG_pick (lv' := [(0, .ref 313), (1, .ref 1), (2, .int wo), (3, .int mv), (4, .int mt), (5, .int lay), (6, .int (k + 1))]) [3, 4, 5, 6, 7, 8, 0] rfl ?_
                  refine ihk (k + 1) sg4 ?_ ?_
                  · refine ⟨?_, ?_, ?_, ?_, ?_⟩
                    · grind
                    · grind
                    · intro c j h1 h2; exact kf c j h1 h2
                    · exact ka
                    · intro j hj0 hj1; rw [zit_s _ _ k0 (by grind : k < sg 1 4)]; have e1 := kc j hj0 hj1
                      have e3 := kf (zel 4 k) 0 (by omega) (by omega); have e4 := kf (zel 4 k) 1 (by omega) (by omega); have e5 := kf (zel 4 k) 2 (by omega) (by omega); have e6 := kf (zel 4 k) 3 (by omega) (by omega)
                      have e7 := kf (zel 4 k) 4 (by omega) (by omega); have e8 := kf (zel 4 k) 5 (by omega) (by omega); have e9 := kf (zel 4 k) 6 (by omega) (by omega); have e10 := kf (zel 4 k) 7 (by omega) (by omega)
                      simp only [cS1]; grind
                  · exact zmu_up (by grind)
                · skip
                  refine zG_run bkLoo_see_95 (lv' := [(8, .int mt), (7, .ref (zel 4 k)), (0, .ref 313), (1, .ref 1), (2, .int wo), (3, .int mv), (4, .int mt), (5, .int lay), (6, .int k)]) (st' := [.ref (zel 4 k), .ref 313]) (h' := zN sg4) (Ps := []) rfl trivial ?_
                  refine zG_callv (a := 313) (c := 3) (As := [.ref (zel 4 k)]) (rest := []) (N2 := 411) bdLoo_see_98 okLoo_brush lk3_47 (And.intro (by decide) (by decide)) (by decide) rfl rfl rfl (Nat.le_of_ble_eq_true rfl) (Nat.le_of_ble_eq_true rfl) (Nat.le_refl 411) (Nat.le_refl 411) zob_313 (cLoo_brush_313 (zel_ob4 (i := k) (by grind) (by grind)) (by grind) (by grind)) ?_
                  rintro rr h' ⟨sg12, rfl, rfl, bf, bc⟩ -
                  refine zG_run bkLoo_see_101 (lv' := [(6, .int (k + 1)), (8, .int mt), (7, .ref (zel 4 k)), (0, .ref 313), (1, .ref 1), (2, .int wo), (3, .int mv), (4, .int mt), (5, .int lay)]) (st' := []) (h' := zN sg12) (Ps := []) rfl trivial ?_
                  refine zG_pick (lv' := [(0, .ref 313), (1, .ref 1), (2, .int wo), (3, .int mv), (4, .int mt), (5, .int lay), (6, .int (k + 1))]) [3, 4, 5, 6, 7, 8, 0] rfl ?_
                  refine ihk (k + 1) sg12 ?_ ?_
                  · refine ⟨?_, ?_, ?_, ?_, ?_⟩
                    · grind
                    · grind
                    · intro c j h1 h2; rw [bf c j h2]; exact kf c j h1 h2
                    · rw [bf 313 1 (by decide)]; exact ka
                    · intro j hj0 hj1; rw [zit_s _ _ k0 (by grind : k < sg 1 4)]; have e1 := kc j hj0 hj1; have e2 := bc j hj0 (by grind)
                      have e3 := kf (zel 4 k) 0 (by omega) (by omega); have e4 := kf (zel 4 k) 1 (by omega) (by omega); have e5 := kf (zel 4 k) 2 (by omega) (by omega); have e6 := kf (zel 4 k) 3 (by omega) (by omega)
                      have e7 := kf (zel 4 k) 4 (by omega) (by omega); have e8 := kf (zel 4 k) 5 (by omega) (by omega); have e9 := kf (zel 4 k) 6 (by omega) (by omega); have e10 := kf (zel 4 k) 7 (by omega) (by omega)
                      simp only [cS1]; grind
                  · exact zmu_up (by grind)
      · refine ⟨?_, ?_, ?_, ?_, ?_⟩
        · grind
        · grind
        · exact of
        · exact oa
        · intro j hj0 hj1; rw [zit_0]; exact oc j hj0 hj1
  · refine ⟨?_, ?_, ?_, ?_, ?_⟩
    · grind
    · grind
    · exact f2
    · exact a2
    · intro j hj0 hj1; rw [zit_0]; exact c2 j hj0 hj1
theorem cLoo_see_313 {sg : zSig} {wo mv mt : Int32} (hn0 : 0 ≤ sg 1 2) (hn : sg 1 2 ≤ 200) (hk0 : 0 ≤ sg 1 4) (hk : sg 1 4 ≤ 16) : zG mLoo_see 411 (fun rr h' => ∃ sg', rr = none ∧ h' = zN sg' ∧ (∀ c j, c ≠ 313 → c ≠ 314 → sg' c j = sg c j) ∧ sg' 313 1 = sg 1 2 ∧ ∀ j, 0 ≤ j → j < sg 1 2 → sg' 314 j = cS sg wo mv mt j) 0 [(0, .ref 313), (1, .ref 1), (2, .int wo), (3, .int mv), (4, .int mt)] [] (zN sg) := lLoo_see_313 hn0 hn hk0 hk (fun _ _ q => q)
theorem lLoo_see_315 {sg : zSig} {wo mv mt : Int32} (hn0 : 0 ≤ sg 1 2) (hn : sg 1 2 ≤ 200) (hk0 : 0 ≤ sg 1 4) (hk : sg 1 4 ≤ 16) {Q : Option Value → zHp → Prop} (hq : ∀ rr h', (∃ sg', rr = none ∧ h' = zN sg' ∧ (∀ c j, c ≠ 315 → c ≠ 316 → sg' c j = sg c j) ∧ sg' 315 1 = sg 1 2 ∧ ∀ j, 0 ≤ j → j < sg 1 2 → sg' 316 j = cS sg wo mv mt j) → Q rr h') : zG mLoo_see 411 Q 0 [(0, .ref 315), (1, .ref 1), (2, .int wo), (3, .int mv), (4, .int mt)] [] (zN sg) := by
  refine zG_run bkLoo_see_0 (lv' := [(0, .ref 315), (1, .ref 1), (2, .int wo), (3, .int mv), (4, .int mt)]) (st' := []) (h' := zN (zup sg 315 1 (sg 1 2))) (Ps := [zOb (zN sg) 1 5, zOb (zN sg) 315 3]) rfl (zA zob_1 (zA zob_315 trivial)) ?_
  refine zG_nm (sg := zup sg 315 1 (sg 1 2)) (fun sg1 e1 => ?_)
  have a1 : sg1 315 1 = sg 1 2 := by rw [e1]; exact zup_s
  have f1 : ∀ c j, c ≠ 315 → sg1 c j = sg c j := fun c j h => by rw [e1]; exact zup_a h
  refine zG_run bkLoo_see_8 (lv' := [(0, .ref 315), (1, .ref 1), (2, .int wo), (3, .int mv), (4, .int mt)]) (st' := [.int (sg1 315 1), .int 0, .ref 316, .int 0, .ref 3]) (h' := zN sg1) (Ps := [zOb (zN sg1) 1 5 ∧ (zN sg1).2.2 1 1 = true, zOb (zN sg1) 315 3 ∧ (zN sg1).2.2 315 0 = true, zOb (zN sg1) 315 3]) rfl (zA ⟨zob_1, rfl⟩ (zA ⟨zob_315, rfl⟩ (zA zob_315 trivial))) ?_
  refine zs_acopy bdLoo_see_22 lk3_25 (And.intro (by decide) (by decide)) (Nat.le_of_ble_eq_true rfl) (zcp_3_316 (sp := 0) (dp := 0) (n := sg1 315 1) (by grind) (by grind) (by grind) (by grind) (by grind) (by grind) (by grind)) ?_
  refine zG_nm (sg := zcp sg1 3 316 0 0 (sg1 315 1)) (fun sg2 e2 => ?_)
  have f2 : ∀ c j, c ≠ 315 → c ≠ 316 → sg2 c j = sg c j := fun c j h1 h2 => by rw [e2, zcp_e, if_neg (fun q => h2 q.1)]; exact f1 c j h1
  have a2 : sg2 315 1 = sg 1 2 := by rw [e2, zcp_e, if_neg (fun q => absurd q.1 (by decide))]; exact a1
  have c2 : ∀ j, 0 ≤ j → j < sg 1 2 → sg2 316 j = sg 3 j := fun j h1 h2 => by rw [e2, zcp_e, if_pos ⟨rfl, h1, by rw [a1]; grind⟩, f1 3 _ (by decide)]; congr 1; grind
  refine zG_run bkLoo_see_25 (lv' := [(5, .int 0), (0, .ref 315), (1, .ref 1), (2, .int wo), (3, .int mv), (4, .int mt)]) (st' := []) (h' := zN sg2) (Ps := []) rfl trivial ?_
  refine zG_pick (lv' := [(0, .ref 315), (1, .ref 1), (2, .int wo), (3, .int mv), (4, .int mt), (5, .int 0)]) [1, 2, 3, 4, 5, 0] rfl ?_
  refine zlp2 (fun (lay : Int32) (sg3 : zSig) => zG mLoo_see 411 Q 28 [(0, .ref 315), (1, .ref 1), (2, .int wo), (3, .int mv), (4, .int mt), (5, .int lay)] [] (zN sg3)) (fun (lay : Int32) (sg3 : zSig) => (0 ≤ lay) ∧ (lay ≤ 10) ∧ (∀ c j, c ≠ 315 → c ≠ 316 → sg3 c j = sg c j) ∧ (sg3 315 1 = sg 1 2) ∧ (∀ j, 0 ≤ j → j < sg 1 2 → sg3 316 j = zit (cS2 sg wo mv mt j) (sg 3 j) lay)) (fun (lay : Int32) (sg3 : zSig) => zmu 10 lay) ?_ 0 sg2 ?_
  · intro lay sg3 ho iho
    obtain ⟨o0, o1, of, oa, oc⟩ := ho
    refine zb_icge (tgt := 113) bkLoo_see_28 bdLoo_see_32 (by decide) (lv' := [(0, .ref 315), (1, .ref 1), (2, .int wo), (3, .int mv), (4, .int mt), (5, .int lay)]) (st' := []) (h' := zN sg3) (x := lay) (y := 10) (Ps := []) rfl trivial (fun c1 => ?_) (fun c1 => ?_)
    · skip
      refine zb_vret bkLoo_see_113 bdLoo_see_113 rfl (h' := zN sg3) (Ps := []) rfl trivial rfl ?_
      refine hq _ _ ?_
      have e3 : lay = 10 := by grind
      exact ⟨sg3, rfl, rfl, of, oa, fun j h5 h6 => by rw [oc j h5 h6, e3]; rfl⟩
    · skip
      refine zG_run bkLoo_see_35 (lv' := [(6, .int 0), (0, .ref 315), (1, .ref 1), (2, .int wo), (3, .int mv), (4, .int mt), (5, .int lay)]) (st' := []) (h' := zN sg3) (Ps := []) rfl trivial ?_
      refine zG_pick (lv' := [(0, .ref 315), (1, .ref 1), (2, .int wo), (3, .int mv), (4, .int mt), (5, .int lay), (6, .int 0)]) [1, 2, 3, 4, 5, 6, 0] rfl ?_
      refine zlp2 (fun (k : Int32) (sg4 : zSig) => zG mLoo_see 411 Q 38 [(0, .ref 315), (1, .ref 1), (2, .int wo), (3, .int mv), (4, .int mt), (5, .int lay), (6, .int k)] [] (zN sg4)) (fun (k : Int32) (sg4 : zSig) => (0 ≤ k) ∧ (k ≤ sg 1 4) ∧ (∀ c j, c ≠ 315 → c ≠ 316 → sg4 c j = sg c j) ∧ (sg4 315 1 = sg 1 2) ∧ (∀ j, 0 ≤ j → j < sg 1 2 → sg4 316 j = zit (cS1 sg wo mv mt j lay) (zit (cS2 sg wo mv mt j) (sg 3 j) lay) k)) (fun (k : Int32) (sg4 : zSig) => zmu (sg 1 4) k) ?_ 0 sg3 ?_
      · intro k sg4 hk ihk
        obtain ⟨k0, k1, kf, ka, kc⟩ := hk
        have e14 := kf 1 4 (by decide) (by decide)
        refine zb_icge (tgt := 107) bkLoo_see_38 bdLoo_see_44 (by decide) (lv' := [(0, .ref 315), (1, .ref 1), (2, .int wo), (3, .int mv), (4, .int mt), (5, .int lay), (6, .int k)]) (st' := []) (h' := zN sg4) (x := k) (y := sg4 1 4) (Ps := [zOb (zN sg4) 1 5]) rfl (zA zob_1 trivial) (fun c2 => ?_) (fun c2 => ?_)
        · skip
          refine zG_run bkLoo_see_107 (lv' := [(5, .int (lay + 1)), (0, .ref 315), (1, .ref 1), (2, .int wo), (3, .int mv), (4, .int mt), (6, .int k)]) (st' := []) (h' := zN sg4) (Ps := []) rfl trivial ?_
          refine zG_pick (lv' := [(0, .ref 315), (1, .ref 1), (2, .int wo), (3, .int mv), (4, .int mt), (5, .int (lay + 1))]) [1, 2, 3, 4, 5, 0] rfl ?_
          refine iho (lay + 1) sg4 ?_ ?_
          · refine ⟨?_, ?_, ?_, ?_, ?_⟩
            · grind
            · grind
            · exact kf
            · exact ka
            · intro j hj0 hj1; rw [zit_s _ _ o0 (by grind : lay < 10)]; have e1 := kc j hj0 hj1; have e2 : k = sg 1 4 := by grind
              rw [e1, e2]; rfl
          · exact zmu_up (by grind)
        · skip
          have hz := zel4_rng (i := k) k0 (by grind)
          refine zb_icne (tgt := 67) bkLoo_see_47 bdLoo_see_59 (by decide) (lv' := [(7, .ref (zel 4 k)), (0, .ref 315), (1, .ref 1), (2, .int wo), (3, .int mv), (4, .int mt), (5, .int lay), (6, .int k)]) (st' := []) (h' := zN sg4) (x := k) (y := mv) (Ps := [zOb (zN sg4) 1 5 ∧ (zN sg4).2.2 1 3 = true, zInR (zN sg4) 4 k]) rfl (zA ⟨zob_1, rfl⟩ (zA (zinR_4 (i := k) (by grind) (by grind)) trivial)) (fun c3 => ?_) (fun c3 => ?_)
          · skip
            refine zb_ifeq (tgt := 101) bkLoo_see_67 bdLoo_see_79 (by decide) (lv' := [(8, .int (sg4 (zel 4 k) 3)), (7, .ref (zel 4 k)), (0, .ref 315), (1, .ref 1), (2, .int wo), (3, .int mv), (4, .int mt), (5, .int lay), (6, .int k)]) (st' := []) (h' := zN sg4) (x := sg4 (zel 4 k) 0) (Ps := [zOb (zN sg4) (zel 4 k) 6, zOb (zN sg4) (zel 4 k) 6]) rfl (zA (zel_ob4 (i := k) (by grind) (by grind)) (zA (zel_ob4 (i := k) (by grind) (by grind)) trivial)) (fun c4 => ?_) (fun c4 => ?_)
            · skip
              refine zG_run bkLoo_see_101 (lv' := [(6, .int (k + 1)), (8, .int (sg4 (zel 4 k) 3)), (7, .ref (zel 4 k)), (0, .ref 315), (1, .ref 1), (2, .int wo), (3, .int mv), (4, .int mt), (5, .int lay)]) (st' := []) (h' := zN sg4) (Ps := []) rfl trivial ?_
              refine zG_pick (lv' := [(0, .ref 315), (1, .ref 1), (2, .int wo), (3, .int mv), (4, .int mt), (5, .int lay), (6, .int (k + 1))]) [3, 4, 5, 6, 7, 8, 0] rfl ?_
              refine ihk (k + 1) sg4 ?_ ?_
              · refine ⟨?_, ?_, ?_, ?_, ?_⟩
                · grind
                · grind
                · intro c j h1 h2; exact kf c j h1 h2
                · exact ka
                · intro j hj0 hj1; rw [zit_s _ _ k0 (by grind : k < sg 1 4)]; have e1 := kc j hj0 hj1
                  have e3 := kf (zel 4 k) 0 (by omega) (by omega); have e4 := kf (zel 4 k) 1 (by omega) (by omega); have e5 := kf (zel 4 k) 2 (by omega) (by omega); have e6 := kf (zel 4 k) 3 (by omega) (by omega)
                  have e7 := kf (zel 4 k) 4 (by omega) (by omega); have e8 := kf (zel 4 k) 5 (by omega) (by omega); have e9 := kf (zel 4 k) 6 (by omega) (by omega); have e10 := kf (zel 4 k) 7 (by omega) (by omega)
                  simp only [cS1]; grind
              · exact zmu_up (by grind)
            · skip
              refine zb_iceq (tgt := 101) bkLoo_see_82 bdLoo_see_85 (by decide) (lv' := [(8, .int (sg4 (zel 4 k) 3)), (7, .ref (zel 4 k)), (0, .ref 315), (1, .ref 1), (2, .int wo), (3, .int mv), (4, .int mt), (5, .int lay), (6, .int k)]) (st' := []) (h' := zN sg4) (x := k) (y := wo) (Ps := []) rfl trivial (fun c5 => ?_) (fun c5 => ?_)
              · skip
                refine zG_run bkLoo_see_101 (lv' := [(6, .int (k + 1)), (8, .int (sg4 (zel 4 k) 3)), (7, .ref (zel 4 k)), (0, .ref 315), (1, .ref 1), (2, .int wo), (3, .int mv), (4, .int mt), (5, .int lay)]) (st' := []) (h' := zN sg4) (Ps := []) rfl trivial ?_
                refine zG_pick (lv' := [(0, .ref 315), (1, .ref 1), (2, .int wo), (3, .int mv), (4, .int mt), (5, .int lay), (6, .int (k + 1))]) [3, 4, 5, 6, 7, 8, 0] rfl ?_
                refine ihk (k + 1) sg4 ?_ ?_
                · refine ⟨?_, ?_, ?_, ?_, ?_⟩
                  · grind
                  · grind
                  · intro c j h1 h2; exact kf c j h1 h2
                  · exact ka
                  · intro j hj0 hj1; rw [zit_s _ _ k0 (by grind : k < sg 1 4)]; have e1 := kc j hj0 hj1
                    have e3 := kf (zel 4 k) 0 (by omega) (by omega); have e4 := kf (zel 4 k) 1 (by omega) (by omega); have e5 := kf (zel 4 k) 2 (by omega) (by omega); have e6 := kf (zel 4 k) 3 (by omega) (by omega)
                    have e7 := kf (zel 4 k) 4 (by omega) (by omega); have e8 := kf (zel 4 k) 5 (by omega) (by omega); have e9 := kf (zel 4 k) 6 (by omega) (by omega); have e10 := kf (zel 4 k) 7 (by omega) (by omega)
                    simp only [cS1]; grind
                · exact zmu_up (by grind)
              · skip
                refine zb_icne (tgt := 101) bkLoo_see_88 bdLoo_see_92 (by decide) (lv' := [(8, .int (sg4 (zel 4 k) 3)), (7, .ref (zel 4 k)), (0, .ref 315), (1, .ref 1), (2, .int wo), (3, .int mv), (4, .int mt), (5, .int lay), (6, .int k)]) (st' := []) (h' := zN sg4) (x := sg4 (zel 4 k) 3) (y := lay) (Ps := []) rfl trivial (fun c6 => ?_) (fun c6 => ?_)
                · skip
                  refine zG_run bkLoo_see_101 (lv' := [(6, .int (k + 1)), (8, .int (sg4 (zel 4 k) 3)), (7, .ref (zel 4 k)), (0, .ref 315), (1, .ref 1), (2, .int wo), (3, .int mv), (4, .int mt), (5, .int lay)]) (st' := []) (h' := zN sg4) (Ps := []) rfl trivial ?_
                  refine zG_pick (lv' := [(0, .ref 315), (1, .ref 1), (2, .int wo), (3, .int mv), (4, .int mt), (5, .int lay), (6, .int (k + 1))]) [3, 4, 5, 6, 7, 8, 0] rfl ?_
                  refine ihk (k + 1) sg4 ?_ ?_
                  · refine ⟨?_, ?_, ?_, ?_, ?_⟩
                    · grind
                    · grind
                    · intro c j h1 h2; exact kf c j h1 h2
                    · exact ka
                    · intro j hj0 hj1; rw [zit_s _ _ k0 (by grind : k < sg 1 4)]; have e1 := kc j hj0 hj1
                      have e3 := kf (zel 4 k) 0 (by omega) (by omega); have e4 := kf (zel 4 k) 1 (by omega) (by omega); have e5 := kf (zel 4 k) 2 (by omega) (by omega); have e6 := kf (zel 4 k) 3 (by omega) (by omega)
                      have e7 := kf (zel 4 k) 4 (by omega) (by omega); have e8 := kf (zel 4 k) 5 (by omega) (by omega); have e9 := kf (zel 4 k) 6 (by omega) (by omega); have e10 := kf (zel 4 k) 7 (by omega) (by omega)
                      simp only [cS1]; grind
                  · exact zmu_up (by grind)
                · skip
                  refine zG_run bkLoo_see_95 (lv' := [(8, .int (sg4 (zel 4 k) 3)), (7, .ref (zel 4 k)), (0, .ref 315), (1, .ref 1), (2, .int wo), (3, .int mv), (4, .int mt), (5, .int lay), (6, .int k)]) (st' := [.ref (zel 4 k), .ref 315]) (h' := zN sg4) (Ps := []) rfl trivial ?_
                  refine zG_callv (a := 315) (c := 3) (As := [.ref (zel 4 k)]) (rest := []) (N2 := 411) bdLoo_see_98 okLoo_brush lk3_47 (And.intro (by decide) (by decide)) (by decide) rfl rfl rfl (Nat.le_of_ble_eq_true rfl) (Nat.le_of_ble_eq_true rfl) (Nat.le_refl 411) (Nat.le_refl 411) zob_315 (cLoo_brush_315 (zel_ob4 (i := k) (by grind) (by grind)) (by grind) (by grind)) ?_
                  rintro rr h' ⟨sg7, rfl, rfl, bf, bc⟩ -
                  refine zG_run bkLoo_see_101 (lv' := [(6, .int (k + 1)), (8, .int (sg4 (zel 4 k) 3)), (7, .ref (zel 4 k)), (0, .ref 315), (1, .ref 1), (2, .int wo), (3, .int mv), (4, .int mt), (5, .int lay)]) (st' := []) (h' := zN sg7) (Ps := []) rfl trivial ?_
                  refine zG_pick (lv' := [(0, .ref 315), (1, .ref 1), (2, .int wo), (3, .int mv), (4, .int mt), (5, .int lay), (6, .int (k + 1))]) [3, 4, 5, 6, 7, 8, 0] rfl ?_
                  refine ihk (k + 1) sg7 ?_ ?_
                  · refine ⟨?_, ?_, ?_, ?_, ?_⟩
                    · grind
                    · grind
                    · intro c j h1 h2; rw [bf c j h2]; exact kf c j h1 h2
                    · rw [bf 315 1 (by decide)]; exact ka
                    · intro j hj0 hj1; rw [zit_s _ _ k0 (by grind : k < sg 1 4)]; have e1 := kc j hj0 hj1; have e2 := bc j hj0 (by grind)
                      have e3 := kf (zel 4 k) 0 (by omega) (by omega); have e4 := kf (zel 4 k) 1 (by omega) (by omega); have e5 := kf (zel 4 k) 2 (by omega) (by omega); have e6 := kf (zel 4 k) 3 (by omega) (by omega)
                      have e7 := kf (zel 4 k) 4 (by omega) (by omega); have e8 := kf (zel 4 k) 5 (by omega) (by omega); have e9 := kf (zel 4 k) 6 (by omega) (by omega); have e10 := kf (zel 4 k) 7 (by omega) (by omega)
                      simp only [cS1]; grind
                  · exact zmu_up (by grind)
          · skip
            refine zb_ifeq (tgt := 101) bkLoo_see_62 bdLoo_see_79 (by decide) (lv' := [(8, .int mt), (7, .ref (zel 4 k)), (0, .ref 315), (1, .ref 1), (2, .int wo), (3, .int mv), (4, .int mt), (5, .int lay), (6, .int k)]) (st' := []) (h' := zN sg4) (x := sg4 (zel 4 k) 0) (Ps := [zOb (zN sg4) (zel 4 k) 6]) rfl (zA (zel_ob4 (i := k) (by grind) (by grind)) trivial) (fun c9 => ?_) (fun c9 => ?_)
            · skip
              refine zG_run bkLoo_see_101 (lv' := [(6, .int (k + 1)), (8, .int mt), (7, .ref (zel 4 k)), (0, .ref 315), (1, .ref 1), (2, .int wo), (3, .int mv), (4, .int mt), (5, .int lay)]) (st' := []) (h' := zN sg4) (Ps := []) rfl trivial ?_
              refine zG_pick (lv' := [(0, .ref 315), (1, .ref 1), (2, .int wo), (3, .int mv), (4, .int mt), (5, .int lay), (6, .int (k + 1))]) [3, 4, 5, 6, 7, 8, 0] rfl ?_
              refine ihk (k + 1) sg4 ?_ ?_
              · refine ⟨?_, ?_, ?_, ?_, ?_⟩
                · grind
                · grind
                · intro c j h1 h2; exact kf c j h1 h2
                · exact ka
                · intro j hj0 hj1; rw [zit_s _ _ k0 (by grind : k < sg 1 4)]; have e1 := kc j hj0 hj1
                  have e3 := kf (zel 4 k) 0 (by omega) (by omega); have e4 := kf (zel 4 k) 1 (by omega) (by omega); have e5 := kf (zel 4 k) 2 (by omega) (by omega); have e6 := kf (zel 4 k) 3 (by omega) (by omega)
                  have e7 := kf (zel 4 k) 4 (by omega) (by omega); have e8 := kf (zel 4 k) 5 (by omega) (by omega); have e9 := kf (zel 4 k) 6 (by omega) (by omega); have e10 := kf (zel 4 k) 7 (by omega) (by omega)
                  simp only [cS1]; grind
              · exact zmu_up (by grind)
            · skip
              refine zb_iceq (tgt := 101) bkLoo_see_82 bdLoo_see_85 (by decide) (lv' := [(8, .int mt), (7, .ref (zel 4 k)), (0, .ref 315), (1, .ref 1), (2, .int wo), (3, .int mv), (4, .int mt), (5, .int lay), (6, .int k)]) (st' := []) (h' := zN sg4) (x := k) (y := wo) (Ps := []) rfl trivial (fun c10 => ?_) (fun c10 => ?_)
              · skip
                refine zG_run bkLoo_see_101 (lv' := [(6, .int (k + 1)), (8, .int mt), (7, .ref (zel 4 k)), (0, .ref 315), (1, .ref 1), (2, .int wo), (3, .int mv), (4, .int mt), (5, .int lay)]) (st' := []) (h' := zN sg4) (Ps := []) rfl trivial ?_
                refine zG_pick (lv' := [(0, .ref 315), (1, .ref 1), (2, .int wo), (3, .int mv), (4, .int mt), (5, .int lay), (6, .int (k + 1))]) [3, 4, 5, 6, 7, 8, 0] rfl ?_
                refine ihk (k + 1) sg4 ?_ ?_
                · refine ⟨?_, ?_, ?_, ?_, ?_⟩
                  · grind
                  · grind
                  · intro c j h1 h2; exact kf c j h1 h2
                  · exact ka
                  · intro j hj0 hj1; rw [zit_s _ _ k0 (by grind : k < sg 1 4)]; have e1 := kc j hj0 hj1
                    have e3 := kf (zel 4 k) 0 (by omega) (by omega); have e4 := kf (zel 4 k) 1 (by omega) (by omega); have e5 := kf (zel 4 k) 2 (by omega) (by omega); have e6 := kf (zel 4 k) 3 (by omega) (by omega)
                    have e7 := kf (zel 4 k) 4 (by omega) (by omega); have e8 := kf (zel 4 k) 5 (by omega) (by omega); have e9 := kf (zel 4 k) 6 (by omega) (by omega); have e10 := kf (zel 4 k) 7 (by omega) (by omega)
                    simp only [cS1]; grind
                · exact zmu_up (by grind)
              · skip
                refine zb_icne (tgt := 101) bkLoo_see_88 bdLoo_see_92 (by decide) (lv' := [(8, .int mt), (7, .ref (zel 4 k)), (0, .ref 315), (1, .ref 1), (2, .int wo), (3, .int mv), (4, .int mt), (5, .int lay), (6, .int k)]) (st' := []) (h' := zN sg4) (x := mt) (y := lay) (Ps := []) rfl trivial (fun c11 => ?_) (fun c11 => ?_)
                · skip
                  refine zG_run bkLoo_see_101 (lv' := [(6, .int (k + 1)), (8, .int mt), (7, .ref (zel 4 k)), (0, .ref 315), (1, .ref 1), (2, .int wo), (3, .int mv), (4, .int mt), (5, .int lay)]) (st' := []) (h' := zN sg4) (Ps := []) rfl trivial ?_
                  refine zG_pick (lv' := [(0, .ref 315), (1, .ref 1), (2, .int wo), (3, .int mv), (4, .int mt), (5, .int lay), (6, .int (k + 1))]) [3, 4, 5, 6, 7, 8, 0] rfl ?_
                  refine ihk (k + 1) sg4 ?_ ?_
                  · refine ⟨?_, ?_, ?_, ?_, ?_⟩
                    · grind
                    · grind
                    · intro c j h1 h2; exact kf c j h1 h2
                    · exact ka
                    · intro j hj0 hj1; rw [zit_s _ _ k0 (by grind : k < sg 1 4)]; have e1 := kc j hj0 hj1
                      have e3 := kf (zel 4 k) 0 (by omega) (by omega); have e4 := kf (zel 4 k) 1 (by omega) (by omega); have e5 := kf (zel 4 k) 2 (by omega) (by omega); have e6 := kf (zel 4 k) 3 (by omega) (by omega)
                      have e7 := kf (zel 4 k) 4 (by omega) (by omega); have e8 := kf (zel 4 k) 5 (by omega) (by omega); have e9 := kf (zel 4 k) 6 (by omega) (by omega); have e10 := kf (zel 4 k) 7 (by omega) (by omega)
                      simp only [cS1]; grind
                  · exact zmu_up (by grind)
                · skip
                  refine zG_run bkLoo_see_95 (lv' := [(8, .int mt), (7, .ref (zel 4 k)), (0, .ref 315), (1, .ref 1), (2, .int wo), (3, .int mv), (4, .int mt), (5, .int lay), (6, .int k)]) (st' := [.ref (zel 4 k), .ref 315]) (h' := zN sg4) (Ps := []) rfl trivial ?_
                  refine zG_callv (a := 315) (c := 3) (As := [.ref (zel 4 k)]) (rest := []) (N2 := 411) bdLoo_see_98 okLoo_brush lk3_47 (And.intro (by decide) (by decide)) (by decide) rfl rfl rfl (Nat.le_of_ble_eq_true rfl) (Nat.le_of_ble_eq_true rfl) (Nat.le_refl 411) (Nat.le_refl 411) zob_315 (cLoo_brush_315 (zel_ob4 (i := k) (by grind) (by grind)) (by grind) (by grind)) ?_
                  rintro rr h' ⟨sg12, rfl, rfl, bf, bc⟩ -
                  refine zG_run bkLoo_see_101 (lv' := [(6, .int (k + 1)), (8, .int mt), (7, .ref (zel 4 k)), (0, .ref 315), (1, .ref 1), (2, .int wo), (3, .int mv), (4, .int mt), (5, .int lay)]) (st' := []) (h' := zN sg12) (Ps := []) rfl trivial ?_
                  refine zG_pick (lv' := [(0, .ref 315), (1, .ref 1), (2, .int wo), (3, .int mv), (4, .int mt), (5, .int lay), (6, .int (k + 1))]) [3, 4, 5, 6, 7, 8, 0] rfl ?_
                  refine ihk (k + 1) sg12 ?_ ?_
                  · refine ⟨?_, ?_, ?_, ?_, ?_⟩
                    · grind
                    · grind
                    · intro c j h1 h2; rw [bf c j h2]; exact kf c j h1 h2
                    · rw [bf 315 1 (by decide)]; exact ka
                    · intro j hj0 hj1; rw [zit_s _ _ k0 (by grind : k < sg 1 4)]; have e1 := kc j hj0 hj1; have e2 := bc j hj0 (by grind)
                      have e3 := kf (zel 4 k) 0 (by omega) (by omega); have e4 := kf (zel 4 k) 1 (by omega) (by omega); have e5 := kf (zel 4 k) 2 (by omega) (by omega); have e6 := kf (zel 4 k) 3 (by omega) (by omega)
                      have e7 := kf (zel 4 k) 4 (by omega) (by omega); have e8 := kf (zel 4 k) 5 (by omega) (by omega); have e9 := kf (zel 4 k) 6 (by omega) (by omega); have e10 := kf (zel 4 k) 7 (by omega) (by omega)
                      simp only [cS1]; grind
                  · exact zmu_up (by grind)
      · refine ⟨?_, ?_, ?_, ?_, ?_⟩
        · grind
        · grind
        · exact of
        · exact oa
        · intro j hj0 hj1; rw [zit_0]; exact oc j hj0 hj1
  · refine ⟨?_, ?_, ?_, ?_, ?_⟩
    · grind
    · grind
    · exact f2
    · exact a2
    · intro j hj0 hj1; rw [zit_0]; exact c2 j hj0 hj1
theorem cLoo_see_315 {sg : zSig} {wo mv mt : Int32} (hn0 : 0 ≤ sg 1 2) (hn : sg 1 2 ≤ 200) (hk0 : 0 ≤ sg 1 4) (hk : sg 1 4 ≤ 16) : zG mLoo_see 411 (fun rr h' => ∃ sg', rr = none ∧ h' = zN sg' ∧ (∀ c j, c ≠ 315 → c ≠ 316 → sg' c j = sg c j) ∧ sg' 315 1 = sg 1 2 ∧ ∀ j, 0 ≤ j → j < sg 1 2 → sg' 316 j = cS sg wo mv mt j) 0 [(0, .ref 315), (1, .ref 1), (2, .int wo), (3, .int mv), (4, .int mt)] [] (zN sg) := lLoo_see_315 hn0 hn hk0 hk (fun _ _ q => q)
theorem bkLoo_isLike_0 : zBk mLoo_isLike 0 [(1, 0, 1, 0, 0), (5, 3, 1, 0, 1), (1, 1, 1, 0, 0), (5, 3, 1, 0, 1)] = some 8 := by decide +kernel
theorem bkLoo_isLike_13 : zBk mLoo_isLike 13 [(0, 0, 0, 0, 0), (2, 2, 0, 0, 0)] = some 15 := by decide +kernel
theorem bkLoo_isLike_15 : zBk mLoo_isLike 15 [(1, 2, 0, 0, 0), (1, 0, 1, 0, 0), (5, 3, 1, 0, 1)] = some 20 := by decide +kernel
theorem bkLoo_isLike_46 : zBk mLoo_isLike 46 [(0, 0, 0, 0, 1)] = some 47 := by decide +kernel
theorem bkLoo_isLike_23 : zBk mLoo_isLike 23 [(1, 0, 1, 0, 0), (5, 3, 0, 1, 0), (1, 2, 0, 0, 0), (7, 0, 0, 0, 0), (1, 1, 1, 0, 0), (5, 3, 0, 1, 0), (1, 2, 0, 0, 0), (7, 0, 0, 0, 0)] = some 35 := by decide +kernel
theorem bkLoo_isLike_40 : zBk mLoo_isLike 40 [(3, 2, 0, 0, 1), (22, 15, 0, 0, 0)] = some 15 := by decide +kernel
theorem bkLoo_isLike_38 : zBk mLoo_isLike 38 [(0, 0, 0, 0, 0)] = some 39 := by decide +kernel
theorem bkLoo_isLike_11 : zBk mLoo_isLike 11 [(0, 0, 0, 0, 0)] = some 12 := by decide +kernel
theorem bdLoo_isLike_8 : decode mLoo_isLike.2.2.1 8 = .ok (.if_icmp .eq 5, 3) := by decide +kernel
theorem bdLoo_isLike_12 : decode mLoo_isLike.2.2.1 12 = .ok (.ireturn, 1) := by decide +kernel
theorem bdLoo_isLike_20 : decode mLoo_isLike.2.2.1 20 = .ok (.if_icmp .ge 26, 3) := by decide +kernel
theorem bdLoo_isLike_35 : decode mLoo_isLike.2.2.1 35 = .ok (.if_icmp .eq 5, 3) := by decide +kernel
theorem bdLoo_isLike_39 : decode mLoo_isLike.2.2.1 39 = .ok (.ireturn, 1) := by decide +kernel
theorem bdLoo_isLike_47 : decode mLoo_isLike.2.2.1 47 = .ok (.ireturn, 1) := by decide +kernel
theorem lLoo_isLike {sg : zSig}  (hn0 : 0 ≤ sg 315 1) (hn : sg 315 1 ≤ 200) {Q : Option Value → zHp → Prop} (hq : ∀ rr h', (∃ v, rr = some (.int v) ∧ h' = zN sg ∧ ((v = 1 ∧ sg 315 1 = sg 313 1 ∧ ∀ j, 0 ≤ j → j < sg 315 1 → sg 316 j = sg 314 j) ∨ (v = 0 ∧ (sg 315 1 ≠ sg 313 1 ∨ ∃ j, 0 ≤ j ∧ j < sg 315 1 ∧ sg 316 j ≠ sg 314 j)))) → Q rr h') : zG mLoo_isLike 411 Q 0 [(0, .ref 315), (1, .ref 313)] [] (zN sg) := by
  refine zb_iceq (tgt := 13) bkLoo_isLike_0 bdLoo_isLike_8 (by decide) (lv' := [(0, .ref 315), (1, .ref 313)]) (st' := []) (h' := zN sg) (x := sg 315 1) (y := sg 313 1) (Ps := [zOb (zN sg) 315 3, zOb (zN sg) 313 3]) rfl (zA zob_315 (zA zob_313 trivial)) (fun c1 => ?_) (fun c1 => ?_)
  · skip
    refine zG_run bkLoo_isLike_13 (lv' := [(2, .int 0), (0, .ref 315), (1, .ref 313)]) (st' := []) (h' := zN sg) (Ps := []) rfl trivial ?_
    refine zG_pick (lv' := [(0, .ref 315), (1, .ref 313), (2, .int 0)]) [1, 2, 0] rfl ?_
    refine zlp1 (fun (i : Int32) => zG mLoo_isLike 411 Q 15 [(0, .ref 315), (1, .ref 313), (2, .int i)] [] (zN sg)) (fun (i : Int32) => (0 ≤ i) ∧ (i ≤ sg 315 1) ∧ (∀ j, 0 ≤ j → j < i → sg 316 j = sg 314 j)) (fun (i : Int32) => zmu (sg 315 1) i) ?_ 0 ?_
    · intro i hI ih
      obtain ⟨h0, h1, h2⟩ := hI
      refine zb_icge (tgt := 46) bkLoo_isLike_15 bdLoo_isLike_20 (by decide) (lv' := [(0, .ref 315), (1, .ref 313), (2, .int i)]) (st' := []) (h' := zN sg) (x := i) (y := sg 315 1) (Ps := [zOb (zN sg) 315 3]) rfl (zA zob_315 trivial) (fun c2 => ?_) (fun c2 => ?_)
      · skip
        refine zb_zret bkLoo_isLike_46 bdLoo_isLike_47 rfl (x := 1) (h' := zN sg) (Ps := []) rfl trivial rfl (Or.inr rfl) ?_
        refine hq _ _ ?_
        exact ⟨_, rfl, rfl, Or.inl ⟨rfl, by grind, fun j h5 h6 => h2 j h5 (by grind)⟩⟩
      · skip
        refine zb_iceq (tgt := 40) bkLoo_isLike_23 bdLoo_isLike_35 (by decide) (lv' := [(0, .ref 315), (1, .ref 313), (2, .int i)]) (st' := []) (h' := zN sg) (x := sg 316 i) (y := sg 314 i) (Ps := [zOb (zN sg) 315 3 ∧ (zN sg).2.2 315 0 = true, zInL (zN sg) 316 i, zOb (zN sg) 313 3 ∧ (zN sg).2.2 313 0 = true, zInL (zN sg) 314 i]) rfl (zA ⟨zob_315, rfl⟩ (zA (zinL_316 (i := i) (by grind) (by grind)) (zA ⟨zob_313, rfl⟩ (zA (zinL_314 (i := i) (by grind) (by grind)) trivial)))) (fun c3 => ?_) (fun c3 => ?_)
        · skip
          refine zG_run bkLoo_isLike_40 (lv' := [(2, .int (i + 1)), (0, .ref 315), (1, .ref 313)]) (st' := []) (h' := zN sg) (Ps := []) rfl trivial ?_
          refine zG_pick (lv' := [(0, .ref 315), (1, .ref 313), (2, .int (i + 1))]) [1, 2, 0] rfl ?_
          refine ih (i + 1) ?_ ?_
          · refine ⟨?_, ?_, ?_⟩
            · grind
            · grind
            · intro j hj0 hj1; by_cases hj : j = i; · subst hj; grind
              exact h2 j hj0 (by grind)
          · exact zmu_up (by grind)
        · skip
          refine zb_zret bkLoo_isLike_38 bdLoo_isLike_39 rfl (x := 0) (h' := zN sg) (Ps := []) rfl trivial rfl (Or.inl rfl) ?_
          refine hq _ _ ?_
          exact ⟨_, rfl, rfl, Or.inr ⟨rfl, Or.inr ⟨i, h0, by grind, by grind⟩⟩⟩
    · refine ⟨?_, ?_, ?_⟩
      · grind
      · grind
      · grind
  · skip
    refine zb_zret bkLoo_isLike_11 bdLoo_isLike_12 rfl (x := 0) (h' := zN sg) (Ps := []) rfl trivial rfl (Or.inl rfl) ?_
    refine hq _ _ ?_
    exact ⟨_, rfl, rfl, Or.inr ⟨rfl, Or.inl (by grind)⟩⟩
theorem cLoo_isLike {sg : zSig}  (hn0 : 0 ≤ sg 315 1) (hn : sg 315 1 ≤ 200) : zG mLoo_isLike 411 (fun rr h' => ∃ v, rr = some (.int v) ∧ h' = zN sg ∧ ((v = 1 ∧ sg 315 1 = sg 313 1 ∧ ∀ j, 0 ≤ j → j < sg 315 1 → sg 316 j = sg 314 j) ∨ (v = 0 ∧ (sg 315 1 ≠ sg 313 1 ∨ ∃ j, 0 ≤ j ∧ j < sg 315 1 ∧ sg 316 j ≠ sg 314 j)))) 0 [(0, .ref 315), (1, .ref 313)] [] (zN sg) := lLoo_isLike hn0 hn (fun _ _ q => q)
end
section
/-! a sheet becomes another: printed by wip/whole/p18.py -/
def iSh (a : Nat) : Prop := a + 33 ≤ 411 ∧ zSh a = (0, 5, 0) ∧ zSh (a + 1) = (1, 0, 200) ∧ zSh (a + 2) = (1, 0, 200) ∧ zSh (a + 3) = (2, 0, 16) ∧ zSh (a + 4) = (2, 1, 12) ∧ (∀ j, j < 16 → zSh (a + 5 + j) = (0, 6, 0)) ∧ ∀ j, j < 12 → zSh (a + 21 + j) = (0, 1, 0)
theorem iSh_1 : iSh 1 := ⟨by decide, by decide, by decide, by decide, by decide, by decide, by decide +kernel, by decide +kernel⟩
theorem iSh_h : ∀ k, k < 8 → iSh (39 + 34 * k) := by
  intro k hk
  refine ⟨by omega, ?_, ?_, ?_, ?_, ?_, ?_, ?_⟩ <;> revert k <;> decide +kernel
theorem iSh_i : ∀ k, k < 2 → iSh (327 + 33 * k) := by
  intro k hk
  refine ⟨by omega, ?_, ?_, ?_, ?_, ?_, ?_, ?_⟩ <;> revert k <;> decide +kernel
section
variable {sg : zSig} {a : Nat} {i : Int32}
theorem sh_ob (h : iSh a) : zOb (zN sg) a 5 := ⟨(by have := h.1; omega : a < 411), h.2.1⟩
theorem sh_l (h : iSh a) (h0 : 0 ≤ i) (h1 : i < 200) : zIn (zN sg) (a + 1) 0 i := ⟨(by have := h.1; omega : a + 1 < 411), by rw [h.2.2.1], by rw [h.2.2.1], h0, by rw [h.2.2.1]; exact h1⟩
theorem sh_p (h : iSh a) (h0 : 0 ≤ i) (h1 : i < 200) : zIn (zN sg) (a + 2) 0 i := ⟨(by have := h.1; omega : a + 2 < 411), by rw [h.2.2.2.1], by rw [h.2.2.2.1], h0, by rw [h.2.2.2.1]; exact h1⟩
theorem sh_zs (h : iSh a) (h0 : 0 ≤ i) (h1 : i < 16) : ∃ j : Nat, j < 16 ∧ i = nI j ∧ zel (a + 3) i = a + 5 + j := by
  obtain ⟨j, hj, rfl⟩ := vp_in_of (zvp_in (n := 16) (by decide) h0 h1) (by decide)
  refine ⟨j, hj, rfl, ?_⟩
  unfold zel
  rw [h.2.2.2.2.1, nI_clamp (by omega)]
  show a + 3 + 2 + 1 * j = _
  omega
theorem sh_za (h : iSh a) (h0 : 0 ≤ i) (h1 : i < 12) : ∃ j : Nat, j < 12 ∧ i = nI j ∧ zel (a + 4) i = a + 21 + j := by
  obtain ⟨j, hj, rfl⟩ := vp_in_of (zvp_in (n := 12) (by decide) h0 h1) (by decide)
  refine ⟨j, hj, rfl, ?_⟩
  unfold zel
  rw [h.2.2.2.2.2.1, nI_clamp (by omega)]
  show a + 4 + 17 + 1 * j = _
  omega
theorem sh_s_rng (h : iSh a) (h0 : 0 ≤ i) (h1 : i < 16) : a + 5 ≤ zel (a + 3) i ∧ zel (a + 3) i < a + 21 := by
  obtain ⟨j, hj, -, he⟩ := sh_zs h h0 h1
  rw [he]; omega
theorem sh_a_rng (h : iSh a) (h0 : 0 ≤ i) (h1 : i < 12) : a + 21 ≤ zel (a + 4) i ∧ zel (a + 4) i < a + 33 := by
  obtain ⟨j, hj, -, he⟩ := sh_za h h0 h1
  rw [he]; omega
theorem sh_s_inj (h : iSh a) {j : Int32} (h0 : 0 ≤ i) (h1 : i < 16) (h2 : 0 ≤ j) (h3 : j < 16) (he : zel (a + 3) i = zel (a + 3) j) : i = j := by
  obtain ⟨x, hx, rfl, hq⟩ := sh_zs h h0 h1
  obtain ⟨y, hy, rfl, hr⟩ := sh_zs h h2 h3
  rw [hq, hr] at he
  have : x = y := by omega
  rw [this]
theorem sh_a_inj (h : iSh a) {j : Int32} (h0 : 0 ≤ i) (h1 : i < 12) (h2 : 0 ≤ j) (h3 : j < 12) (he : zel (a + 4) i = zel (a + 4) j) : i = j := by
  obtain ⟨x, hx, rfl, hq⟩ := sh_za h h0 h1
  obtain ⟨y, hy, rfl, hr⟩ := sh_za h h2 h3
  rw [hq, hr] at he
  have : x = y := by omega
  rw [this]
theorem sh_sR (h : iSh a) (h0 : 0 ≤ i) (h1 : i < 16) : zInR (zN sg) (a + 3) i := by
  obtain ⟨j, hj, rfl, he⟩ := sh_zs h h0 h1
  have hb := h.1
  refine ⟨(by omega : a + 3 < 411), by rw [h.2.2.2.2.1], h0, by rw [h.2.2.2.2.1]; exact h1, rfl, ?_⟩
  have : zel (a + 3) (nI j) < 100000 := by rw [he]; omega
  exact this
theorem sh_aR (h : iSh a) (h0 : 0 ≤ i) (h1 : i < 12) : zInR (zN sg) (a + 4) i := by
  obtain ⟨j, hj, rfl, he⟩ := sh_za h h0 h1
  have hb := h.1
  refine ⟨(by omega : a + 4 < 411), by rw [h.2.2.2.2.2.1], h0, by rw [h.2.2.2.2.2.1]; exact h1, rfl, ?_⟩
  have : zel (a + 4) (nI j) < 100000 := by rw [he]; omega
  exact this
theorem sh_so (h : iSh a) (h0 : 0 ≤ i) (h1 : i < 16) : zOb (zN sg) (zel (a + 3) i) 6 := by
  obtain ⟨j, hj, rfl, he⟩ := sh_zs h h0 h1
  have hb := h.1
  rw [he]
  exact ⟨(by omega : a + 5 + j < 411), h.2.2.2.2.2.2.1 j hj⟩
theorem sh_ao (h : iSh a) (h0 : 0 ≤ i) (h1 : i < 12) : zOb (zN sg) (zel (a + 4) i) 1 := by
  obtain ⟨j, hj, rfl, he⟩ := sh_za h h0 h1
  have hb := h.1
  rw [he]
  exact ⟨(by omega : a + 21 + j < 411), h.2.2.2.2.2.2.2 j hj⟩
theorem sh_cp (h : iSh a) {b : Nat} (hb : iSh b) {n : Int32} (h0 : 0 ≤ n) (h1 : n ≤ 200) : zCp (zN sg) (b + 1) (a + 1) 0 0 n ∧ zCp (zN sg) (b + 2) (a + 2) 0 0 n := by
  have q1 := h.1
  have q2 := hb.1
  refine ⟨⟨(by omega : b + 1 < 411), (by omega : a + 1 < 411), by rw [hb.2.2.1], by rw [hb.2.2.1], by rw [h.2.2.1], by rw [h.2.2.1], by decide, by decide, h0, ?_, ?_, ?_, ?_⟩, ⟨(by omega : b + 2 < 411), (by omega : a + 2 < 411), by rw [hb.2.2.2.1], by rw [hb.2.2.2.1], by rw [h.2.2.2.1], by rw [h.2.2.2.1], by decide, by decide, h0, ?_, ?_, ?_, ?_⟩⟩
  · rw [hb.2.2.1]; exact h1
  · rw [h.2.2.1]; exact h1
  · rw [hb.2.2.1]; show 0 ≤ (200 : Int32) - n; grind
  · rw [h.2.2.1]; show 0 ≤ (200 : Int32) - n; grind
  · rw [hb.2.2.2.1]; exact h1
  · rw [h.2.2.2.1]; exact h1
  · rw [hb.2.2.2.1]; show 0 ≤ (200 : Int32) - n; grind
  · rw [h.2.2.2.1]; show 0 ≤ (200 : Int32) - n; grind
end
theorem hSpB_e {sg : zSig} {x y c : Nat} {j : Int32} (h : y ≠ x) : hSpB sg x y c j = if c = x ∧ 0 ≤ j ∧ j ≤ 8 then sg y j else sg c j := by
  simp only [hSpB, zup_e]
  grind (splits := 40)
theorem hAnB_e {sg : zSig} {x y c : Nat} {j : Int32} (h : y ≠ x) : hAnB sg x y c j = if c = x ∧ 0 ≤ j ∧ j ≤ 3 then sg y j else sg c j := by
  simp only [hAnB, zup_e]
  grind (splits := 40)
/-- sheet a is as sheet b was; nothing else changes -/
def hSB (sg sg' : zSig) (a b : Nat) : Prop := (∀ c j, (c < a ∨ a + 33 ≤ c) → sg' c j = sg c j) ∧ sg' a 2 = sg b 2 ∧ (∀ j, 0 ≤ j → j < sg b 2 → sg' (a + 1) j = sg (b + 1) j ∧ sg' (a + 2) j = sg (b + 2) j) ∧ sg' a 4 = sg b 4 ∧ (∀ k f, 0 ≤ k → k < sg b 4 → 0 ≤ f → f ≤ 8 → sg' (zel (a + 3) k) f = sg (zel (b + 3) k) f) ∧ sg' a 6 = sg b 6 ∧ ∀ k f, 0 ≤ k → k < sg b 6 → 0 ≤ f → f ≤ 3 → sg' (zel (a + 4) k) f = sg (zel (b + 4) k) f
/-- a sheet whose numbers are as they can be -/
def okS (sg : zSig) (b : Nat) : Prop := (0 ≤ sg b 2 ∧ sg b 2 ≤ 200) ∧ (0 ≤ sg b 4 ∧ sg b 4 ≤ 16) ∧ (0 ≤ sg b 6 ∧ sg b 6 ≤ 12) ∧ (∀ k, 0 ≤ k → k < sg b 4 → sg (zel (b + 3) k) 0 = 0 ∨ sg (zel (b + 3) k) 0 = 1) ∧ ∀ k, 0 ≤ k → k < sg b 6 → sg (zel (b + 4) k) 0 = 0 ∨ sg (zel (b + 4) k) 0 = 1
theorem bkShe_become_0 : zBk mShe_become 0 [(1, 0, 1, 0, 0), (1, 1, 1, 0, 0), (5, 5, 2, 0, 2), (6, 5, 2, 0, 2)] = some 8 := by decide +kernel
theorem bkShe_become_8 : zBk mShe_become 8 [(1, 1, 1, 0, 0), (5, 5, 0, 1, 0), (0, 0, 0, 0, 0), (1, 0, 1, 0, 0), (5, 5, 0, 1, 0), (0, 0, 0, 0, 0), (1, 0, 1, 0, 0), (5, 5, 2, 0, 2)] = some 22 := by decide +kernel
theorem bkShe_become_25 : zBk mShe_become 25 [(1, 1, 1, 0, 0), (5, 5, 1, 2, 1), (0, 0, 0, 0, 0), (1, 0, 1, 0, 0), (5, 5, 1, 2, 1), (0, 0, 0, 0, 0), (1, 0, 1, 0, 0), (5, 5, 2, 0, 2)] = some 39 := by decide +kernel
theorem bkShe_become_42 : zBk mShe_become 42 [(1, 0, 1, 0, 0), (1, 1, 1, 0, 0), (5, 5, 4, 0, 4), (6, 5, 4, 0, 4)] = some 50 := by decide +kernel
theorem bkShe_become_50 : zBk mShe_become 50 [(0, 0, 0, 0, 0), (2, 2, 0, 0, 0)] = some 52 := by decide +kernel
theorem bkShe_become_52 : zBk mShe_become 52 [(1, 2, 0, 0, 0), (1, 0, 1, 0, 0), (5, 5, 4, 0, 4)] = some 57 := by decide +kernel
theorem bkShe_become_81 : zBk mShe_become 81 [(1, 0, 1, 0, 0), (1, 1, 1, 0, 0), (5, 5, 6, 0, 6), (6, 5, 6, 0, 6)] = some 89 := by decide +kernel
theorem bkShe_become_89 : zBk mShe_become 89 [(0, 0, 0, 0, 0), (2, 2, 0, 0, 0)] = some 91 := by decide +kernel
theorem bkShe_become_91 : zBk mShe_become 91 [(1, 2, 0, 0, 0), (1, 0, 1, 0, 0), (5, 5, 6, 0, 6)] = some 96 := by decide +kernel
theorem bkShe_become_120 : zBk mShe_become 120 [] = some 120 := by decide +kernel
theorem bkShe_become_99 : zBk mShe_become 99 [(1, 0, 1, 0, 0), (5, 5, 5, 4, 5), (1, 2, 0, 0, 0), (9, 0, 0, 0, 0), (1, 1, 1, 0, 0), (5, 5, 5, 4, 5), (1, 2, 0, 0, 0), (9, 0, 0, 0, 0)] = some 111 := by decide +kernel
theorem bkShe_become_114 : zBk mShe_become 114 [(3, 2, 0, 0, 1), (22, 91, 0, 0, 0)] = some 91 := by decide +kernel
theorem bkShe_become_60 : zBk mShe_become 60 [(1, 0, 1, 0, 0), (5, 5, 3, 3, 3), (1, 2, 0, 0, 0), (9, 0, 0, 0, 0), (1, 1, 1, 0, 0), (5, 5, 3, 3, 3), (1, 2, 0, 0, 0), (9, 0, 0, 0, 0)] = some 72 := by decide +kernel
theorem bkShe_become_75 : zBk mShe_become 75 [(3, 2, 0, 0, 1), (22, 52, 0, 0, 0)] = some 52 := by decide +kernel
theorem bdShe_become_22 : decode mShe_become.2.2.1 22 = .ok (.invokestatic 42, 3) := by decide +kernel
theorem bdShe_become_39 : decode mShe_become.2.2.1 39 = .ok (.invokestatic 42, 3) := by decide +kernel
theorem bdShe_become_57 : decode mShe_become.2.2.1 57 = .ok (.if_icmp .ge 24, 3) := by decide +kernel
theorem bdShe_become_72 : decode mShe_become.2.2.1 72 = .ok (.invokevirtual 48, 3) := by decide +kernel
theorem bdShe_become_96 : decode mShe_become.2.2.1 96 = .ok (.if_icmp .ge 24, 3) := by decide +kernel
theorem bdShe_become_111 : decode mShe_become.2.2.1 111 = .ok (.invokevirtual 52, 3) := by decide +kernel
theorem bdShe_become_120 : decode mShe_become.2.2.1 120 = .ok (.return_, 1) := by decide +kernel
theorem lShe_become {sg : zSig} {a b : Nat} (ia : iSh a) (ib : iSh b) (hd : a + 33 ≤ b ∨ b + 33 ≤ a) (ob : okS sg b)  {Q : Option Value → zHp → Prop} (hq : ∀ rr h', (∃ sg', rr = none ∧ h' = zN sg' ∧ hSB sg sg' a b) → Q rr h') : zG mShe_become 411 Q 0 [(0, .ref a), (1, .ref b)] [] (zN sg) := by
  obtain ⟨⟨z1, z2⟩, ⟨z3, z4⟩, ⟨z5, z6⟩, -⟩ := id ob
  refine zG_run bkShe_become_0 (lv' := [(0, .ref a), (1, .ref b)]) (st' := []) (h' := zN (zup sg a 2 (sg b 2))) (Ps := [zOb (zN sg) b 5, zOb (zN sg) a 5]) rfl (zA (sh_ob ib) (zA (sh_ob ia) trivial)) ?_
  refine zG_nm (sg := zup sg a 2 (sg b 2)) (fun sg1 e1 => ?_)
  have f1 : ∀ c j, (c < a ∨ a + 33 ≤ c) → sg1 c j = sg c j := fun c j h => by rw [e1, zup_e, if_neg (by omega)]
  have s1 : sg1 a 2 = sg b 2 := by rw [e1]; exact zup_s
  refine zG_run bkShe_become_8 (lv' := [(0, .ref a), (1, .ref b)]) (st' := [.int (sg1 a 2), .int 0, .ref (a + 1), .int 0, .ref (b + 1)]) (h' := zN sg1) (Ps := [zOb (zN sg1) b 5 ∧ (zN sg1).2.2 b 0 = true, zOb (zN sg1) a 5 ∧ (zN sg1).2.2 a 0 = true, zOb (zN sg1) a 5]) rfl (zA ⟨(sh_ob ib), rfl⟩ (zA ⟨(sh_ob ia), rfl⟩ (zA (sh_ob ia) trivial))) ?_
  refine zs_acopy bdShe_become_22 lk5_42 (And.intro (by decide) (by decide)) (Nat.le_of_ble_eq_true rfl) (sh_cp ia ib (n := sg1 a 2) (by grind) (by grind)).1 ?_
  refine zG_nm (sg := zcp sg1 (b + 1) (a + 1) 0 0 (sg1 a 2)) (fun sg2 e2 => ?_)
  have f2 : ∀ c j, (c < a ∨ a + 33 ≤ c) → sg2 c j = sg c j := fun c j h => by rw [e2, zcp_e, if_neg (by omega)]; exact f1 c j h
  have s2 : sg2 a 2 = sg b 2 := by rw [e2, zcp_e, if_neg (by omega)]; exact s1
  have l2 : ∀ j, 0 ≤ j → j < sg b 2 → sg2 (a + 1) j = sg (b + 1) j := fun j h1 h2 => by rw [e2, zcp_e, if_pos ⟨rfl, h1, by rw [s1]; grind⟩, f1 _ _ (by omega)]; congr 1; grind
  refine zG_run bkShe_become_25 (lv' := [(0, .ref a), (1, .ref b)]) (st' := [.int (sg2 a 2), .int 0, .ref (a + 2), .int 0, .ref (b + 2)]) (h' := zN sg2) (Ps := [zOb (zN sg2) b 5 ∧ (zN sg2).2.2 b 1 = true, zOb (zN sg2) a 5 ∧ (zN sg2).2.2 a 1 = true, zOb (zN sg2) a 5]) rfl (zA ⟨(sh_ob ib), rfl⟩ (zA ⟨(sh_ob ia), rfl⟩ (zA (sh_ob ia) trivial))) ?_
  refine zs_acopy bdShe_become_39 lk5_42 (And.intro (by decide) (by decide)) (Nat.le_of_ble_eq_true rfl) (sh_cp ia ib (n := sg2 a 2) (by grind) (by grind)).2 ?_
  refine zG_nm (sg := zcp sg2 (b + 2) (a + 2) 0 0 (sg2 a 2)) (fun sg3 e3 => ?_)
  have f3 : ∀ c j, (c < a ∨ a + 33 ≤ c) → sg3 c j = sg c j := fun c j h => by rw [e3, zcp_e, if_neg (by omega)]; exact f2 c j h
  have s3 : sg3 a 2 = sg b 2 := by rw [e3, zcp_e, if_neg (by omega)]; exact s2
  have l3 : ∀ j, 0 ≤ j → j < sg b 2 → sg3 (a + 1) j = sg (b + 1) j := fun j h1 h2 => by rw [e3, zcp_e, if_neg (by omega)]; exact l2 j h1 h2
  have p3 : ∀ j, 0 ≤ j → j < sg b 2 → sg3 (a + 2) j = sg (b + 2) j := fun j h1 h2 => by rw [e3, zcp_e, if_pos ⟨rfl, h1, by rw [s2]; grind⟩, f2 _ _ (by omega)]; congr 1; grind
  refine zG_run bkShe_become_42 (lv' := [(0, .ref a), (1, .ref b)]) (st' := []) (h' := zN (zup sg3 a 4 (sg3 b 4))) (Ps := [zOb (zN sg3) b 5, zOb (zN sg3) a 5]) rfl (zA (sh_ob ib) (zA (sh_ob ia) trivial)) ?_
  refine zG_nm (sg := zup sg3 a 4 (sg3 b 4)) (fun sg4 e4 => ?_)
  have f4 : ∀ c j, (c < a ∨ a + 33 ≤ c) → sg4 c j = sg c j := fun c j h => by rw [e4, zup_e, if_neg (by omega)]; exact f3 c j h
  have s4 : sg4 a 2 = sg b 2 := by rw [e4, zup_i (by decide)]; exact s3
  have l4 : ∀ j, 0 ≤ j → j < sg b 2 → sg4 (a + 1) j = sg (b + 1) j := fun j h1 h2 => by rw [e4, zup_a (by omega)]; exact l3 j h1 h2
  have p4 : ∀ j, 0 ≤ j → j < sg b 2 → sg4 (a + 2) j = sg (b + 2) j := fun j h1 h2 => by rw [e4, zup_a (by omega)]; exact p3 j h1 h2
  have g4 : sg4 a 4 = sg b 4 := by rw [e4, zup_s]; exact f3 b 4 (by omega)
  refine zG_run bkShe_become_50 (lv' := [(2, .int 0), (0, .ref a), (1, .ref b)]) (st' := []) (h' := zN sg4) (Ps := []) rfl trivial ?_
  refine zG_pick (lv' := [(0, .ref a), (1, .ref b), (2, .int 0)]) [1, 2, 0] rfl ?_
  refine zlp2 (fun (k : Int32) (sg5 : zSig) => zG mShe_become 411 Q 52 [(0, .ref a), (1, .ref b), (2, .int k)] [] (zN sg5)) (fun (k : Int32) (sg5 : zSig) => (0 ≤ k) ∧ (k ≤ sg b 4) ∧ (∀ c j, (c < a ∨ a + 33 ≤ c) → sg5 c j = sg c j) ∧ (sg5 a 2 = sg b 2) ∧ (∀ j, 0 ≤ j → j < sg b 2 → sg5 (a + 1) j = sg (b + 1) j) ∧ (∀ j, 0 ≤ j → j < sg b 2 → sg5 (a + 2) j = sg (b + 2) j) ∧ (sg5 a 4 = sg b 4) ∧ (∀ k2 f, 0 ≤ k2 → k2 < k → 0 ≤ f → f ≤ 8 → sg5 (zel (a + 3) k2) f = sg (zel (b + 3) k2) f)) (fun (k : Int32) (sg5 : zSig) => zmu (sg b 4) k) ?_ 0 sg4 ?_
  · intro k sg5 hk ihk
    obtain ⟨k0, k1, kf, ks, kl, kp, kg, kk⟩ := hk
    refine zb_icge (tgt := 81) bkShe_become_52 bdShe_become_57 (by decide) (lv' := [(0, .ref a), (1, .ref b), (2, .int k)]) (st' := []) (h' := zN sg5) (x := k) (y := sg5 a 4) (Ps := [zOb (zN sg5) a 5]) rfl (zA (sh_ob ia) trivial) (fun c1 => ?_) (fun c1 => ?_)
    · skip
      refine zG_run bkShe_become_81 (lv' := [(0, .ref a), (1, .ref b), (2, .int k)]) (st' := []) (h' := zN (zup sg5 a 6 (sg5 b 6))) (Ps := [zOb (zN sg5) b 5, zOb (zN sg5) a 5]) rfl (zA (sh_ob ib) (zA (sh_ob ia) trivial)) ?_
      refine zG_nm (sg := zup sg5 a 6 (sg5 b 6)) (fun sg6 e6 => ?_)
      have f6 : ∀ c j, (c < a ∨ a + 33 ≤ c) → sg6 c j = sg c j := fun c j h => by rw [e6, zup_e, if_neg (by omega)]; exact kf c j h
      have s6 : sg6 a 2 = sg b 2 := by rw [e6, zup_i (by decide)]; exact ks
      have l6 : ∀ j, 0 ≤ j → j < sg b 2 → sg6 (a + 1) j = sg (b + 1) j := fun j h1 h2 => by rw [e6, zup_a (by omega)]; exact kl j h1 h2
      have p6 : ∀ j, 0 ≤ j → j < sg b 2 → sg6 (a + 2) j = sg (b + 2) j := fun j h1 h2 => by rw [e6, zup_a (by omega)]; exact kp j h1 h2
      have g6 : sg6 a 4 = sg b 4 := by rw [e6, zup_i (by decide)]; exact kg
      have q6 : ∀ k2 f, 0 ≤ k2 → k2 < sg b 4 → 0 ≤ f → f ≤ 8 → sg6 (zel (a + 3) k2) f = sg (zel (b + 3) k2) f := fun k2 f h1 h2 h3 h4 => by have zk := sh_s_rng ia h1 (by grind : k2 < 16); rw [e6, zup_a (by omega)]; exact kk k2 f h1 (by grind) h3 h4
      have h6 : sg6 a 6 = sg b 6 := by rw [e6, zup_s]; exact kf b 6 (by omega)
      refine zG_run bkShe_become_89 (lv' := [(2, .int 0), (0, .ref a), (1, .ref b)]) (st' := []) (h' := zN sg6) (Ps := []) rfl trivial ?_
      refine zG_pick (lv' := [(0, .ref a), (1, .ref b), (2, .int 0)]) [1, 2, 0] rfl ?_
      refine zlp2 (fun (m : Int32) (sg7 : zSig) => zG mShe_become 411 Q 91 [(0, .ref a), (1, .ref b), (2, .int m)] [] (zN sg7)) (fun (m : Int32) (sg7 : zSig) => (0 ≤ m) ∧ (m ≤ sg b 6) ∧ (∀ c j, (c < a ∨ a + 33 ≤ c) → sg7 c j = sg c j) ∧ (sg7 a 2 = sg b 2) ∧ (∀ j, 0 ≤ j → j < sg b 2 → sg7 (a + 1) j = sg (b + 1) j) ∧ (∀ j, 0 ≤ j → j < sg b 2 → sg7 (a + 2) j = sg (b + 2) j) ∧ (sg7 a 4 = sg b 4) ∧ (∀ k2 f, 0 ≤ k2 → k2 < sg b 4 → 0 ≤ f → f ≤ 8 → sg7 (zel (a + 3) k2) f = sg (zel (b + 3) k2) f) ∧ (sg7 a 6 = sg b 6) ∧ (∀ k2 f, 0 ≤ k2 → k2 < m → 0 ≤ f → f ≤ 3 → sg7 (zel (a + 4) k2) f = sg (zel (b + 4) k2) f)) (fun (m : Int32) (sg7 : zSig) => zmu (sg b 6) m) ?_ 0 sg6 ?_
      · intro m sg7 hm ihm
        obtain ⟨m0, m1, mf, ms, ml, mp, mg, mk, mh, mm⟩ := hm
        refine zb_icge (tgt := 120) bkShe_become_91 bdShe_become_96 (by decide) (lv' := [(0, .ref a), (1, .ref b), (2, .int m)]) (st' := []) (h' := zN sg7) (x := m) (y := sg7 a 6) (Ps := [zOb (zN sg7) a 5]) rfl (zA (sh_ob ia) trivial) (fun c2 => ?_) (fun c2 => ?_)
        · skip
          refine zb_vret bkShe_become_120 bdShe_become_120 rfl (h' := zN sg7) (Ps := []) rfl trivial rfl ?_
          refine hq _ _ ?_
          exact ⟨sg7, rfl, rfl, mf, ms, fun j h1 h2 => ⟨ml j h1 h2, mp j h1 h2⟩, mg, mk, mh, fun k f h1 h2 h3 h4 => mm k f h1 (by grind) h3 h4⟩
        · skip
          have hlt : m < sg b 6 := by grind
          have za := sh_a_rng ia m0 (by grind : m < 12)
          have zb := sh_a_rng ib m0 (by grind : m < 12)
          refine zG_run bkShe_become_99 (lv' := [(0, .ref a), (1, .ref b), (2, .int m)]) (st' := [.ref (zel (b + 4) m), .ref (zel (a + 4) m)]) (h' := zN sg7) (Ps := [zOb (zN sg7) a 5 ∧ (zN sg7).2.2 a 5 = true, zInR (zN sg7) (a + 4) m, zOb (zN sg7) b 5 ∧ (zN sg7).2.2 b 5 = true, zInR (zN sg7) (b + 4) m]) rfl (zA ⟨(sh_ob ia), rfl⟩ (zA (sh_aR ia (i := m) (by grind) (by grind)) (zA ⟨(sh_ob ib), rfl⟩ (zA (sh_aR ib (i := m) (by grind) (by grind)) trivial)))) ?_
          refine zG_callv (a := zel (a + 4) m) (c := 1) (As := [.ref (zel (b + 4) m)]) (rest := []) (N2 := 411) bdShe_become_111 okAnc_become lk5_52 (And.intro (by decide) (by decide)) (by decide) rfl rfl rfl (Nat.le_of_ble_eq_true rfl) (Nat.le_of_ble_eq_true rfl) (Nat.le_refl 411) (Nat.le_refl 411) (sh_ao ia (i := m) (by grind) (by grind)) (cAnc_become (sh_ao ia (i := m) (by grind) (by grind)) (sh_ao ib (i := m) (by grind) (by grind)) (by omega) (by rw [mf _ _ (by omega)]; exact ob.2.2.2.2 m m0 hlt)) ?_
          rintro rr h' ⟨rfl, rfl⟩ -
          refine zG_run bkShe_become_114 (lv' := [(2, .int (m + 1)), (0, .ref a), (1, .ref b)]) (st' := []) (h' := zN (hAnB sg7 (zel (a + 4) m) (zel (b + 4) m))) (Ps := []) rfl trivial ?_
          refine zG_pick (lv' := [(0, .ref a), (1, .ref b), (2, .int (m + 1))]) [1, 2, 0] rfl ?_
          refine ihm (m + 1) (hAnB sg7 (zel (a + 4) m) (zel (b + 4) m)) ?_ ?_
          · refine ⟨?_, ?_, ?_, ?_, ?_, ?_, ?_, ?_, ?_, ?_⟩
            · grind
            · grind
            · intro c j hc; rw [hAnB_e (by omega), if_neg (by omega)]; exact mf c j hc
            · rw [hAnB_e (by omega), if_neg (by omega)]; exact ms
            · intro j h1 h2; rw [hAnB_e (by omega), if_neg (by omega)]; exact ml j h1 h2
            · intro j h1 h2; rw [hAnB_e (by omega), if_neg (by omega)]; exact mp j h1 h2
            · rw [hAnB_e (by omega), if_neg (by omega)]; exact mg
            · intro k2 f h1 h2 h3 h4; have zk := sh_s_rng ia h1 (by grind : k2 < 16); rw [hAnB_e (by omega), if_neg (by omega)]; exact mk k2 f h1 h2 h3 h4
            · rw [hAnB_e (by omega), if_neg (by omega)]; exact mh
            · intro k2 f h1 h2 h3 h4; rw [hAnB_e (by omega)]; by_cases hk : k2 = m
              · subst hk; rw [if_pos ⟨rfl, h3, h4⟩]; exact mf _ f (by omega)
              · rw [if_neg (fun q => hk (sh_a_inj ia h1 (by grind) m0 (by grind) q.1))]; exact mm k2 f h1 (by grind) h3 h4
          · exact zmu_up (by grind)
      · refine ⟨?_, ?_, ?_, ?_, ?_, ?_, ?_, ?_, ?_, ?_⟩
        · grind
        · grind
        · exact f6
        · exact s6
        · exact l6
        · exact p6
        · exact g6
        · exact q6
        · exact h6
        · grind
    · skip
      have hlt : k < sg b 4 := by grind
      have za := sh_s_rng ia k0 (by grind : k < 16)
      have zb := sh_s_rng ib k0 (by grind : k < 16)
      refine zG_run bkShe_become_60 (lv' := [(0, .ref a), (1, .ref b), (2, .int k)]) (st' := [.ref (zel (b + 3) k), .ref (zel (a + 3) k)]) (h' := zN sg5) (Ps := [zOb (zN sg5) a 5 ∧ (zN sg5).2.2 a 3 = true, zInR (zN sg5) (a + 3) k, zOb (zN sg5) b 5 ∧ (zN sg5).2.2 b 3 = true, zInR (zN sg5) (b + 3) k]) rfl (zA ⟨(sh_ob ia), rfl⟩ (zA (sh_sR ia (i := k) (by grind) (by grind)) (zA ⟨(sh_ob ib), rfl⟩ (zA (sh_sR ib (i := k) (by grind) (by grind)) trivial)))) ?_
      refine zG_callv (a := zel (a + 3) k) (c := 6) (As := [.ref (zel (b + 3) k)]) (rest := []) (N2 := 411) bdShe_become_72 okSpa_become lk5_48 (And.intro (by decide) (by decide)) (by decide) rfl rfl rfl (Nat.le_of_ble_eq_true rfl) (Nat.le_of_ble_eq_true rfl) (Nat.le_refl 411) (Nat.le_refl 411) (sh_so ia (i := k) (by grind) (by grind)) (cSpa_become (sh_so ia (i := k) (by grind) (by grind)) (sh_so ib (i := k) (by grind) (by grind)) (by omega) (by rw [kf _ _ (by omega)]; exact ob.2.2.2.1 k k0 hlt)) ?_
      rintro rr h' ⟨rfl, rfl⟩ -
      refine zG_run bkShe_become_75 (lv' := [(2, .int (k + 1)), (0, .ref a), (1, .ref b)]) (st' := []) (h' := zN (hSpB sg5 (zel (a + 3) k) (zel (b + 3) k))) (Ps := []) rfl trivial ?_
      refine zG_pick (lv' := [(0, .ref a), (1, .ref b), (2, .int (k + 1))]) [1, 2, 0] rfl ?_
      refine ihk (k + 1) (hSpB sg5 (zel (a + 3) k) (zel (b + 3) k)) ?_ ?_
      · refine ⟨?_, ?_, ?_, ?_, ?_, ?_, ?_, ?_⟩
        · grind
        · grind
        · intro c j hc; rw [hSpB_e (by omega), if_neg (by omega)]; exact kf c j hc
        · rw [hSpB_e (by omega), if_neg (by omega)]; exact ks
        · intro j h1 h2; rw [hSpB_e (by omega), if_neg (by omega)]; exact kl j h1 h2
        · intro j h1 h2; rw [hSpB_e (by omega), if_neg (by omega)]; exact kp j h1 h2
        · rw [hSpB_e (by omega), if_neg (by omega)]; exact kg
        · intro k2 f h1 h2 h3 h4; rw [hSpB_e (by omega)]; by_cases hk : k2 = k
          · subst hk; rw [if_pos ⟨rfl, h3, h4⟩]; exact kf _ f (by omega)
          · rw [if_neg (fun q => hk (sh_s_inj ia h1 (by grind) k0 (by grind) q.1))]; exact kk k2 f h1 (by grind) h3 h4
      · exact zmu_up (by grind)
  · refine ⟨?_, ?_, ?_, ?_, ?_, ?_, ?_, ?_⟩
    · grind
    · grind
    · exact f4
    · exact s4
    · exact l4
    · exact p4
    · exact g4
    · grind
theorem cShe_become {sg : zSig} {a b : Nat} (ia : iSh a) (ib : iSh b) (hd : a + 33 ≤ b ∨ b + 33 ≤ a) (ob : okS sg b)  : zG mShe_become 411 (fun rr h' => ∃ sg', rr = none ∧ h' = zN sg' ∧ hSB sg sg' a b) 0 [(0, .ref a), (1, .ref b)] [] (zN sg) := lShe_become ia ib hd ob (fun _ _ q => q)
end
section
/-! letters come, go, move: printed by wip/whole/p19.py -/
theorem zmu_ud {l r : Int32} (h : l < r) : zmu (r + (-1)) (l + 1) < zmu r l := by
  have h1 := zi1 h
  have h2 : (r + (-1)).toInt = r.toInt - 1 := by
    rw [show r + (-1) = r - 1 by grind]
    exact zi1m h
  rw [Int32.lt_iff_toInt_lt] at h
  unfold zmu
  omega
/-- a change of one cell that hangs on that cell alone -/
def zloc (H : zSig → Nat → zSig) : Prop := (∀ sg x c f, c ≠ x → H sg x c f = sg c f) ∧ ∀ sg sg' x, (∀ f, sg x f = sg' x f) → ∀ f, H sg x x f = H sg' x x f
def iSp (H : zSig → Nat → zSig) (sg sg1 : zSig) (k : Int32) : Prop := (∀ c j, (c < 6 ∨ 22 ≤ c) → sg1 c j = sg c j) ∧ ∀ k2 f, 0 ≤ k2 → k2 < 16 → sg1 (zel 4 k2) f = if k2 < k then H sg (zel 4 k2) (zel 4 k2) f else sg (zel 4 k2) f
def iAn (H : zSig → Nat → zSig) (sg sg1 : zSig) (k : Int32) : Prop := (∀ c j, (c < 22 ∨ 34 ≤ c) → sg1 c j = sg c j) ∧ ∀ k2 f, 0 ≤ k2 → k2 < 12 → sg1 (zel 5 k2) f = if k2 < k then H sg (zel 5 k2) (zel 5 k2) f else sg (zel 5 k2) f
theorem iSp_0 {H : zSig → Nat → zSig} {sg : zSig} : iSp H sg sg 0 := ⟨fun _ _ _ => rfl, fun k2 f h0 _ => by rw [if_neg (by grind)]⟩
theorem iAn_0 {H : zSig → Nat → zSig} {sg : zSig} : iAn H sg sg 0 := ⟨fun _ _ _ => rfl, fun k2 f h0 _ => by rw [if_neg (by grind)]⟩
theorem iSp_s {H : zSig → Nat → zSig} {sg sg1 : zSig} {k : Int32} (hl : zloc H) (h : iSp H sg sg1 k) (h0 : 0 ≤ k) (h1 : k < 16) : iSp H sg (H sg1 (zel 4 k)) (k + 1) := by
  have hz := zel4_rng h0 h1
  refine ⟨fun c j hc => ?_, fun k2 f h2 h3 => ?_⟩
  · rw [hl.1 _ _ _ _ (by omega)]; exact h.1 c j hc
  · by_cases hk : k2 = k
    · subst hk
      rw [if_pos (by grind), hl.2 sg1 sg (zel 4 k2) (fun f => by rw [h.2 k2 f h2 h3, if_neg (by grind)])]
    · rw [hl.1 _ _ _ _ (fun q => hk (zel4_inj h2 h3 h0 h1 q)), h.2 k2 f h2 h3]
      by_cases hlt : k2 < k
      · rw [if_pos hlt, if_pos (by grind)]
      · rw [if_neg hlt, if_neg (by grind)]
theorem iAn_s {H : zSig → Nat → zSig} {sg sg1 : zSig} {k : Int32} (hl : zloc H) (h : iAn H sg sg1 k) (h0 : 0 ≤ k) (h1 : k < 12) : iAn H sg (H sg1 (zel 5 k)) (k + 1) := by
  have hz := zel5_rng h0 h1
  refine ⟨fun c j hc => ?_, fun k2 f h2 h3 => ?_⟩
  · rw [hl.1 _ _ _ _ (by omega)]; exact h.1 c j hc
  · by_cases hk : k2 = k
    · subst hk
      rw [if_pos (by grind), hl.2 sg1 sg (zel 5 k2) (fun f => by rw [h.2 k2 f h2 h3, if_neg (by grind)])]
    · rw [hl.1 _ _ _ _ (fun q => hk (zel5_inj h2 h3 h0 h1 q)), h.2 k2 f h2 h3]
      by_cases hlt : k2 < k
      · rw [if_pos hlt, if_pos (by grind)]
      · rw [if_neg hlt, if_neg (by grind)]
def hAnC (sg : zSig) (x : Nat) (p m : Int32) : zSig := zup sg x 1 (pOn (sg x 1) (sg x 2) p m)
def hAnM (sg : zSig) (x : Nat) (p q r : Int32) : zSig := zup sg x 1 (pMv (sg x 1) (sg x 2) p q r)
def hSpMs (sg : zSig) (x : Nat) (p q r : Int32) : zSig := if sg x 0 = 0 then sg else hSpM sg x p q r
theorem loc_SpC (p m : Int32) : zloc (fun sg x => hSpC sg x p m) := ⟨fun sg x c f h => by simp [hSpC, zup_e, h], fun sg sg' x h f => by simp [hSpC, zup_e, h]⟩
theorem loc_SpG (p q : Int32) : zloc (fun sg x => hSpG sg x p q) := ⟨fun sg x c f h => by simp only [hSpG]; split <;> simp [zup_e, h], fun sg sg' x h f => by simp only [hSpG, h]; split <;> simp [zup_e, h]⟩
theorem loc_SpM (p q r : Int32) : zloc (fun sg x => hSpMs sg x p q r) := by
  refine ⟨fun sg x c f h => ?_, fun sg sg' x h f => ?_⟩
  · simp only [hSpMs, hSpM]
    split
    · rfl
    · split <;> simp [zup_e, h]
  · simp only [hSpMs, hSpM, h]
    split
    · exact h f
    · split <;> simp [zup_e, h]
theorem loc_AnC (p m : Int32) : zloc (fun sg x => hAnC sg x p m) := ⟨fun sg x c f h => by simp [hAnC, zup_e, h], fun sg sg' x h f => by simp [hAnC, zup_e, h]⟩
theorem loc_AnM (p q r : Int32) : zloc (fun sg x => hAnM sg x p q r) := ⟨fun sg x c f h => by simp [hAnM, zup_e, h], fun sg sg' x h f => by simp [hAnM, zup_e, h]⟩
theorem loc_AnG (p q : Int32) : zloc (fun sg x => hAnG sg x p q) := ⟨fun sg x c f h => by simp only [hAnG]; split <;> simp [zup_e, h], fun sg sg' x h f => by simp only [hAnG, h]; split <;> simp [zup_e, h]⟩
theorem bkShe_hasSpan_0 : zBk mShe_hasSpan 0 [(1, 1, 0, 0, 0)] = some 1 := by decide +kernel
theorem bkShe_hasSpan_28 : zBk mShe_hasSpan 28 [(0, 0, 0, 0, 0)] = some 29 := by decide +kernel
theorem bkShe_hasSpan_4 : zBk mShe_hasSpan 4 [(1, 1, 0, 0, 0), (1, 0, 1, 0, 0), (5, 5, 4, 0, 4)] = some 9 := by decide +kernel
theorem bkShe_hasSpan_12 : zBk mShe_hasSpan 12 [(1, 0, 1, 0, 0), (5, 5, 3, 3, 3), (1, 1, 0, 0, 0), (9, 0, 0, 0, 0), (5, 6, 0, 0, 0)] = some 21 := by decide +kernel
theorem bkShe_hasSpan_24 : zBk mShe_hasSpan 24 [(0, 0, 0, 0, 1), (22, 29, 0, 0, 0)] = some 29 := by decide +kernel
theorem bdShe_hasSpan_1 : decode mShe_hasSpan.2.2.1 1 = .ok (.ifCond .lt 27, 3) := by decide +kernel
theorem bdShe_hasSpan_9 : decode mShe_hasSpan.2.2.1 9 = .ok (.if_icmp .ge 19, 3) := by decide +kernel
theorem bdShe_hasSpan_21 : decode mShe_hasSpan.2.2.1 21 = .ok (.ifCond .eq 7, 3) := by decide +kernel
theorem bdShe_hasSpan_29 : decode mShe_hasSpan.2.2.1 29 = .ok (.ireturn, 1) := by decide +kernel
theorem cShe_hasSpan {sg : zSig} {n : Int32} (hn : sg 1 4 ≤ 16) : zG mShe_hasSpan 411 (fun rr h' => rr = some (.int (if (0 ≤ n ∧ n < sg 1 4) ∧ sg (zel 4 n) 0 ≠ 0 then 1 else 0)) ∧ h' = zN sg) 0 [(0, .ref 1), (1, .int n)] [] (zN sg) := by
  refine zb_iflt (tgt := 28) bkShe_hasSpan_0 bdShe_hasSpan_1 (by decide) (lv' := [(0, .ref 1), (1, .int n)]) (st' := []) (h' := zN sg) (x := n) (Ps := []) rfl trivial (fun c1 => ?_) (fun c1 => ?_)
  · skip
    refine zb_zret bkShe_hasSpan_28 bdShe_hasSpan_29 rfl (x := 0) (h' := zN sg) (Ps := []) rfl trivial rfl (Or.inl rfl) ?_
    exact ⟨by grind, rfl⟩
  · skip
    refine zb_icge (tgt := 28) bkShe_hasSpan_4 bdShe_hasSpan_9 (by decide) (lv' := [(0, .ref 1), (1, .int n)]) (st' := []) (h' := zN sg) (x := n) (y := sg 1 4) (Ps := [zOb (zN sg) 1 5]) rfl (zA zob_1 trivial) (fun c2 => ?_) (fun c2 => ?_)
    · skip
      refine zb_zret bkShe_hasSpan_28 bdShe_hasSpan_29 rfl (x := 0) (h' := zN sg) (Ps := []) rfl trivial rfl (Or.inl rfl) ?_
      exact ⟨by grind, rfl⟩
    · skip
      refine zb_ifeq (tgt := 28) bkShe_hasSpan_12 bdShe_hasSpan_21 (by decide) (lv' := [(0, .ref 1), (1, .int n)]) (st' := []) (h' := zN sg) (x := sg (zel 4 n) 0) (Ps := [zOb (zN sg) 1 5 ∧ (zN sg).2.2 1 3 = true, zInR (zN sg) 4 n, zOb (zN sg) (zel 4 n) 6]) rfl (zA ⟨zob_1, rfl⟩ (zA (zinR_4 (i := n) (by grind) (by grind)) (zA (zel_ob4 (i := n) (by grind) (by grind)) trivial))) (fun c3 => ?_) (fun c3 => ?_)
      · skip
        refine zb_zret bkShe_hasSpan_28 bdShe_hasSpan_29 rfl (x := 0) (h' := zN sg) (Ps := []) rfl trivial rfl (Or.inl rfl) ?_
        exact ⟨by grind, rfl⟩
      · skip
        refine zb_zret bkShe_hasSpan_24 bdShe_hasSpan_29 rfl (x := 1) (h' := zN sg) (Ps := []) rfl trivial rfl (Or.inr rfl) ?_
        exact ⟨by grind, rfl⟩
theorem bkShe_hasAnchor_0 : zBk mShe_hasAnchor 0 [(1, 1, 0, 0, 0)] = some 1 := by decide +kernel
theorem bkShe_hasAnchor_28 : zBk mShe_hasAnchor 28 [(0, 0, 0, 0, 0)] = some 29 := by decide +kernel
theorem bkShe_hasAnchor_4 : zBk mShe_hasAnchor 4 [(1, 1, 0, 0, 0), (1, 0, 1, 0, 0), (5, 5, 6, 0, 6)] = some 9 := by decide +kernel
theorem bkShe_hasAnchor_12 : zBk mShe_hasAnchor 12 [(1, 0, 1, 0, 0), (5, 5, 5, 4, 5), (1, 1, 0, 0, 0), (9, 0, 0, 0, 0), (5, 1, 0, 0, 0)] = some 21 := by decide +kernel
theorem bkShe_hasAnchor_24 : zBk mShe_hasAnchor 24 [(0, 0, 0, 0, 1), (22, 29, 0, 0, 0)] = some 29 := by decide +kernel
theorem bdShe_hasAnchor_1 : decode mShe_hasAnchor.2.2.1 1 = .ok (.ifCond .lt 27, 3) := by decide +kernel
theorem bdShe_hasAnchor_9 : decode mShe_hasAnchor.2.2.1 9 = .ok (.if_icmp .ge 19, 3) := by decide +kernel
theorem bdShe_hasAnchor_21 : decode mShe_hasAnchor.2.2.1 21 = .ok (.ifCond .eq 7, 3) := by decide +kernel
theorem bdShe_hasAnchor_29 : decode mShe_hasAnchor.2.2.1 29 = .ok (.ireturn, 1) := by decide +kernel
theorem cShe_hasAnchor {sg : zSig} {n : Int32} (hn : sg 1 6 ≤ 12) : zG mShe_hasAnchor 411 (fun rr h' => rr = some (.int (if (0 ≤ n ∧ n < sg 1 6) ∧ sg (zel 5 n) 0 ≠ 0 then 1 else 0)) ∧ h' = zN sg) 0 [(0, .ref 1), (1, .int n)] [] (zN sg) := by
  refine zb_iflt (tgt := 28) bkShe_hasAnchor_0 bdShe_hasAnchor_1 (by decide) (lv' := [(0, .ref 1), (1, .int n)]) (st' := []) (h' := zN sg) (x := n) (Ps := []) rfl trivial (fun c1 => ?_) (fun c1 => ?_)
  · skip
    refine zb_zret bkShe_hasAnchor_28 bdShe_hasAnchor_29 rfl (x := 0) (h' := zN sg) (Ps := []) rfl trivial rfl (Or.inl rfl) ?_
    exact ⟨by grind, rfl⟩
  · skip
    refine zb_icge (tgt := 28) bkShe_hasAnchor_4 bdShe_hasAnchor_9 (by decide) (lv' := [(0, .ref 1), (1, .int n)]) (st' := []) (h' := zN sg) (x := n) (y := sg 1 6) (Ps := [zOb (zN sg) 1 5]) rfl (zA zob_1 trivial) (fun c2 => ?_) (fun c2 => ?_)
    · skip
      refine zb_zret bkShe_hasAnchor_28 bdShe_hasAnchor_29 rfl (x := 0) (h' := zN sg) (Ps := []) rfl trivial rfl (Or.inl rfl) ?_
      exact ⟨by grind, rfl⟩
    · skip
      refine zb_ifeq (tgt := 28) bkShe_hasAnchor_12 bdShe_hasAnchor_21 (by decide) (lv' := [(0, .ref 1), (1, .int n)]) (st' := []) (h' := zN sg) (x := sg (zel 5 n) 0) (Ps := [zOb (zN sg) 1 5 ∧ (zN sg).2.2 1 5 = true, zInR (zN sg) 5 n, zOb (zN sg) (zel 5 n) 1]) rfl (zA ⟨zob_1, rfl⟩ (zA (zinR_5 (i := n) (by grind) (by grind)) (zA (zel_ob5 (i := n) (by grind) (by grind)) trivial))) (fun c3 => ?_) (fun c3 => ?_)
      · skip
        refine zb_zret bkShe_hasAnchor_28 bdShe_hasAnchor_29 rfl (x := 0) (h' := zN sg) (Ps := []) rfl trivial rfl (Or.inl rfl) ?_
        exact ⟨by grind, rfl⟩
      · skip
        refine zb_zret bkShe_hasAnchor_24 bdShe_hasAnchor_29 rfl (x := 1) (h' := zN sg) (Ps := []) rfl trivial rfl (Or.inr rfl) ?_
        exact ⟨by grind, rfl⟩
theorem bkShe_turn_0 : zBk mShe_turn 0 [(1, 1, 0, 0, 0)] = some 1 := by decide +kernel
theorem bkShe_turn_10 : zBk mShe_turn 10 [] = some 10 := by decide +kernel
theorem bkShe_turn_4 : zBk mShe_turn 4 [(1, 2, 0, 0, 0), (1, 0, 1, 0, 0), (10, 0, 0, 0, 0)] = some 7 := by decide +kernel
theorem bkShe_turn_11 : zBk mShe_turn 11 [(1, 2, 0, 0, 0), (0, 0, 0, 0, 1), (4, 1, 0, 0, 0), (2, 3, 0, 0, 0), (1, 1, 0, 0, 0), (2, 4, 0, 0, 0)] = some 18 := by decide +kernel
theorem bkShe_turn_18 : zBk mShe_turn 18 [(1, 4, 0, 0, 0), (1, 3, 0, 0, 0)] = some 21 := by decide +kernel
theorem bkShe_turn_51 : zBk mShe_turn 51 [] = some 51 := by decide +kernel
theorem bkShe_turn_24 : zBk mShe_turn 24 [(1, 0, 1, 0, 0), (1, 4, 0, 0, 0), (7, 0, 0, 0, 0), (2, 5, 0, 0, 0), (1, 0, 1, 0, 0), (1, 4, 0, 0, 0), (1, 0, 1, 0, 0), (1, 3, 0, 0, 0), (7, 0, 0, 0, 0), (8, 0, 0, 0, 0), (1, 0, 1, 0, 0), (1, 3, 0, 0, 0), (1, 5, 0, 0, 0), (8, 0, 0, 0, 0), (3, 3, 0, 0, -1), (3, 4, 0, 0, 1), (22, 18, 0, 0, 0)] = some 18 := by decide +kernel
theorem bdShe_turn_1 : decode mShe_turn.2.2.1 1 = .ok (.ifCond .lt 9, 3) := by decide +kernel
theorem bdShe_turn_7 : decode mShe_turn.2.2.1 7 = .ok (.if_icmp .le 4, 3) := by decide +kernel
theorem bdShe_turn_10 : decode mShe_turn.2.2.1 10 = .ok (.return_, 1) := by decide +kernel
theorem bdShe_turn_21 : decode mShe_turn.2.2.1 21 = .ok (.if_icmp .ge 30, 3) := by decide +kernel
theorem bdShe_turn_51 : decode mShe_turn.2.2.1 51 = .ok (.return_, 1) := by decide +kernel
theorem lShe_turn_2 {sg : zSig} {lo hi : Int32} (hl : 0 ≤ lo) (hh : lo ≤ hi) (hm : hi ≤ 200) {Q : Option Value → zHp → Prop} (hq : ∀ rr h', (∃ sg', rr = none ∧ h' = zN sg' ∧ (∀ c j, c ≠ 2 → sg' c j = sg c j) ∧ ∀ j, sg' 2 j = if lo ≤ j ∧ j < hi then sg 2 (lo + hi - 1 - j) else sg 2 j) → Q rr h') : zG mShe_turn 411 Q 0 [(0, .ref 2), (1, .int lo), (2, .int hi)] [] (zN sg) := by
  have zl : zln (zN sg) 2 = 200 := by unfold zln; rw [if_neg (by decide)]; rfl
  refine zb_iflt (tgt := 10) bkShe_turn_0 bdShe_turn_1 (by decide) (lv' := [(0, .ref 2), (1, .int lo), (2, .int hi)]) (st' := []) (h' := zN sg) (x := lo) (Ps := []) rfl trivial (fun c1 => ?_) (fun c1 => ?_)
  · skip
    refine zb_vret bkShe_turn_10 bdShe_turn_10 rfl (h' := zN sg) (Ps := []) rfl trivial rfl ?_
    refine hq _ _ ?_
    exfalso; rw [zl] at *; lia
  · skip
    refine zb_icle (tgt := 11) bkShe_turn_4 bdShe_turn_7 (by decide) (lv' := [(0, .ref 2), (1, .int lo), (2, .int hi)]) (st' := []) (h' := zN sg) (x := hi) (y := zln (zN sg) 2) (Ps := [(2 < (zN sg).2.1 ∧ (zSh 2).1 = 1 ∧ (zSh 2).2.1 < 3) ∨ 2 = 100000 ∨ 2 = 100001]) rfl (zA (Or.inl ⟨(by decide : 2 < 411), rfl, by decide⟩) trivial) (fun c2 => ?_) (fun c2 => ?_)
    · skip
      refine zG_run bkShe_turn_11 (lv' := [(4, .int lo), (3, .int (hi - 1)), (0, .ref 2), (1, .int lo), (2, .int hi)]) (st' := []) (h' := zN sg) (Ps := []) rfl trivial ?_
      refine zG_pick (lv' := [(0, .ref 2), (1, .int lo), (2, .int hi), (3, .int (hi - 1)), (4, .int lo)]) [2, 3, 4, 1, 0] rfl ?_
      refine zlp3 (fun (ri : Int32) (le : Int32) (sg1 : zSig) => zG mShe_turn 411 Q 18 [(0, .ref 2), (1, .int lo), (2, .int hi), (3, .int ri), (4, .int le)] [] (zN sg1)) (fun (ri : Int32) (le : Int32) (sg1 : zSig) => (lo ≤ le) ∧ (ri = lo + hi - 1 - le) ∧ (le ≤ 200) ∧ (ri < 200) ∧ (le ≤ ri + 1) ∧ (ri < hi) ∧ (∀ c j, c ≠ 2 → sg1 c j = sg c j) ∧ (∀ j, sg1 2 j = if (lo ≤ j ∧ j < le) ∨ (ri < j ∧ j < hi) then sg 2 (lo + hi - 1 - j) else sg 2 j)) (fun (ri : Int32) (le : Int32) (sg1 : zSig) => zmu ri le) ?_ (hi - 1) lo sg ?_
      · intro ri le sg1 hI ih
        obtain ⟨h0, h1, h5, h7, h8, h9, hf, h2⟩ := hI
        refine zb_icge (tgt := 51) bkShe_turn_18 bdShe_turn_21 (by decide) (lv' := [(0, .ref 2), (1, .int lo), (2, .int hi), (3, .int ri), (4, .int le)]) (st' := []) (h' := zN sg1) (x := le) (y := ri) (Ps := []) rfl trivial (fun c3 => ?_) (fun c3 => ?_)
        · skip
          refine zb_vret bkShe_turn_51 bdShe_turn_51 rfl (h' := zN sg1) (Ps := []) rfl trivial rfl ?_
          refine hq _ _ ?_
          refine ⟨sg1, rfl, rfl, hf, fun j => ?_⟩
          have e := h2 j
          clear h2 ih hq hf
          by_cases hj : lo ≤ j ∧ j < hi
          · rw [if_pos hj, e]
            by_cases hp : (lo ≤ j ∧ j < le) ∨ (ri < j ∧ j < hi)
            · rw [if_pos hp]
            · rw [if_neg hp]; have q1 : j = le := by clear h1 e; lia
              have q2 : j = ri := by clear h1 e; lia
              rw [← q1, ← q2] at h1; congr 1
          · rw [if_neg hj, e, if_neg (by clear h1 e; lia)]
        · skip
          refine zG_run bkShe_turn_24 (lv' := [(4, .int (le + 1)), (3, .int (ri + (-1))), (5, .int (sg1 2 le)), (0, .ref 2), (1, .int lo), (2, .int hi)]) (st' := []) (h' := zN (zup (zup sg1 2 le (sg1 2 ri)) 2 ri (sg1 2 le))) (Ps := [zInL (zN sg1) 2 le, zInL (zN sg1) 2 ri, zIn (zN sg1) 2 0 le, zIn (zN (zup sg1 2 le (sg1 2 ri))) 2 0 ri]) rfl (zA (zinL_2 (i := le) (by clear h1; lia) (by clear h1; lia)) (zA (zinL_2 (i := ri) (by clear h1; lia) (by clear h1; lia)) (zA (zin_2 (i := le) (by clear h1; lia) (by clear h1; lia)) (zA (zin_2 (i := ri) (by clear h1; lia) (by clear h1; lia)) trivial)))) ?_
          refine zG_pick (lv' := [(0, .ref 2), (1, .int lo), (2, .int hi), (3, .int (ri + (-1))), (4, .int (le + 1))]) [3, 4, 5, 1, 0] rfl ?_
          refine ih (ri + (-1)) (le + 1) (zup (zup sg1 2 le (sg1 2 ri)) 2 ri (sg1 2 le)) ?_ ?_
          · refine ⟨?_, ?_, ?_, ?_, ?_, ?_, ?_, ?_⟩
            · clear h1; lia
            · clear ih hq h2 hf h0 h5 h7 h8 h9; grind
            · clear h1; lia
            · clear h1; lia
            · clear h1; lia
            · clear h1; lia
            · intro c j hc; rw [zup_a hc, zup_a hc]; exact hf c j hc
            · intro j; rw [zup_e, zup_e]; have e1 := h2 j; have e2 := h2 ri; have e3 := h2 le; clear h2 ih hq hf
              rw [if_neg (by clear h1; lia)] at e2 e3
              by_cases hjr : j = ri
              · rw [if_pos ⟨rfl, hjr⟩, e3, if_pos (by clear h1 e1 e2 e3; lia), hjr]; congr 1; clear e1 e2 e3 h0 h5 h7 h8 h9 hjr c3; grind
              · rw [if_neg (fun q => hjr q.2)]
                by_cases hjl : j = le
                · rw [if_pos ⟨rfl, hjl⟩, e2, if_pos (by clear h1 e1 e2 e3; lia), hjl]; congr 1
                · rw [if_neg (fun q => hjl q.2), e1]
                  clear h1 e1 e2 e3
                  by_cases hc : (lo ≤ j ∧ j < le) ∨ (ri < j ∧ j < hi)
                  · rw [if_pos hc, if_pos (by lia)]
                  · rw [if_neg hc, if_neg (by lia)]
          · exact zmu_ud (by clear h1; lia)
      · refine ⟨?_, ?_, ?_, ?_, ?_, ?_, ?_, ?_⟩
        · lia
        · grind
        · lia
        · lia
        · lia
        · lia
        · intro c j _; rfl
        · intro j; rw [if_neg (by lia)]
    · skip
      refine zb_vret bkShe_turn_10 bdShe_turn_10 rfl (h' := zN sg) (Ps := []) rfl trivial rfl ?_
      refine hq _ _ ?_
      exfalso; rw [zl] at *; lia
theorem cShe_turn_2 {sg : zSig} {lo hi : Int32} (hl : 0 ≤ lo) (hh : lo ≤ hi) (hm : hi ≤ 200) : zG mShe_turn 411 (fun rr h' => ∃ sg', rr = none ∧ h' = zN sg' ∧ (∀ c j, c ≠ 2 → sg' c j = sg c j) ∧ ∀ j, sg' 2 j = if lo ≤ j ∧ j < hi then sg 2 (lo + hi - 1 - j) else sg 2 j) 0 [(0, .ref 2), (1, .int lo), (2, .int hi)] [] (zN sg) := lShe_turn_2 hl hh hm (fun _ _ q => q)
theorem bkShe_changeSides_0 : zBk mShe_changeSides 0 [(1, 0, 1, 0, 0), (1, 1, 0, 0, 0), (1, 2, 0, 0, 0)] = some 3 := by decide +kernel
theorem bkShe_changeSides_6 : zBk mShe_changeSides 6 [(1, 0, 1, 0, 0), (1, 2, 0, 0, 0), (1, 3, 0, 0, 0)] = some 9 := by decide +kernel
theorem bkShe_changeSides_12 : zBk mShe_changeSides 12 [(1, 0, 1, 0, 0), (1, 1, 0, 0, 0), (1, 3, 0, 0, 0)] = some 15 := by decide +kernel
theorem bkShe_changeSides_18 : zBk mShe_changeSides 18 [] = some 18 := by decide +kernel
theorem bdShe_changeSides_3 : decode mShe_changeSides.2.2.1 3 = .ok (.invokestatic 127, 3) := by decide +kernel
theorem bdShe_changeSides_9 : decode mShe_changeSides.2.2.1 9 = .ok (.invokestatic 127, 3) := by decide +kernel
theorem bdShe_changeSides_15 : decode mShe_changeSides.2.2.1 15 = .ok (.invokestatic 127, 3) := by decide +kernel
theorem bdShe_changeSides_18 : decode mShe_changeSides.2.2.1 18 = .ok (.return_, 1) := by decide +kernel
theorem cShe_changeSides_2 {sg : zSig} {lo mi hi : Int32} (hl : 0 ≤ lo) (h1 : lo ≤ mi) (h2 : mi ≤ hi) (hm : hi ≤ 200) : zG mShe_changeSides 411 (fun rr h' => ∃ sg', rr = none ∧ h' = zN sg' ∧ (∀ c j, c ≠ 2 → sg' c j = sg c j) ∧ ∀ j, sg' 2 j = if lo ≤ j ∧ j < lo + (hi - mi) then sg 2 (mi + (j - lo)) else if lo + (hi - mi) ≤ j ∧ j < hi then sg 2 (j - (hi - mi)) else sg 2 j) 0 [(0, .ref 2), (1, .int lo), (2, .int mi), (3, .int hi)] [] (zN sg) := by
  refine zG_run bkShe_changeSides_0 (lv' := [(0, .ref 2), (1, .int lo), (2, .int mi), (3, .int hi)]) (st' := [.int mi, .int lo, .ref 2]) (h' := zN sg) (Ps := []) rfl trivial ?_
  refine zG_calls (As := [.ref 2, .int lo, .int mi]) (rest := []) (N2 := 411) bdShe_changeSides_3 okShe_turn lk5_127 (And.intro (by decide) (by decide)) rfl rfl (Nat.le_of_ble_eq_true rfl) (Nat.le_of_ble_eq_true rfl) (Nat.le_refl 411) (Nat.le_refl 411) (cShe_turn_2 (lo := lo) (hi := mi) (by grind) (by grind) (by grind)) ?_
  rintro rr h' ⟨sg2, rfl, rfl, fq1, tq1⟩ -
  refine zG_run bkShe_changeSides_6 (lv' := [(0, .ref 2), (1, .int lo), (2, .int mi), (3, .int hi)]) (st' := [.int hi, .int mi, .ref 2]) (h' := zN sg2) (Ps := []) rfl trivial ?_
  refine zG_calls (As := [.ref 2, .int mi, .int hi]) (rest := []) (N2 := 411) bdShe_changeSides_9 okShe_turn lk5_127 (And.intro (by decide) (by decide)) rfl rfl (Nat.le_of_ble_eq_true rfl) (Nat.le_of_ble_eq_true rfl) (Nat.le_refl 411) (Nat.le_refl 411) (cShe_turn_2 (lo := mi) (hi := hi) (by grind) (by grind) (by grind)) ?_
  rintro rr h' ⟨sg5, rfl, rfl, fq4, tq4⟩ -
  refine zG_run bkShe_changeSides_12 (lv' := [(0, .ref 2), (1, .int lo), (2, .int mi), (3, .int hi)]) (st' := [.int hi, .int lo, .ref 2]) (h' := zN sg5) (Ps := []) rfl trivial ?_
  refine zG_calls (As := [.ref 2, .int lo, .int hi]) (rest := []) (N2 := 411) bdShe_changeSides_15 okShe_turn lk5_127 (And.intro (by decide) (by decide)) rfl rfl (Nat.le_of_ble_eq_true rfl) (Nat.le_of_ble_eq_true rfl) (Nat.le_refl 411) (Nat.le_refl 411) (cShe_turn_2 (lo := lo) (hi := hi) (by grind) (by grind) (by grind)) ?_
  rintro rr h' ⟨sg8, rfl, rfl, fq7, tq7⟩ -
  refine zb_vret bkShe_changeSides_18 bdShe_changeSides_18 rfl (h' := zN sg8) (Ps := []) rfl trivial rfl ?_
  refine ⟨_, rfl, rfl, fun c j hc => by rw [fq7 c j hc, fq4 c j hc, fq1 c j hc], fun j => ?_⟩
  rw [tq7 j]
  by_cases hj : lo ≤ j ∧ j < hi
  · rw [if_pos hj, tq4 (lo + hi - 1 - j)]
    by_cases hi2 : mi ≤ lo + hi - 1 - j ∧ lo + hi - 1 - j < hi
    · rw [if_pos hi2, tq1, if_neg (by grind), if_pos (by grind)]; congr 1; grind
    · rw [if_neg hi2, tq1, if_pos (by grind), if_neg (by grind), if_pos (by grind)]; congr 1; grind
  · rw [if_neg hj, tq4 j, if_neg (by grind), tq1 j, if_neg (by grind), if_neg (by grind), if_neg (by grind)]
theorem lShe_turn_3 {sg : zSig} {lo hi : Int32} (hl : 0 ≤ lo) (hh : lo ≤ hi) (hm : hi ≤ 200) {Q : Option Value → zHp → Prop} (hq : ∀ rr h', (∃ sg', rr = none ∧ h' = zN sg' ∧ (∀ c j, c ≠ 3 → sg' c j = sg c j) ∧ ∀ j, sg' 3 j = if lo ≤ j ∧ j < hi then sg 3 (lo + hi - 1 - j) else sg 3 j) → Q rr h') : zG mShe_turn 411 Q 0 [(0, .ref 3), (1, .int lo), (2, .int hi)] [] (zN sg) := by
  have zl : zln (zN sg) 3 = 200 := by unfold zln; rw [if_neg (by decide)]; rfl
  refine zb_iflt (tgt := 10) bkShe_turn_0 bdShe_turn_1 (by decide) (lv' := [(0, .ref 3), (1, .int lo), (2, .int hi)]) (st' := []) (h' := zN sg) (x := lo) (Ps := []) rfl trivial (fun c1 => ?_) (fun c1 => ?_)
  · skip
    refine zb_vret bkShe_turn_10 bdShe_turn_10 rfl (h' := zN sg) (Ps := []) rfl trivial rfl ?_
    refine hq _ _ ?_
    exfalso; rw [zl] at *; lia
  · skip
    refine zb_icle (tgt := 11) bkShe_turn_4 bdShe_turn_7 (by decide) (lv' := [(0, .ref 3), (1, .int lo), (2, .int hi)]) (st' := []) (h' := zN sg) (x := hi) (y := zln (zN sg) 3) (Ps := [(3 < (zN sg).2.1 ∧ (zSh 3).1 = 1 ∧ (zSh 3).2.1 < 3) ∨ 3 = 100000 ∨ 3 = 100001]) rfl (zA (Or.inl ⟨(by decide : 3 < 411), rfl, by decide⟩) trivial) (fun c2 => ?_) (fun c2 => ?_)
    · skip
      refine zG_run bkShe_turn_11 (lv' := [(4, .int lo), (3, .int (hi - 1)), (0, .ref 3), (1, .int lo), (2, .int hi)]) (st' := []) (h' := zN sg) (Ps := []) rfl trivial ?_
      refine zG_pick (lv' := [(0, .ref 3), (1, .int lo), (2, .int hi), (3, .int (hi - 1)), (4, .int lo)]) [2, 3, 4, 1, 0] rfl ?_
      refine zlp3 (fun (ri : Int32) (le : Int32) (sg1 : zSig) => zG mShe_turn 411 Q 18 [(0, .ref 3), (1, .int lo), (2, .int hi), (3, .int ri), (4, .int le)] [] (zN sg1)) (fun (ri : Int32) (le : Int32) (sg1 : zSig) => (lo ≤ le) ∧ (ri = lo + hi - 1 - le) ∧ (le ≤ 200) ∧ (ri < 200) ∧ (le ≤ ri + 1) ∧ (ri < hi) ∧ (∀ c j, c ≠ 3 → sg1 c j = sg c j) ∧ (∀ j, sg1 3 j = if (lo ≤ j ∧ j < le) ∨ (ri < j ∧ j < hi) then sg 3 (lo + hi - 1 - j) else sg 3 j)) (fun (ri : Int32) (le : Int32) (sg1 : zSig) => zmu ri le) ?_ (hi - 1) lo sg ?_
      · intro ri le sg1 hI ih
        obtain ⟨h0, h1, h5, h7, h8, h9, hf, h2⟩ := hI
        refine zb_icge (tgt := 51) bkShe_turn_18 bdShe_turn_21 (by decide) (lv' := [(0, .ref 3), (1, .int lo), (2, .int hi), (3, .int ri), (4, .int le)]) (st' := []) (h' := zN sg1) (x := le) (y := ri) (Ps := []) rfl trivial (fun c3 => ?_) (fun c3 => ?_)
        · skip
          refine zb_vret bkShe_turn_51 bdShe_turn_51 rfl (h' := zN sg1) (Ps := []) rfl trivial rfl ?_
          refine hq _ _ ?_
          refine ⟨sg1, rfl, rfl, hf, fun j => ?_⟩
          have e := h2 j
          clear h2 ih hq hf
          by_cases hj : lo ≤ j ∧ j < hi
          · rw [if_pos hj, e]
            by_cases hp : (lo ≤ j ∧ j < le) ∨ (ri < j ∧ j < hi)
            · rw [if_pos hp]
            · rw [if_neg hp]; have q1 : j = le := by clear h1 e; lia
              have q2 : j = ri := by clear h1 e; lia
              rw [← q1, ← q2] at h1; congr 1
          · rw [if_neg hj, e, if_neg (by clear h1 e; lia)]
        · skip
          refine zG_run bkShe_turn_24 (lv' := [(4, .int (le + 1)), (3, .int (ri + (-1))), (5, .int (sg1 3 le)), (0, .ref 3), (1, .int lo), (2, .int hi)]) (st' := []) (h' := zN (zup (zup sg1 3 le (sg1 3 ri)) 3 ri (sg1 3 le))) (Ps := [zInL (zN sg1) 3 le, zInL (zN sg1) 3 ri, zIn (zN sg1) 3 0 le, zIn (zN (zup sg1 3 le (sg1 3 ri))) 3 0 ri]) rfl (zA (zinL_3 (i := le) (by clear h1; lia) (by clear h1; lia)) (zA (zinL_3 (i := ri) (by clear h1; lia) (by clear h1; lia)) (zA (zin_3 (i := le) (by clear h1; lia) (by clear h1; lia)) (zA (zin_3 (i := ri) (by clear h1; lia) (by clear h1; lia)) trivial)))) ?_
          refine zG_pick (lv' := [(0, .ref 3), (1, .int lo), (2, .int hi), (3, .int (ri + (-1))), (4, .int (le + 1))]) [3, 4, 5, 1, 0] rfl ?_
          refine ih (ri + (-1)) (le + 1) (zup (zup sg1 3 le (sg1 3 ri)) 3 ri (sg1 3 le)) ?_ ?_
          · refine ⟨?_, ?_, ?_, ?_, ?_, ?_, ?_, ?_⟩
            · clear h1; lia
            · clear ih hq h2 hf h0 h5 h7 h8 h9; grind
            · clear h1; lia
            · clear h1; lia
            · clear h1; lia
            · clear h1; lia
            · intro c j hc; rw [zup_a hc, zup_a hc]; exact hf c j hc
            · intro j; rw [zup_e, zup_e]; have e1 := h2 j; have e2 := h2 ri; have e3 := h2 le; clear h2 ih hq hf
              rw [if_neg (by clear h1; lia)] at e2 e3
              by_cases hjr : j = ri
              · rw [if_pos ⟨rfl, hjr⟩, e3, if_pos (by clear h1 e1 e2 e3; lia), hjr]; congr 1; clear e1 e2 e3 h0 h5 h7 h8 h9 hjr c3; grind
              · rw [if_neg (fun q => hjr q.2)]
                by_cases hjl : j = le
                · rw [if_pos ⟨rfl, hjl⟩, e2, if_pos (by clear h1 e1 e2 e3; lia), hjl]; congr 1
                · rw [if_neg (fun q => hjl q.2), e1]
                  clear h1 e1 e2 e3
                  by_cases hc : (lo ≤ j ∧ j < le) ∨ (ri < j ∧ j < hi)
                  · rw [if_pos hc, if_pos (by lia)]
                  · rw [if_neg hc, if_neg (by lia)]
          · exact zmu_ud (by clear h1; lia)
      · refine ⟨?_, ?_, ?_, ?_, ?_, ?_, ?_, ?_⟩
        · lia
        · grind
        · lia
        · lia
        · lia
        · lia
        · intro c j _; rfl
        · intro j; rw [if_neg (by lia)]
    · skip
      refine zb_vret bkShe_turn_10 bdShe_turn_10 rfl (h' := zN sg) (Ps := []) rfl trivial rfl ?_
      refine hq _ _ ?_
      exfalso; rw [zl] at *; lia
theorem cShe_turn_3 {sg : zSig} {lo hi : Int32} (hl : 0 ≤ lo) (hh : lo ≤ hi) (hm : hi ≤ 200) : zG mShe_turn 411 (fun rr h' => ∃ sg', rr = none ∧ h' = zN sg' ∧ (∀ c j, c ≠ 3 → sg' c j = sg c j) ∧ ∀ j, sg' 3 j = if lo ≤ j ∧ j < hi then sg 3 (lo + hi - 1 - j) else sg 3 j) 0 [(0, .ref 3), (1, .int lo), (2, .int hi)] [] (zN sg) := lShe_turn_3 hl hh hm (fun _ _ q => q)
theorem cShe_changeSides_3 {sg : zSig} {lo mi hi : Int32} (hl : 0 ≤ lo) (h1 : lo ≤ mi) (h2 : mi ≤ hi) (hm : hi ≤ 200) : zG mShe_changeSides 411 (fun rr h' => ∃ sg', rr = none ∧ h' = zN sg' ∧ (∀ c j, c ≠ 3 → sg' c j = sg c j) ∧ ∀ j, sg' 3 j = if lo ≤ j ∧ j < lo + (hi - mi) then sg 3 (mi + (j - lo)) else if lo + (hi - mi) ≤ j ∧ j < hi then sg 3 (j - (hi - mi)) else sg 3 j) 0 [(0, .ref 3), (1, .int lo), (2, .int mi), (3, .int hi)] [] (zN sg) := by
  refine zG_run bkShe_changeSides_0 (lv' := [(0, .ref 3), (1, .int lo), (2, .int mi), (3, .int hi)]) (st' := [.int mi, .int lo, .ref 3]) (h' := zN sg) (Ps := []) rfl trivial ?_
  refine zG_calls (As := [.ref 3, .int lo, .int mi]) (rest := []) (N2 := 411) bdShe_changeSides_3 okShe_turn lk5_127 (And.intro (by decide) (by decide)) rfl rfl (Nat.le_of_ble_eq_true rfl) (Nat.le_of_ble_eq_true rfl) (Nat.le_refl 411) (Nat.le_refl 411) (cShe_turn_3 (lo := lo) (hi := mi) (by grind) (by grind) (by grind)) ?_
  rintro rr h' ⟨sg2, rfl, rfl, fq1, tq1⟩ -
  refine zG_run bkShe_changeSides_6 (lv' := [(0, .ref 3), (1, .int lo), (2, .int mi), (3, .int hi)]) (st' := [.int hi, .int mi, .ref 3]) (h' := zN sg2) (Ps := []) rfl trivial ?_
  refine zG_calls (As := [.ref 3, .int mi, .int hi]) (rest := []) (N2 := 411) bdShe_changeSides_9 okShe_turn lk5_127 (And.intro (by decide) (by decide)) rfl rfl (Nat.le_of_ble_eq_true rfl) (Nat.le_of_ble_eq_true rfl) (Nat.le_refl 411) (Nat.le_refl 411) (cShe_turn_3 (lo := mi) (hi := hi) (by grind) (by grind) (by grind)) ?_
  rintro rr h' ⟨sg5, rfl, rfl, fq4, tq4⟩ -
  refine zG_run bkShe_changeSides_12 (lv' := [(0, .ref 3), (1, .int lo), (2, .int mi), (3, .int hi)]) (st' := [.int hi, .int lo, .ref 3]) (h' := zN sg5) (Ps := []) rfl trivial ?_
  refine zG_calls (As := [.ref 3, .int lo, .int hi]) (rest := []) (N2 := 411) bdShe_changeSides_15 okShe_turn lk5_127 (And.intro (by decide) (by decide)) rfl rfl (Nat.le_of_ble_eq_true rfl) (Nat.le_of_ble_eq_true rfl) (Nat.le_refl 411) (Nat.le_refl 411) (cShe_turn_3 (lo := lo) (hi := hi) (by grind) (by grind) (by grind)) ?_
  rintro rr h' ⟨sg8, rfl, rfl, fq7, tq7⟩ -
  refine zb_vret bkShe_changeSides_18 bdShe_changeSides_18 rfl (h' := zN sg8) (Ps := []) rfl trivial rfl ?_
  refine ⟨_, rfl, rfl, fun c j hc => by rw [fq7 c j hc, fq4 c j hc, fq1 c j hc], fun j => ?_⟩
  rw [tq7 j]
  by_cases hj : lo ≤ j ∧ j < hi
  · rw [if_pos hj, tq4 (lo + hi - 1 - j)]
    by_cases hi2 : mi ≤ lo + hi - 1 - j ∧ lo + hi - 1 - j < hi
    · rw [if_pos hi2, tq1, if_neg (by grind), if_pos (by grind)]; congr 1; grind
    · rw [if_neg hi2, tq1, if_pos (by grind), if_neg (by grind), if_pos (by grind)]; congr 1; grind
  · rw [if_neg hj, tq4 j, if_neg (by grind), tq1 j, if_neg (by grind), if_neg (by grind), if_neg (by grind)]
end
section
/-! letters come, go, move in a sheet: printed by wip/whole/p20.py -/
def lIn (S T : Int32 → Int32) (p m j : Int32) : Int32 := if j < p then S j else if j < p + m then T (j - p) else S (j - m)
def lOut (S : Int32 → Int32) (p q j : Int32) : Int32 := if j < p then S j else S (j + (q - p))
def lMv (S : Int32 → Int32) (p q t j : Int32) : Int32 := if t ≤ j ∧ j < t + (q - p) then S (p + (j - t)) else lOut S p q (if j < t then j else j - (q - p))
def nMv (sg : zSig) (p q k a : Int32) : Int32 := if sg (zel 4 k) 0 ≠ 0 ∧ p ≤ sg (zel 4 k) 1 ∧ sg (zel 4 k) 2 ≤ q then a + 1 else a
def hShF (sg sg' : zSig) (HS HA : zSig → Nat → zSig) : Prop := (∀ c j, (c < 1 ∨ 34 ≤ c) → sg' c j = sg c j) ∧ sg' 1 4 = sg 1 4 ∧ sg' 1 6 = sg 1 6 ∧ (∀ k f, 0 ≤ k → k < sg 1 4 → sg' (zel 4 k) f = HS sg (zel 4 k) (zel 4 k) f) ∧ ∀ k f, 0 ≤ k → k < sg 1 6 → sg' (zel 5 k) f = HA sg (zel 5 k) (zel 5 k) f
theorem hShF_of {sg sg4 sg5 sg6 : zSig} {HS HA : zSig → Nat → zSig} {k5 k6 : Int32} (lS : zloc HS) (lA : zloc HA) (f4 : ∀ c j, (c < 1 ∨ 4 ≤ c) → sg4 c j = sg c j) (g4 : sg4 1 4 = sg 1 4) (h4 : sg4 1 6 = sg 1 6) (i5 : iSp HS sg4 sg5 k5) (e5 : sg 1 4 ≤ k5) (z5 : sg 1 4 ≤ 16) (i6 : iAn HA sg5 sg6 k6) (e6 : sg 1 6 ≤ k6) (z6 : sg 1 6 ≤ 12) : hShF sg sg6 HS HA := by
  refine ⟨fun c j hc => ?_, ?_, ?_, fun k f h1 h2 => ?_, fun k f h1 h2 => ?_⟩
  · rw [i6.1 c j (by omega), i5.1 c j (by omega), f4 c j (by omega)]
  · rw [i6.1 1 4 (by decide), i5.1 1 4 (by decide)]; exact g4
  · rw [i6.1 1 6 (by decide), i5.1 1 6 (by decide)]; exact h4
  · have hz := zel4_rng h1 (by lia : k < 16)
    rw [i6.1 _ f (by omega), i5.2 k f h1 (by lia), if_pos (by lia)]
    exact lS.2 sg4 sg (zel 4 k) (fun f => f4 _ f (by omega)) f
  · have hz := zel5_rng h1 (by lia : k < 12)
    rw [i6.2 k f h1 (by lia), if_pos (by lia)]
    exact lA.2 sg5 sg (zel 5 k) (fun f => by rw [i5.1 _ f (by omega)]; exact f4 _ f (by omega)) f
theorem lIn_of {S T : Int32 → Int32} {p m n j : Int32} (p0 : 0 ≤ p) (p1 : p ≤ n) (m0 : 0 ≤ m) (n1 : n ≤ 200) (m1 : n ≤ 200 - m) (m2 : m ≤ 200) (j0 : 0 ≤ j) (j1 : j < n + m) : (if p ≤ j ∧ j < p + m then T (j - p) else if p + m ≤ j ∧ j < p + m + (n - p) then S (p + (j - (p + m))) else S j) = lIn S T p m j := by
  unfold lIn
  by_cases q1 : j < p
  · rw [if_pos q1, if_neg (by lia), if_neg (by lia)]
  · rw [if_neg q1]
    by_cases q2 : j < p + m
    · rw [if_pos q2, if_pos (by lia)]
    · rw [if_neg q2, if_neg (by lia), if_pos (by lia)]
      congr 1
      clear p0 p1 m0 n1 m1 m2 j0 j1 q1 q2
      grind
theorem zr1 (p t : Int32) : t = p + t - p := by grind
theorem lOut_of {S : Int32 → Int32} {p q n j : Int32} (p0 : 0 ≤ p) (p1 : p < q) (q1 : q ≤ n) (n1 : n ≤ 200) (j0 : 0 ≤ j) (j1 : j < n - (q - p)) : (if p ≤ j ∧ j < p + (n - q) then S (q + (j - p)) else S j) = lOut S p q j := by
  obtain ⟨d, rfl⟩ : ∃ d, q = p + d := ⟨q - p, by grind⟩
  have e1 : p + d - p = d := (zr1 p d).symm
  have e2 : p + (n - (p + d)) = n - d := by grind
  have d0 : 0 < d ∧ d ≤ 200 := by lia
  rw [e1] at j1
  unfold lOut
  rw [e1, e2]
  by_cases h1 : j < p
  · rw [if_pos h1, if_neg (by lia)]
  · rw [if_neg h1, if_pos (by lia)]
    congr 1
    clear e1 e2 d0 p0 p1 q1 n1 j0 j1 h1
    grind
theorem bkShe_put_0 : zBk mShe_put 0 [(1, 2, 1, 0, 0), (5, 7, 1, 0, 1), (2, 3, 0, 0, 0)] = some 5 := by decide +kernel
theorem bkShe_put_5 : zBk mShe_put 5 [(1, 0, 1, 0, 0), (1, 1, 0, 0, 0)] = some 7 := by decide +kernel
theorem bkShe_put_10 : zBk mShe_put 10 [] = some 10 := by decide +kernel
theorem bkShe_put_25 : zBk mShe_put 25 [] = some 25 := by decide +kernel
theorem bkShe_put_13 : zBk mShe_put 13 [(1, 0, 1, 0, 0), (5, 5, 2, 0, 2), (1, 3, 0, 0, 0), (4, 0, 0, 0, 0), (0, 0, 0, 0, 200)] = some 22 := by decide +kernel
theorem bkShe_put_42 : zBk mShe_put 42 [(2, 4, 0, 0, 0), (1, 0, 1, 0, 0), (5, 5, 0, 1, 0), (1, 1, 0, 0, 0), (1, 0, 1, 0, 0), (5, 5, 0, 1, 0), (1, 1, 0, 0, 0), (1, 3, 0, 0, 0), (4, 0, 0, 0, 0), (1, 0, 1, 0, 0), (5, 5, 2, 0, 2), (1, 1, 0, 0, 0), (4, 1, 0, 0, 0)] = some 62 := by decide +kernel
theorem bkShe_put_65 : zBk mShe_put 65 [(1, 0, 1, 0, 0), (5, 5, 1, 2, 1), (1, 1, 0, 0, 0), (1, 0, 1, 0, 0), (5, 5, 1, 2, 1), (1, 1, 0, 0, 0), (1, 3, 0, 0, 0), (4, 0, 0, 0, 0), (1, 0, 1, 0, 0), (5, 5, 2, 0, 2), (1, 1, 0, 0, 0), (4, 1, 0, 0, 0)] = some 83 := by decide +kernel
theorem bkShe_put_86 : zBk mShe_put 86 [(0, 0, 0, 0, 0), (2, 5, 0, 0, 0)] = some 89 := by decide +kernel
theorem bkShe_put_89 : zBk mShe_put 89 [(1, 5, 0, 0, 0), (1, 3, 0, 0, 0)] = some 92 := by decide +kernel
theorem bkShe_put_128 : zBk mShe_put 128 [(1, 0, 1, 0, 0), (18, 0, 0, 0, 0), (5, 5, 2, 0, 2), (1, 3, 0, 0, 0), (4, 0, 0, 0, 0), (6, 5, 2, 0, 2)] = some 138 := by decide +kernel
theorem bkShe_put_138 : zBk mShe_put 138 [(0, 0, 0, 0, 0), (2, 5, 0, 0, 0)] = some 141 := by decide +kernel
theorem bkShe_put_141 : zBk mShe_put 141 [(1, 5, 0, 0, 0), (1, 0, 1, 0, 0), (5, 5, 4, 0, 4)] = some 147 := by decide +kernel
theorem bkShe_put_168 : zBk mShe_put 168 [(0, 0, 0, 0, 0), (2, 5, 0, 0, 0)] = some 171 := by decide +kernel
theorem bkShe_put_171 : zBk mShe_put 171 [(1, 5, 0, 0, 0), (1, 0, 1, 0, 0), (5, 5, 6, 0, 6)] = some 177 := by decide +kernel
theorem bkShe_put_221 : zBk mShe_put 221 [] = some 221 := by decide +kernel
theorem bkShe_put_180 : zBk mShe_put 180 [(1, 0, 1, 0, 0), (5, 5, 5, 4, 5), (1, 5, 0, 0, 0), (9, 0, 0, 0, 0), (1, 0, 1, 0, 0), (5, 5, 5, 4, 5), (1, 5, 0, 0, 0), (9, 0, 0, 0, 0), (5, 1, 1, 0, 1), (1, 0, 1, 0, 0), (5, 5, 5, 4, 5), (1, 5, 0, 0, 0), (9, 0, 0, 0, 0), (5, 1, 2, 0, 2), (1, 1, 0, 0, 0), (1, 3, 0, 0, 0)] = some 209 := by decide +kernel
theorem bkShe_put_212 : zBk mShe_put 212 [(6, 1, 1, 0, 1), (3, 5, 0, 0, 1), (22, 171, 0, 0, 0)] = some 171 := by decide +kernel
theorem bkShe_put_150 : zBk mShe_put 150 [(1, 0, 1, 0, 0), (5, 5, 3, 3, 3), (1, 5, 0, 0, 0), (9, 0, 0, 0, 0), (1, 1, 0, 0, 0), (1, 3, 0, 0, 0)] = some 159 := by decide +kernel
theorem bkShe_put_162 : zBk mShe_put 162 [(3, 5, 0, 0, 1), (22, 141, 0, 0, 0)] = some 141 := by decide +kernel
theorem bkShe_put_95 : zBk mShe_put 95 [(1, 0, 1, 0, 0), (5, 5, 0, 1, 0), (1, 1, 0, 0, 0), (1, 5, 0, 0, 0), (4, 0, 0, 0, 0), (1, 2, 1, 0, 0), (5, 7, 0, 1, 0), (1, 5, 0, 0, 0), (7, 0, 0, 0, 0), (8, 0, 0, 0, 0), (1, 0, 1, 0, 0), (5, 5, 1, 2, 1), (1, 1, 0, 0, 0), (1, 5, 0, 0, 0), (4, 0, 0, 0, 0), (1, 4, 0, 0, 0), (8, 0, 0, 0, 0), (3, 5, 0, 0, 1), (22, 89, 0, 0, 0)] = some 89 := by decide +kernel
theorem bkShe_put_26 : zBk mShe_put 26 [(1, 1, 0, 0, 0)] = some 27 := by decide +kernel
theorem bkShe_put_41 : zBk mShe_put 41 [(0, 0, 0, 0, 4)] = some 42 := by decide +kernel
theorem bkShe_put_30 : zBk mShe_put 30 [(1, 0, 1, 0, 0), (5, 5, 1, 2, 1), (1, 1, 0, 0, 0), (0, 0, 0, 0, 1), (4, 1, 0, 0, 0), (7, 0, 0, 0, 0), (22, 42, 0, 0, 0)] = some 42 := by decide +kernel
theorem bdShe_put_7 : decode mShe_put.2.2.1 7 = .ok (.invokevirtual 83, 3) := by decide +kernel
theorem bdShe_put_10 : decode mShe_put.2.2.1 10 = .ok (.ifCond .eq 15, 3) := by decide +kernel
theorem bdShe_put_22 : decode mShe_put.2.2.1 22 = .ok (.if_icmp .le 4, 3) := by decide +kernel
theorem bdShe_put_25 : decode mShe_put.2.2.1 25 = .ok (.return_, 1) := by decide +kernel
theorem bdShe_put_27 : decode mShe_put.2.2.1 27 = .ok (.ifCond .le 14, 3) := by decide +kernel
theorem bdShe_put_62 : decode mShe_put.2.2.1 62 = .ok (.invokestatic 42, 3) := by decide +kernel
theorem bdShe_put_83 : decode mShe_put.2.2.1 83 = .ok (.invokestatic 42, 3) := by decide +kernel
theorem bdShe_put_92 : decode mShe_put.2.2.1 92 = .ok (.if_icmp .ge 36, 3) := by decide +kernel
theorem bdShe_put_147 : decode mShe_put.2.2.1 147 = .ok (.if_icmp .ge 21, 3) := by decide +kernel
theorem bdShe_put_159 : decode mShe_put.2.2.1 159 = .ok (.invokevirtual 91, 3) := by decide +kernel
theorem bdShe_put_177 : decode mShe_put.2.2.1 177 = .ok (.if_icmp .ge 44, 3) := by decide +kernel
theorem bdShe_put_209 : decode mShe_put.2.2.1 209 = .ok (.invokestatic 101, 3) := by decide +kernel
theorem bdShe_put_221 : decode mShe_put.2.2.1 221 = .ok (.return_, 1) := by decide +kernel
theorem lShe_put {sg : zSig} {p m : Int32} (n0 : 0 ≤ sg 1 2) (n1 : sg 1 2 ≤ 200) (g0 : 0 ≤ sg 1 4) (g1 : sg 1 4 ≤ 16) (a0 : 0 ≤ sg 1 6) (a1 : sg 1 6 ≤ 12) (p0 : 0 ≤ p) (p1 : p ≤ sg 1 2) (m0 : 0 ≤ m) (m2 : m ≤ 200) (m1 : sg 1 2 ≤ 200 - m) (em : sg 34 1 = m) {Q : Option Value → zHp → Prop} (hq : ∀ rr h', (∃ sg', rr = none ∧ h' = zN sg' ∧ hShF sg sg' (fun s x => hSpC s x p m) (fun s x => hAnC s x p m) ∧ sg' 1 2 = sg 1 2 + m ∧ (∀ j, 0 ≤ j → j < sg 1 2 + m → sg' 2 j = lIn (sg 2) (sg 35) p m j) ∧ ∀ j, 0 ≤ j → j < sg 1 2 + m → sg' 3 j = lIn (sg 3) (fun _ => if 0 < p then sg 3 (p - 1) else 4) p m j) → Q rr h') : zG mShe_put 411 Q 0 [(0, .ref 1), (1, .int p), (2, .ref 34)] [] (zN sg) := by
  refine zG_run bkShe_put_0 (lv' := [(3, .int (sg 34 1)), (0, .ref 1), (1, .int p), (2, .ref 34)]) (st' := []) (h' := zN sg) (Ps := [zOb (zN sg) 34 7]) rfl (zA zob_34 trivial) ?_
  rw [em]
  refine zG_run bkShe_put_5 (lv' := [(3, .int m), (0, .ref 1), (1, .int p), (2, .ref 34)]) (st' := [.int p, .ref 1]) (h' := zN sg) (Ps := []) rfl trivial ?_
  refine zG_callv (a := 1) (c := 5) (As := [.int p]) (rest := []) (N2 := 411) bdShe_put_7 okShe_hasPlace lk5_83 (And.intro (by decide) (by decide)) (by decide) rfl rfl rfl (Nat.le_of_ble_eq_true rfl) (Nat.le_of_ble_eq_true rfl) (Nat.le_refl 411) (Nat.le_refl 411) zob_1 (cShe_hasPlace zob_1) ?_
  rintro rr h' ⟨rfl, rfl⟩ -
  refine zb_ifeq (tgt := 25) bkShe_put_10 bdShe_put_10 (by decide) (lv' := [(3, .int m), (0, .ref 1), (1, .int p), (2, .ref 34)]) (st' := []) (h' := zN sg) (x := if 0 ≤ p ∧ p ≤ sg 1 2 then 1 else 0) (Ps := []) rfl trivial (fun c1 => ?_) (fun c1 => ?_)
  · skip
    refine zb_vret bkShe_put_25 bdShe_put_25 rfl (h' := zN sg) (Ps := []) rfl trivial rfl ?_
    refine hq _ _ ?_
    exfalso; lia
  · skip
    refine zb_icle (tgt := 26) bkShe_put_13 bdShe_put_22 (by decide) (lv' := [(3, .int m), (0, .ref 1), (1, .int p), (2, .ref 34)]) (st' := []) (h' := zN sg) (x := (sg 1 2) + m) (y := 200) (Ps := [zOb (zN sg) 1 5]) rfl (zA zob_1 trivial) (fun c2 => ?_) (fun c2 => ?_)
    · skip
      have K : ∀ (pt : Int32), (pt = if 0 < p then sg 3 (p - 1) else 4) → zG mShe_put 411 Q 42 [(3, .int m), (0, .ref 1), (1, .int p), (2, .ref 34)] [.int pt] (zN sg) := by
        intro pt hK
        refine zG_run bkShe_put_42 (lv' := [(4, .int pt), (3, .int m), (0, .ref 1), (1, .int p), (2, .ref 34)]) (st' := [.int ((sg 1 2) - p), .int (p + m), .ref 2, .int p, .ref 2]) (h' := zN sg) (Ps := [zOb (zN sg) 1 5 ∧ (zN sg).2.2 1 0 = true, zOb (zN sg) 1 5 ∧ (zN sg).2.2 1 0 = true, zOb (zN sg) 1 5]) rfl (zA ⟨zob_1, rfl⟩ (zA ⟨zob_1, rfl⟩ (zA zob_1 trivial))) ?_
        refine zs_acopy bdShe_put_62 lk5_42 (And.intro (by decide) (by decide)) (Nat.le_of_ble_eq_true rfl) (zcp_2_2 (sp := p) (dp := p + m) (n := (sg 1 2) - p) (by lia) (by lia) (by lia) (by lia) (by lia) (by lia) (by lia)) ?_
        refine zG_nm (sg := zcp sg 2 2 p (p + m) ((sg 1 2) - p)) (fun sg1 e1 => ?_)
        have f1 : ∀ c j, c ≠ 2 → sg1 c j = sg c j := fun c j h => by rw [e1, zcp_e, if_neg (fun q => h q.1)]
        have l1 : ∀ j, sg1 2 j = if p + m ≤ j ∧ j < p + m + (sg 1 2 - p) then sg 2 (p + (j - (p + m))) else sg 2 j := fun j => by rw [e1, zcp_e]; simp only [true_and]
        have ns : sg1 1 2 = sg 1 2 := f1 1 2 (by decide)
        refine zG_run bkShe_put_65 (lv' := [(4, .int pt), (3, .int m), (0, .ref 1), (1, .int p), (2, .ref 34)]) (st' := [.int ((sg1 1 2) - p), .int (p + m), .ref 3, .int p, .ref 3]) (h' := zN sg1) (Ps := [zOb (zN sg1) 1 5 ∧ (zN sg1).2.2 1 1 = true, zOb (zN sg1) 1 5 ∧ (zN sg1).2.2 1 1 = true, zOb (zN sg1) 1 5]) rfl (zA ⟨zob_1, rfl⟩ (zA ⟨zob_1, rfl⟩ (zA zob_1 trivial))) ?_
        refine zs_acopy bdShe_put_83 lk5_42 (And.intro (by decide) (by decide)) (Nat.le_of_ble_eq_true rfl) (zcp_3_3 (sp := p) (dp := p + m) (n := (sg1 1 2) - p) (by lia) (by lia) (by lia) (by lia) (by lia) (by lia) (by lia)) ?_
        refine zG_nm (sg := zcp sg1 3 3 p (p + m) ((sg1 1 2) - p)) (fun sg2 e2 => ?_)
        have f2 : ∀ c j, c ≠ 2 → c ≠ 3 → sg2 c j = sg c j := fun c j h h3 => by rw [e2, zcp_e, if_neg (fun q => h3 q.1)]; exact f1 c j h
        have l2 : ∀ j, sg2 2 j = sg1 2 j := fun j => by rw [e2, zcp_e, if_neg (fun q => absurd q.1 (by decide))]
        have p2 : ∀ j, sg2 3 j = if p + m ≤ j ∧ j < p + m + (sg 1 2 - p) then sg 3 (p + (j - (p + m))) else sg 3 j := fun j => by rw [e2, zcp_e, f1 1 2 (by decide), f1 3 _ (by decide), f1 3 _ (by decide)]; simp only [true_and]
        refine zG_run bkShe_put_86 (lv' := [(5, .int 0), (4, .int pt), (3, .int m), (0, .ref 1), (1, .int p), (2, .ref 34)]) (st' := []) (h' := zN sg2) (Ps := []) rfl trivial ?_
        refine zG_pick (lv' := [(0, .ref 1), (1, .int p), (2, .ref 34), (3, .int m), (4, .int pt), (5, .int 0)]) [3, 4, 5, 2, 1, 0] rfl ?_
        refine zlp2 (fun (t : Int32) (sg3 : zSig) => zG mShe_put 411 Q 89 [(0, .ref 1), (1, .int p), (2, .ref 34), (3, .int m), (4, .int pt), (5, .int t)] [] (zN sg3)) (fun (t : Int32) (sg3 : zSig) => (0 ≤ t) ∧ (t ≤ m) ∧ (∀ c j, c ≠ 2 → c ≠ 3 → sg3 c j = sg c j) ∧ (∀ j, sg3 2 j = if p ≤ j ∧ j < p + t then sg 35 (j - p) else sg2 2 j) ∧ (∀ j, sg3 3 j = if p ≤ j ∧ j < p + t then pt else sg2 3 j)) (fun (t : Int32) (sg3 : zSig) => zmu m t) ?_ 0 sg2 ?_
        · intro t sg3 hj ihj
          obtain ⟨j0, j1, jf, jl, jp⟩ := hj
          refine zb_icge (tgt := 128) bkShe_put_89 bdShe_put_92 (by decide) (lv' := [(0, .ref 1), (1, .int p), (2, .ref 34), (3, .int m), (4, .int pt), (5, .int t)]) (st' := []) (h' := zN sg3) (x := t) (y := m) (Ps := []) rfl trivial (fun c3 => ?_) (fun c3 => ?_)
          · skip
            refine zG_run bkShe_put_128 (lv' := [(0, .ref 1), (1, .int p), (2, .ref 34), (3, .int m), (4, .int pt), (5, .int t)]) (st' := []) (h' := zN (zup sg3 1 2 ((sg3 1 2) + m))) (Ps := [zOb (zN sg3) 1 5, zOb (zN sg3) 1 5]) rfl (zA zob_1 (zA zob_1 trivial)) ?_
            refine zG_nm (sg := zup sg3 1 2 ((sg3 1 2) + m)) (fun sg4 e4 => ?_)
            have f4 : ∀ c j, (c < 1 ∨ 4 ≤ c) → sg4 c j = sg c j := fun c j h => by rw [e4, zup_a (by omega)]; exact jf c j (by omega) (by omega)
            have g4 : sg4 1 4 = sg 1 4 := by rw [e4, zup_i (by decide)]; exact jf 1 4 (by decide) (by decide)
            have h4 : sg4 1 6 = sg 1 6 := by rw [e4, zup_i (by decide)]; exact jf 1 6 (by decide) (by decide)
            have s4 : sg4 1 2 = sg 1 2 + m := by rw [e4, zup_s, jf 1 2 (by decide) (by decide)]
            have tm : t = m := by lia
            have l4 : ∀ j, 0 ≤ j → j < sg 1 2 + m → sg4 2 j = lIn (sg 2) (sg 35) p m j := by
              intro j h5 h6
              rw [e4, zup_a (by decide), jl j, l2, l1, tm]
              exact lIn_of p0 p1 m0 n1 m1 m2 h5 h6
            have q4 : ∀ j, 0 ≤ j → j < sg 1 2 + m → sg4 3 j = lIn (sg 3) (fun _ => pt) p m j := by
              intro j h5 h6
              rw [e4, zup_a (by decide), jp j, p2, tm]
              exact lIn_of (T := fun _ => pt) p0 p1 m0 n1 m1 m2 h5 h6
            refine zG_run bkShe_put_138 (lv' := [(5, .int 0), (0, .ref 1), (1, .int p), (2, .ref 34), (3, .int m), (4, .int pt)]) (st' := []) (h' := zN sg4) (Ps := []) rfl trivial ?_
            refine zG_pick (lv' := [(0, .ref 1), (1, .int p), (2, .ref 34), (3, .int m), (4, .int pt), (5, .int 0)]) [1, 2, 3, 4, 5, 0] rfl ?_
            refine zlp2 (fun (k : Int32) (sg5 : zSig) => zG mShe_put 411 Q 141 [(0, .ref 1), (1, .int p), (2, .ref 34), (3, .int m), (4, .int pt), (5, .int k)] [] (zN sg5)) (fun (k : Int32) (sg5 : zSig) => (0 ≤ k) ∧ (k ≤ sg 1 4) ∧ (iSp (fun s x => hSpC s x p m) sg4 sg5 k)) (fun (k : Int32) (sg5 : zSig) => zmu (sg 1 4) k) ?_ 0 sg4 ?_
            · intro k sg5 hk ihk
              obtain ⟨k0, k1, ki⟩ := hk
              have kg : sg5 1 4 = sg 1 4 := by rw [ki.1 1 4 (by decide)]; exact g4
              refine zb_icge (tgt := 168) bkShe_put_141 bdShe_put_147 (by decide) (lv' := [(0, .ref 1), (1, .int p), (2, .ref 34), (3, .int m), (4, .int pt), (5, .int k)]) (st' := []) (h' := zN sg5) (x := k) (y := sg5 1 4) (Ps := [zOb (zN sg5) 1 5]) rfl (zA zob_1 trivial) (fun c4 => ?_) (fun c4 => ?_)
              · skip
                refine zG_run bkShe_put_168 (lv' := [(5, .int 0), (0, .ref 1), (1, .int p), (2, .ref 34), (3, .int m), (4, .int pt)]) (st' := []) (h' := zN sg5) (Ps := []) rfl trivial ?_
                refine zG_pick (lv' := [(0, .ref 1), (1, .int p), (2, .ref 34), (3, .int m), (4, .int pt), (5, .int 0)]) [1, 2, 3, 4, 5, 0] rfl ?_
                refine zlp2 (fun (q6 : Int32) (sg6 : zSig) => zG mShe_put 411 Q 171 [(0, .ref 1), (1, .int p), (2, .ref 34), (3, .int m), (4, .int pt), (5, .int q6)] [] (zN sg6)) (fun (q6 : Int32) (sg6 : zSig) => (0 ≤ q6) ∧ (q6 ≤ sg 1 6) ∧ (iAn (fun s x => hAnC s x p m) sg5 sg6 q6)) (fun (q6 : Int32) (sg6 : zSig) => zmu (sg 1 6) q6) ?_ 0 sg5 ?_
                · intro q6 sg6 hm ihm
                  obtain ⟨m0, m1, mi⟩ := hm
                  have mg : sg6 1 6 = sg 1 6 := by rw [mi.1 1 6 (by decide), ki.1 1 6 (by decide)]; exact h4
                  refine zb_icge (tgt := 221) bkShe_put_171 bdShe_put_177 (by decide) (lv' := [(0, .ref 1), (1, .int p), (2, .ref 34), (3, .int m), (4, .int pt), (5, .int q6)]) (st' := []) (h' := zN sg6) (x := q6) (y := sg6 1 6) (Ps := [zOb (zN sg6) 1 5]) rfl (zA zob_1 trivial) (fun c5 => ?_) (fun c5 => ?_)
                  · skip
                    refine zb_vret bkShe_put_221 bdShe_put_221 rfl (h' := zN sg6) (Ps := []) rfl trivial rfl ?_
                    refine hq _ _ ?_
                    refine ⟨sg6, rfl, rfl, hShF_of (loc_SpC p m) (loc_AnC p m) f4 g4 h4 ki (by lia) g1 mi (by lia) a1, ?_, fun j h5 h6 => ?_, fun j h5 h6 => ?_⟩
                    · rw [mi.1 1 2 (by decide), ki.1 1 2 (by decide)]; exact s4
                    · rw [mi.1 2 j (by decide), ki.1 2 j (by decide)]; exact l4 j h5 h6
                    · rw [mi.1 3 j (by decide), ki.1 3 j (by decide), q4 j h5 h6, hK]
                  · skip
                    refine zG_run bkShe_put_180 (lv' := [(0, .ref 1), (1, .int p), (2, .ref 34), (3, .int m), (4, .int pt), (5, .int q6)]) (st' := [.int m, .int p, .int (sg6 (zel 5 q6) 2), .int (sg6 (zel 5 q6) 1), .ref (zel 5 q6)]) (h' := zN sg6) (Ps := [zOb (zN sg6) 1 5 ∧ (zN sg6).2.2 1 5 = true, zInR (zN sg6) 5 q6, zOb (zN sg6) 1 5 ∧ (zN sg6).2.2 1 5 = true, zInR (zN sg6) 5 q6, zOb (zN sg6) (zel 5 q6) 1, zOb (zN sg6) 1 5 ∧ (zN sg6).2.2 1 5 = true, zInR (zN sg6) 5 q6, zOb (zN sg6) (zel 5 q6) 1]) rfl (zA ⟨zob_1, rfl⟩ (zA (zinR_5 (i := q6) (by lia) (by lia)) (zA ⟨zob_1, rfl⟩ (zA (zinR_5 (i := q6) (by lia) (by lia)) (zA (zel_ob5 (i := q6) (by lia) (by lia)) (zA ⟨zob_1, rfl⟩ (zA (zinR_5 (i := q6) (by lia) (by lia)) (zA (zel_ob5 (i := q6) (by lia) (by lia)) trivial)))))))) ?_
                    refine zG_calls (As := [.int (sg6 (zel 5 q6) 1), .int (sg6 (zel 5 q6) 2), .int p, .int m]) (rest := [.ref (zel 5 q6)]) (N2 := 411) bdShe_put_209 okPla_afterComing lk5_101 (And.intro (by decide) (by decide)) rfl rfl (Nat.le_of_ble_eq_true rfl) (Nat.le_of_ble_eq_true rfl) (Nat.le_refl 411) (Nat.le_refl 411) cPla_afterComing ?_
                    rintro rr h' ⟨rfl, rfl⟩ -
                    refine zG_run bkShe_put_212 (lv' := [(5, .int (q6 + 1)), (0, .ref 1), (1, .int p), (2, .ref 34), (3, .int m), (4, .int pt)]) (st' := []) (h' := zN (zup sg6 (zel 5 q6) 1 (pOn (sg6 (zel 5 q6) 1) (sg6 (zel 5 q6) 2) p m))) (Ps := [zOb (zN sg6) (zel 5 q6) 1]) rfl (zA (zel_ob5 (i := q6) (by lia) (by lia)) trivial) ?_
                    refine zG_pick (lv' := [(0, .ref 1), (1, .int p), (2, .ref 34), (3, .int m), (4, .int pt), (5, .int (q6 + 1))]) [1, 2, 3, 4, 5, 0] rfl ?_
                    refine ihm (q6 + 1) (zup sg6 (zel 5 q6) 1 (pOn (sg6 (zel 5 q6) 1) (sg6 (zel 5 q6) 2) p m)) ?_ ?_
                    · refine ⟨?_, ?_, ?_⟩
                      · lia
                      · lia
                      · exact iAn_s (loc_AnC p m) mi m0 (by lia)
                    · exact zmu_up (by lia)
                · refine ⟨?_, ?_, ?_⟩
                  · lia
                  · lia
                  · exact iAn_0
              · skip
                refine zG_run bkShe_put_150 (lv' := [(0, .ref 1), (1, .int p), (2, .ref 34), (3, .int m), (4, .int pt), (5, .int k)]) (st' := [.int m, .int p, .ref (zel 4 k)]) (h' := zN sg5) (Ps := [zOb (zN sg5) 1 5 ∧ (zN sg5).2.2 1 3 = true, zInR (zN sg5) 4 k]) rfl (zA ⟨zob_1, rfl⟩ (zA (zinR_4 (i := k) (by lia) (by lia)) trivial)) ?_
                refine zG_callv (a := zel 4 k) (c := 6) (As := [.int p, .int m]) (rest := []) (N2 := 411) bdShe_put_159 okSpa_lettersCome lk5_91 (And.intro (by decide) (by decide)) (by decide) rfl rfl rfl (Nat.le_of_ble_eq_true rfl) (Nat.le_of_ble_eq_true rfl) (Nat.le_refl 411) (Nat.le_refl 411) (zel_ob4 (i := k) (by lia) (by lia)) (cSpa_lettersCome (zel_ob4 (i := k) (by lia) (by lia))) ?_
                rintro rr h' ⟨rfl, rfl⟩ -
                refine zG_run bkShe_put_162 (lv' := [(5, .int (k + 1)), (0, .ref 1), (1, .int p), (2, .ref 34), (3, .int m), (4, .int pt)]) (st' := []) (h' := zN (hSpC sg5 (zel 4 k) p m)) (Ps := []) rfl trivial ?_
                refine zG_pick (lv' := [(0, .ref 1), (1, .int p), (2, .ref 34), (3, .int m), (4, .int pt), (5, .int (k + 1))]) [1, 2, 3, 4, 5, 0] rfl ?_
                refine ihk (k + 1) (hSpC sg5 (zel 4 k) p m) ?_ ?_
                · refine ⟨?_, ?_, ?_⟩
                  · lia
                  · lia
                  · exact iSp_s (loc_SpC p m) ki k0 (by lia)
                · exact zmu_up (by lia)
            · refine ⟨?_, ?_, ?_⟩
              · lia
              · lia
              · exact iSp_0
          · skip
            refine zG_run bkShe_put_95 (lv' := [(5, .int (t + 1)), (0, .ref 1), (1, .int p), (2, .ref 34), (3, .int m), (4, .int pt)]) (st' := []) (h' := zN (zup (zup sg3 2 (p + t) (sg3 35 t)) 3 (p + t) pt)) (Ps := [zOb (zN sg3) 1 5 ∧ (zN sg3).2.2 1 0 = true, zOb (zN sg3) 34 7 ∧ (zN sg3).2.2 34 0 = true, zInL (zN sg3) 35 t, zIn (zN sg3) 2 0 (p + t), zOb (zN (zup sg3 2 (p + t) (sg3 35 t))) 1 5 ∧ (zN (zup sg3 2 (p + t) (sg3 35 t))).2.2 1 1 = true, zIn (zN (zup sg3 2 (p + t) (sg3 35 t))) 3 0 (p + t)]) rfl (zA ⟨zob_1, rfl⟩ (zA ⟨zob_34, rfl⟩ (zA (zinL_35 (i := t) (by lia) (by lia)) (zA (zin_2 (i := p + t) (by lia) (by lia)) (zA ⟨zob_1, rfl⟩ (zA (zin_3 (i := p + t) (by lia) (by lia)) trivial)))))) ?_
            refine zG_pick (lv' := [(0, .ref 1), (1, .int p), (2, .ref 34), (3, .int m), (4, .int pt), (5, .int (t + 1))]) [1, 2, 3, 4, 5, 0] rfl ?_
            refine ihj (t + 1) (zup (zup sg3 2 (p + t) (sg3 35 t)) 3 (p + t) pt) ?_ ?_
            · refine ⟨?_, ?_, ?_, ?_, ?_⟩
              · lia
              · lia
              · intro c j h1 h2; rw [zup_a h2, zup_a h1]; exact jf c j h1 h2
              · intro j; rw [zup_a (by decide), zup_e]; have e1 := jl j; have e2 := jf 35 t (by decide) (by decide); by_cases hj : j = p + t
                · rw [if_pos ⟨rfl, hj⟩, if_pos (by lia), e2]; congr 1; rw [hj]; exact zr1 p t
                · rw [if_neg (fun q => hj q.2), e1]; by_cases hc : p ≤ j ∧ j < p + t
                  · rw [if_pos hc, if_pos (by lia)]
                  · rw [if_neg hc, if_neg (by lia)]
              · intro j; rw [zup_e, zup_a (by decide)]; have e1 := jp j; by_cases hj : j = p + t
                · rw [if_pos ⟨rfl, hj⟩, if_pos (by lia)]
                · rw [if_neg (fun q => hj q.2), e1]; by_cases hc : p ≤ j ∧ j < p + t
                  · rw [if_pos hc, if_pos (by lia)]
                  · rw [if_neg hc, if_neg (by lia)]
            · exact zmu_up (by lia)
        · refine ⟨?_, ?_, ?_, ?_, ?_⟩
          · lia
          · lia
          · exact f2
          · intro j; rw [if_neg (by lia)]
          · intro j; rw [if_neg (by lia)]
      refine zb_ifle (tgt := 41) bkShe_put_26 bdShe_put_27 (by decide) (lv' := [(3, .int m), (0, .ref 1), (1, .int p), (2, .ref 34)]) (st' := []) (h' := zN sg) (x := p) (Ps := []) rfl trivial (fun c6 => ?_) (fun c6 => ?_)
      · skip
        refine zG_run bkShe_put_41 (lv' := [(3, .int m), (0, .ref 1), (1, .int p), (2, .ref 34)]) (st' := [.int 4]) (h' := zN sg) (Ps := []) rfl trivial ?_
        exact K _ (by first | rw [if_pos (by lia)] | rw [if_neg (by lia)])
      · skip
        refine zG_run bkShe_put_30 (lv' := [(3, .int m), (0, .ref 1), (1, .int p), (2, .ref 34)]) (st' := [.int (sg 3 (p - 1))]) (h' := zN sg) (Ps := [zOb (zN sg) 1 5 ∧ (zN sg).2.2 1 1 = true, zInL (zN sg) 3 (p - 1)]) rfl (zA ⟨zob_1, rfl⟩ (zA (zinL_3 (i := p - 1) (by lia) (by lia)) trivial)) ?_
        exact K _ (by first | rw [if_pos (by lia)] | rw [if_neg (by lia)])
    · skip
      refine zb_vret bkShe_put_25 bdShe_put_25 rfl (h' := zN sg) (Ps := []) rfl trivial rfl ?_
      refine hq _ _ ?_
      exfalso; lia
theorem cShe_put {sg : zSig} {p m : Int32} (n0 : 0 ≤ sg 1 2) (n1 : sg 1 2 ≤ 200) (g0 : 0 ≤ sg 1 4) (g1 : sg 1 4 ≤ 16) (a0 : 0 ≤ sg 1 6) (a1 : sg 1 6 ≤ 12) (p0 : 0 ≤ p) (p1 : p ≤ sg 1 2) (m0 : 0 ≤ m) (m2 : m ≤ 200) (m1 : sg 1 2 ≤ 200 - m) (em : sg 34 1 = m) : zG mShe_put 411 (fun rr h' => ∃ sg', rr = none ∧ h' = zN sg' ∧ hShF sg sg' (fun s x => hSpC s x p m) (fun s x => hAnC s x p m) ∧ sg' 1 2 = sg 1 2 + m ∧ (∀ j, 0 ≤ j → j < sg 1 2 + m → sg' 2 j = lIn (sg 2) (sg 35) p m j) ∧ ∀ j, 0 ≤ j → j < sg 1 2 + m → sg' 3 j = lIn (sg 3) (fun _ => if 0 < p then sg 3 (p - 1) else 4) p m j) 0 [(0, .ref 1), (1, .int p), (2, .ref 34)] [] (zN sg) := lShe_put n0 n1 g0 g1 a0 a1 p0 p1 m0 m2 m1 em (fun _ _ q => q)
theorem bkShe_lettersGo_0 : zBk mShe_lettersGo 0 [(1, 0, 1, 0, 0), (1, 1, 0, 0, 0), (1, 2, 0, 0, 0)] = some 3 := by decide +kernel
theorem bkShe_lettersGo_6 : zBk mShe_lettersGo 6 [] = some 6 := by decide +kernel
theorem bkShe_lettersGo_10 : zBk mShe_lettersGo 10 [(1, 0, 1, 0, 0), (5, 5, 0, 1, 0), (1, 2, 0, 0, 0), (1, 0, 1, 0, 0), (5, 5, 0, 1, 0), (1, 1, 0, 0, 0), (1, 0, 1, 0, 0), (5, 5, 2, 0, 2), (1, 2, 0, 0, 0), (4, 1, 0, 0, 0)] = some 26 := by decide +kernel
theorem bkShe_lettersGo_29 : zBk mShe_lettersGo 29 [(1, 0, 1, 0, 0), (5, 5, 1, 2, 1), (1, 2, 0, 0, 0), (1, 0, 1, 0, 0), (5, 5, 1, 2, 1), (1, 1, 0, 0, 0), (1, 0, 1, 0, 0), (5, 5, 2, 0, 2), (1, 2, 0, 0, 0), (4, 1, 0, 0, 0)] = some 45 := by decide +kernel
theorem bkShe_lettersGo_48 : zBk mShe_lettersGo 48 [(1, 0, 1, 0, 0), (18, 0, 0, 0, 0), (5, 5, 2, 0, 2), (1, 2, 0, 0, 0), (1, 1, 0, 0, 0), (4, 1, 0, 0, 0), (4, 1, 0, 0, 0), (6, 5, 2, 0, 2)] = some 60 := by decide +kernel
theorem bkShe_lettersGo_60 : zBk mShe_lettersGo 60 [(0, 0, 0, 0, 0), (2, 3, 0, 0, 0)] = some 62 := by decide +kernel
theorem bkShe_lettersGo_62 : zBk mShe_lettersGo 62 [(1, 3, 0, 0, 0), (1, 0, 1, 0, 0), (5, 5, 4, 0, 4)] = some 67 := by decide +kernel
theorem bkShe_lettersGo_87 : zBk mShe_lettersGo 87 [(0, 0, 0, 0, 0), (2, 3, 0, 0, 0)] = some 89 := by decide +kernel
theorem bkShe_lettersGo_89 : zBk mShe_lettersGo 89 [(1, 3, 0, 0, 0), (1, 0, 1, 0, 0), (5, 5, 6, 0, 6)] = some 94 := by decide +kernel
theorem bkShe_lettersGo_114 : zBk mShe_lettersGo 114 [] = some 114 := by decide +kernel
theorem bkShe_lettersGo_97 : zBk mShe_lettersGo 97 [(1, 0, 1, 0, 0), (5, 5, 5, 4, 5), (1, 3, 0, 0, 0), (9, 0, 0, 0, 0), (1, 1, 0, 0, 0), (1, 2, 0, 0, 0)] = some 105 := by decide +kernel
theorem bkShe_lettersGo_108 : zBk mShe_lettersGo 108 [(3, 3, 0, 0, 1), (22, 89, 0, 0, 0)] = some 89 := by decide +kernel
theorem bkShe_lettersGo_70 : zBk mShe_lettersGo 70 [(1, 0, 1, 0, 0), (5, 5, 3, 3, 3), (1, 3, 0, 0, 0), (9, 0, 0, 0, 0), (1, 1, 0, 0, 0), (1, 2, 0, 0, 0)] = some 78 := by decide +kernel
theorem bkShe_lettersGo_81 : zBk mShe_lettersGo 81 [(3, 3, 0, 0, 1), (22, 62, 0, 0, 0)] = some 62 := by decide +kernel
theorem bkShe_lettersGo_9 : zBk mShe_lettersGo 9 [] = some 9 := by decide +kernel
theorem bdShe_lettersGo_3 : decode mShe_lettersGo.2.2.1 3 = .ok (.invokevirtual 107, 3) := by decide +kernel
theorem bdShe_lettersGo_6 : decode mShe_lettersGo.2.2.1 6 = .ok (.ifCond .ne 4, 3) := by decide +kernel
theorem bdShe_lettersGo_9 : decode mShe_lettersGo.2.2.1 9 = .ok (.return_, 1) := by decide +kernel
theorem bdShe_lettersGo_26 : decode mShe_lettersGo.2.2.1 26 = .ok (.invokestatic 42, 3) := by decide +kernel
theorem bdShe_lettersGo_45 : decode mShe_lettersGo.2.2.1 45 = .ok (.invokestatic 42, 3) := by decide +kernel
theorem bdShe_lettersGo_67 : decode mShe_lettersGo.2.2.1 67 = .ok (.if_icmp .ge 20, 3) := by decide +kernel
theorem bdShe_lettersGo_78 : decode mShe_lettersGo.2.2.1 78 = .ok (.invokevirtual 111, 3) := by decide +kernel
theorem bdShe_lettersGo_94 : decode mShe_lettersGo.2.2.1 94 = .ok (.if_icmp .ge 20, 3) := by decide +kernel
theorem bdShe_lettersGo_105 : decode mShe_lettersGo.2.2.1 105 = .ok (.invokevirtual 114, 3) := by decide +kernel
theorem bdShe_lettersGo_114 : decode mShe_lettersGo.2.2.1 114 = .ok (.return_, 1) := by decide +kernel
theorem lShe_lettersGo {sg : zSig} {p q : Int32} (n0 : 0 ≤ sg 1 2) (n1 : sg 1 2 ≤ 200) (g0 : 0 ≤ sg 1 4) (g1 : sg 1 4 ≤ 16) (a0 : 0 ≤ sg 1 6) (a1 : sg 1 6 ≤ 12) (p0 : 0 ≤ p) (p1 : p < q) (q1 : q ≤ sg 1 2) {Q : Option Value → zHp → Prop} (hq : ∀ rr h', (∃ sg', rr = none ∧ h' = zN sg' ∧ hShF sg sg' (fun s x => hSpG s x p q) (fun s x => hAnG s x p q) ∧ sg' 1 2 = sg 1 2 - (q - p) ∧ (∀ j, 0 ≤ j → j < sg 1 2 - (q - p) → sg' 2 j = lOut (sg 2) p q j) ∧ ∀ j, 0 ≤ j → j < sg 1 2 - (q - p) → sg' 3 j = lOut (sg 3) p q j) → Q rr h') : zG mShe_lettersGo 411 Q 0 [(0, .ref 1), (1, .int p), (2, .int q)] [] (zN sg) := by
  refine zG_run bkShe_lettersGo_0 (lv' := [(0, .ref 1), (1, .int p), (2, .int q)]) (st' := [.int q, .int p, .ref 1]) (h' := zN sg) (Ps := []) rfl trivial ?_
  refine zG_callv (a := 1) (c := 5) (As := [.int p, .int q]) (rest := []) (N2 := 411) bdShe_lettersGo_3 okShe_isRange lk5_107 (And.intro (by decide) (by decide)) (by decide) rfl rfl rfl (Nat.le_of_ble_eq_true rfl) (Nat.le_of_ble_eq_true rfl) (Nat.le_refl 411) (Nat.le_refl 411) zob_1 cShe_isRange ?_
  rintro rr h' ⟨rfl, rfl⟩ -
  refine zb_ifne (tgt := 10) bkShe_lettersGo_6 bdShe_lettersGo_6 (by decide) (lv' := [(0, .ref 1), (1, .int p), (2, .int q)]) (st' := []) (h' := zN sg) (x := if 0 ≤ p ∧ p < q ∧ q ≤ sg 1 2 then 1 else 0) (Ps := []) rfl trivial (fun c1 => ?_) (fun c1 => ?_)
  · skip
    refine zG_run bkShe_lettersGo_10 (lv' := [(0, .ref 1), (1, .int p), (2, .int q)]) (st' := [.int ((sg 1 2) - q), .int p, .ref 2, .int q, .ref 2]) (h' := zN sg) (Ps := [zOb (zN sg) 1 5 ∧ (zN sg).2.2 1 0 = true, zOb (zN sg) 1 5 ∧ (zN sg).2.2 1 0 = true, zOb (zN sg) 1 5]) rfl (zA ⟨zob_1, rfl⟩ (zA ⟨zob_1, rfl⟩ (zA zob_1 trivial))) ?_
    refine zs_acopy bdShe_lettersGo_26 lk5_42 (And.intro (by decide) (by decide)) (Nat.le_of_ble_eq_true rfl) (zcp_2_2 (sp := q) (dp := p) (n := (sg 1 2) - q) (by lia) (by lia) (by lia) (by lia) (by lia) (by lia) (by lia)) ?_
    refine zG_nm (sg := zcp sg 2 2 q p ((sg 1 2) - q)) (fun sg1 e1 => ?_)
    have f1 : ∀ c j, c ≠ 2 → sg1 c j = sg c j := fun c j h => by rw [e1, zcp_e, if_neg (fun q => h q.1)]
    have l1 : ∀ j, sg1 2 j = if p ≤ j ∧ j < p + (sg 1 2 - q) then sg 2 (q + (j - p)) else sg 2 j := fun j => by rw [e1, zcp_e]; simp only [true_and]
    have ns : sg1 1 2 = sg 1 2 := f1 1 2 (by decide)
    refine zG_run bkShe_lettersGo_29 (lv' := [(0, .ref 1), (1, .int p), (2, .int q)]) (st' := [.int ((sg1 1 2) - q), .int p, .ref 3, .int q, .ref 3]) (h' := zN sg1) (Ps := [zOb (zN sg1) 1 5 ∧ (zN sg1).2.2 1 1 = true, zOb (zN sg1) 1 5 ∧ (zN sg1).2.2 1 1 = true, zOb (zN sg1) 1 5]) rfl (zA ⟨zob_1, rfl⟩ (zA ⟨zob_1, rfl⟩ (zA zob_1 trivial))) ?_
    refine zs_acopy bdShe_lettersGo_45 lk5_42 (And.intro (by decide) (by decide)) (Nat.le_of_ble_eq_true rfl) (zcp_3_3 (sp := q) (dp := p) (n := (sg1 1 2) - q) (by lia) (by lia) (by lia) (by lia) (by lia) (by lia) (by lia)) ?_
    refine zG_nm (sg := zcp sg1 3 3 q p ((sg1 1 2) - q)) (fun sg2 e2 => ?_)
    have f2 : ∀ c j, c ≠ 2 → c ≠ 3 → sg2 c j = sg c j := fun c j h h3 => by rw [e2, zcp_e, if_neg (fun q => h3 q.1)]; exact f1 c j h
    have l2 : ∀ j, sg2 2 j = sg1 2 j := fun j => by rw [e2, zcp_e, if_neg (fun q => absurd q.1 (by decide))]
    have p2 : ∀ j, sg2 3 j = if p ≤ j ∧ j < p + (sg 1 2 - q) then sg 3 (q + (j - p)) else sg 3 j := fun j => by rw [e2, zcp_e, f1 1 2 (by decide), f1 3 _ (by decide), f1 3 _ (by decide)]; simp only [true_and]
    refine zG_run bkShe_lettersGo_48 (lv' := [(0, .ref 1), (1, .int p), (2, .int q)]) (st' := []) (h' := zN (zup sg2 1 2 ((sg2 1 2) - (q - p)))) (Ps := [zOb (zN sg2) 1 5, zOb (zN sg2) 1 5]) rfl (zA zob_1 (zA zob_1 trivial)) ?_
    refine zG_nm (sg := zup sg2 1 2 ((sg2 1 2) - (q - p))) (fun sg4 e4 => ?_)
    have f4 : ∀ c j, (c < 1 ∨ 4 ≤ c) → sg4 c j = sg c j := fun c j h => by rw [e4, zup_a (by omega)]; exact f2 c j (by omega) (by omega)
    have g4 : sg4 1 4 = sg 1 4 := by rw [e4, zup_i (by decide)]; exact f2 1 4 (by decide) (by decide)
    have h4 : sg4 1 6 = sg 1 6 := by rw [e4, zup_i (by decide)]; exact f2 1 6 (by decide) (by decide)
    have s4 : sg4 1 2 = sg 1 2 - (q - p) := by rw [e4, zup_s, f2 1 2 (by decide) (by decide)]
    have l4 : ∀ j, 0 ≤ j → j < sg 1 2 - (q - p) → sg4 2 j = lOut (sg 2) p q j := by
      intro j h5 h6
      rw [e4, zup_a (by decide), l2, l1]
      exact lOut_of p0 p1 q1 n1 h5 h6
    have q4 : ∀ j, 0 ≤ j → j < sg 1 2 - (q - p) → sg4 3 j = lOut (sg 3) p q j := by
      intro j h5 h6
      rw [e4, zup_a (by decide), p2]
      exact lOut_of p0 p1 q1 n1 h5 h6
    refine zG_run bkShe_lettersGo_60 (lv' := [(3, .int 0), (0, .ref 1), (1, .int p), (2, .int q)]) (st' := []) (h' := zN sg4) (Ps := []) rfl trivial ?_
    refine zG_pick (lv' := [(0, .ref 1), (1, .int p), (2, .int q), (3, .int 0)]) [1, 2, 3, 0] rfl ?_
    refine zlp2 (fun (k : Int32) (sg5 : zSig) => zG mShe_lettersGo 411 Q 62 [(0, .ref 1), (1, .int p), (2, .int q), (3, .int k)] [] (zN sg5)) (fun (k : Int32) (sg5 : zSig) => (0 ≤ k) ∧ (k ≤ sg 1 4) ∧ (iSp (fun s x => hSpG s x p q) sg4 sg5 k)) (fun (k : Int32) (sg5 : zSig) => zmu (sg 1 4) k) ?_ 0 sg4 ?_
    · intro k sg5 hk ihk
      obtain ⟨k0, k1, ki⟩ := hk
      have kg : sg5 1 4 = sg 1 4 := by rw [ki.1 1 4 (by decide)]; exact g4
      refine zb_icge (tgt := 87) bkShe_lettersGo_62 bdShe_lettersGo_67 (by decide) (lv' := [(0, .ref 1), (1, .int p), (2, .int q), (3, .int k)]) (st' := []) (h' := zN sg5) (x := k) (y := sg5 1 4) (Ps := [zOb (zN sg5) 1 5]) rfl (zA zob_1 trivial) (fun c2 => ?_) (fun c2 => ?_)
      · skip
        refine zG_run bkShe_lettersGo_87 (lv' := [(3, .int 0), (0, .ref 1), (1, .int p), (2, .int q)]) (st' := []) (h' := zN sg5) (Ps := []) rfl trivial ?_
        refine zG_pick (lv' := [(0, .ref 1), (1, .int p), (2, .int q), (3, .int 0)]) [1, 2, 3, 0] rfl ?_
        refine zlp2 (fun (q6 : Int32) (sg6 : zSig) => zG mShe_lettersGo 411 Q 89 [(0, .ref 1), (1, .int p), (2, .int q), (3, .int q6)] [] (zN sg6)) (fun (q6 : Int32) (sg6 : zSig) => (0 ≤ q6) ∧ (q6 ≤ sg 1 6) ∧ (iAn (fun s x => hAnG s x p q) sg5 sg6 q6)) (fun (q6 : Int32) (sg6 : zSig) => zmu (sg 1 6) q6) ?_ 0 sg5 ?_
        · intro q6 sg6 hm ihm
          obtain ⟨m0, m1, mi⟩ := hm
          have mg : sg6 1 6 = sg 1 6 := by rw [mi.1 1 6 (by decide), ki.1 1 6 (by decide)]; exact h4
          refine zb_icge (tgt := 114) bkShe_lettersGo_89 bdShe_lettersGo_94 (by decide) (lv' := [(0, .ref 1), (1, .int p), (2, .int q), (3, .int q6)]) (st' := []) (h' := zN sg6) (x := q6) (y := sg6 1 6) (Ps := [zOb (zN sg6) 1 5]) rfl (zA zob_1 trivial) (fun c3 => ?_) (fun c3 => ?_)
          · skip
            refine zb_vret bkShe_lettersGo_114 bdShe_lettersGo_114 rfl (h' := zN sg6) (Ps := []) rfl trivial rfl ?_
            refine hq _ _ ?_
            refine ⟨sg6, rfl, rfl, hShF_of (loc_SpG p q) (loc_AnG p q) f4 g4 h4 ki (by lia) g1 mi (by lia) a1, ?_, fun j h5 h6 => ?_, fun j h5 h6 => ?_⟩
            · rw [mi.1 1 2 (by decide), ki.1 1 2 (by decide)]; exact s4
            · rw [mi.1 2 j (by decide), ki.1 2 j (by decide)]; exact l4 j h5 h6
            · rw [mi.1 3 j (by decide), ki.1 3 j (by decide)]; exact q4 j h5 h6
          · skip
            refine zG_run bkShe_lettersGo_97 (lv' := [(0, .ref 1), (1, .int p), (2, .int q), (3, .int q6)]) (st' := [.int q, .int p, .ref (zel 5 q6)]) (h' := zN sg6) (Ps := [zOb (zN sg6) 1 5 ∧ (zN sg6).2.2 1 5 = true, zInR (zN sg6) 5 q6]) rfl (zA ⟨zob_1, rfl⟩ (zA (zinR_5 (i := q6) (by lia) (by lia)) trivial)) ?_
            refine zG_callv (a := zel 5 q6) (c := 1) (As := [.int p, .int q]) (rest := []) (N2 := 411) bdShe_lettersGo_105 okAnc_lettersGo lk5_114 (And.intro (by decide) (by decide)) (by decide) rfl rfl rfl (Nat.le_of_ble_eq_true rfl) (Nat.le_of_ble_eq_true rfl) (Nat.le_refl 411) (Nat.le_refl 411) (zel_ob5 (i := q6) (by lia) (by lia)) (cAnc_lettersGo (zel_ob5 (i := q6) (by lia) (by lia))) ?_
            rintro rr h' ⟨rfl, rfl⟩ -
            refine zG_run bkShe_lettersGo_108 (lv' := [(3, .int (q6 + 1)), (0, .ref 1), (1, .int p), (2, .int q)]) (st' := []) (h' := zN (hAnG sg6 (zel 5 q6) p q)) (Ps := []) rfl trivial ?_
            refine zG_pick (lv' := [(0, .ref 1), (1, .int p), (2, .int q), (3, .int (q6 + 1))]) [1, 2, 3, 0] rfl ?_
            refine ihm (q6 + 1) (hAnG sg6 (zel 5 q6) p q) ?_ ?_
            · refine ⟨?_, ?_, ?_⟩
              · lia
              · lia
              · exact iAn_s (loc_AnG p q) mi m0 (by lia)
            · exact zmu_up (by lia)
        · refine ⟨?_, ?_, ?_⟩
          · lia
          · lia
          · exact iAn_0
      · skip
        refine zG_run bkShe_lettersGo_70 (lv' := [(0, .ref 1), (1, .int p), (2, .int q), (3, .int k)]) (st' := [.int q, .int p, .ref (zel 4 k)]) (h' := zN sg5) (Ps := [zOb (zN sg5) 1 5 ∧ (zN sg5).2.2 1 3 = true, zInR (zN sg5) 4 k]) rfl (zA ⟨zob_1, rfl⟩ (zA (zinR_4 (i := k) (by lia) (by lia)) trivial)) ?_
        refine zG_callv (a := zel 4 k) (c := 6) (As := [.int p, .int q]) (rest := []) (N2 := 411) bdShe_lettersGo_78 okSpa_lettersGo lk5_111 (And.intro (by decide) (by decide)) (by decide) rfl rfl rfl (Nat.le_of_ble_eq_true rfl) (Nat.le_of_ble_eq_true rfl) (Nat.le_refl 411) (Nat.le_refl 411) (zel_ob4 (i := k) (by lia) (by lia)) (cSpa_lettersGo (zel_ob4 (i := k) (by lia) (by lia))) ?_
        rintro rr h' ⟨rfl, rfl⟩ -
        refine zG_run bkShe_lettersGo_81 (lv' := [(3, .int (k + 1)), (0, .ref 1), (1, .int p), (2, .int q)]) (st' := []) (h' := zN (hSpG sg5 (zel 4 k) p q)) (Ps := []) rfl trivial ?_
        refine zG_pick (lv' := [(0, .ref 1), (1, .int p), (2, .int q), (3, .int (k + 1))]) [1, 2, 3, 0] rfl ?_
        refine ihk (k + 1) (hSpG sg5 (zel 4 k) p q) ?_ ?_
        · refine ⟨?_, ?_, ?_⟩
          · lia
          · lia
          · exact iSp_s (loc_SpG p q) ki k0 (by lia)
        · exact zmu_up (by lia)
    · refine ⟨?_, ?_, ?_⟩
      · lia
      · lia
      · exact iSp_0
  · skip
    refine zb_vret bkShe_lettersGo_9 bdShe_lettersGo_9 rfl (h' := zN sg) (Ps := []) rfl trivial rfl ?_
    refine hq _ _ ?_
    exfalso; lia
theorem cShe_lettersGo {sg : zSig} {p q : Int32} (n0 : 0 ≤ sg 1 2) (n1 : sg 1 2 ≤ 200) (g0 : 0 ≤ sg 1 4) (g1 : sg 1 4 ≤ 16) (a0 : 0 ≤ sg 1 6) (a1 : sg 1 6 ≤ 12) (p0 : 0 ≤ p) (p1 : p < q) (q1 : q ≤ sg 1 2) : zG mShe_lettersGo 411 (fun rr h' => ∃ sg', rr = none ∧ h' = zN sg' ∧ hShF sg sg' (fun s x => hSpG s x p q) (fun s x => hAnG s x p q) ∧ sg' 1 2 = sg 1 2 - (q - p) ∧ (∀ j, 0 ≤ j → j < sg 1 2 - (q - p) → sg' 2 j = lOut (sg 2) p q j) ∧ ∀ j, 0 ≤ j → j < sg 1 2 - (q - p) → sg' 3 j = lOut (sg 3) p q j) 0 [(0, .ref 1), (1, .int p), (2, .int q)] [] (zN sg) := lShe_lettersGo n0 n1 g0 g1 a0 a1 p0 p1 q1 (fun _ _ q => q)
end
section
/-! letters moved; a sheet begun anew; the most spans: printed by wip/whole/p21.py -/
theorem lMv_of1 {S : Int32 → Int32} {p q r j : Int32} (p1 : p < q) (q1 : q ≤ 200) (r0 : 0 ≤ r) (r1 : r < p) (j0 : 0 ≤ j) (j1 : j < 200) : (if r ≤ j ∧ j < r + (q - p) then S (p + (j - r)) else if r + (q - p) ≤ j ∧ j < q then S (j - (q - p)) else S j) = lMv S p q (pLd p q r) j := by
  have et : pLd p q r = r := by unfold pLd; rw [if_neg (by lia)]
  rw [et]
  obtain ⟨d, rfl⟩ : ∃ d, q = p + d := ⟨q - p, by grind⟩
  have e1 : p + d - p = d := (zr1 p d).symm
  have d0 : 0 < d ∧ d ≤ 200 := by lia
  unfold lMv lOut
  rw [e1]
  by_cases h1 : r ≤ j ∧ j < r + d
  · rw [if_pos h1, if_pos h1]
  · rw [if_neg h1, if_neg h1]
    by_cases h2 : j < r
    · rw [if_pos h2, if_neg (by lia), if_pos (by lia)]
    · rw [if_neg h2]
      by_cases h3 : j < p + d
      · rw [if_pos (by lia), if_pos (by lia)]
      · rw [if_neg (by lia), if_neg (by lia)]
        congr 1
        clear h1 h2 h3 d0 e1 et p1 q1 r0 r1 j0 j1
        grind
theorem lMv_of2 {S : Int32 → Int32} {p q r j : Int32} (p0 : 0 ≤ p) (p1 : p < q) (r0 : q < r) (r1 : r ≤ 200) (j0 : 0 ≤ j) (j1 : j < 200) : (if p ≤ j ∧ j < p + (r - q) then S (q + (j - p)) else if p + (r - q) ≤ j ∧ j < r then S (j - (r - q)) else S j) = lMv S p q (pLd p q r) j := by
  have et : pLd p q r = r - (q - p) := by unfold pLd; rw [if_pos (by lia)]
  rw [et]
  obtain ⟨d, rfl⟩ : ∃ d, q = p + d := ⟨q - p, by grind⟩
  have e1 : p + d - p = d := (zr1 p d).symm
  have d0 : 0 < d ∧ d ≤ 200 := by lia
  obtain ⟨u, rfl⟩ : ∃ u, r = u + d := ⟨r - d, by grind⟩
  have e2 : u + d - d = u := by grind
  have e3 : p + (u + d - (p + d)) = u := by grind
  have u0 : p < u ∧ u ≤ 200 := by lia
  unfold lMv lOut
  rw [e1, e2, e3]
  clear et e1 e2 e3 p1 r0
  by_cases h1 : j < u
  · by_cases h2 : j < p
    · rw [if_neg (by lia : ¬ (p ≤ j ∧ j < u)), if_neg (by lia : ¬ (u ≤ j ∧ j < u + d)), if_neg (by lia : ¬ (u ≤ j ∧ j < u + d)), if_pos h1, if_pos h2]
    · rw [if_pos (by lia : p ≤ j ∧ j < u), if_neg (by lia : ¬ (u ≤ j ∧ j < u + d)), if_pos h1, if_neg h2]
      congr 1
      clear h1 h2 d0 u0 p0 r1 j0 j1
      grind
  · by_cases h2 : j < u + d
    · rw [if_neg (by lia : ¬ (p ≤ j ∧ j < u)), if_pos (by lia : u ≤ j ∧ j < u + d), if_pos (by lia : u ≤ j ∧ j < u + d)]
      congr 1
      clear h1 h2 d0 u0 p0 r1 j0 j1
      grind
    · rw [if_neg (by lia : ¬ (p ≤ j ∧ j < u)), if_neg (by lia : ¬ (u ≤ j ∧ j < u + d)), if_neg (by lia : ¬ (u ≤ j ∧ j < u + d)), if_neg h1, if_neg (by lia : ¬ j - d < p)]
      congr 1
      clear h1 h2 d0 u0 p0 r1 j0 j1
      grind
theorem bkShe_lettersMove_48 : zBk mShe_lettersMove 48 [(0, 0, 0, 0, 0), (2, 4, 0, 0, 0), (0, 0, 0, 0, 0), (2, 5, 0, 0, 0)] = some 54 := by decide +kernel
theorem bkShe_lettersMove_54 : zBk mShe_lettersMove 54 [(1, 5, 0, 0, 0), (1, 0, 1, 0, 0), (5, 5, 4, 0, 4)] = some 60 := by decide +kernel
theorem bkShe_lettersMove_101 : zBk mShe_lettersMove 101 [(0, 0, 0, 0, 0), (2, 5, 0, 0, 0)] = some 104 := by decide +kernel
theorem bkShe_lettersMove_104 : zBk mShe_lettersMove 104 [(1, 5, 0, 0, 0), (1, 0, 1, 0, 0), (5, 5, 6, 0, 6)] = some 110 := by decide +kernel
theorem bkShe_lettersMove_155 : zBk mShe_lettersMove 155 [(1, 4, 0, 0, 0)] = some 157 := by decide +kernel
theorem bkShe_lettersMove_113 : zBk mShe_lettersMove 113 [(1, 0, 1, 0, 0), (5, 5, 5, 4, 5), (1, 5, 0, 0, 0), (9, 0, 0, 0, 0), (1, 0, 1, 0, 0), (5, 5, 5, 4, 5), (1, 5, 0, 0, 0), (9, 0, 0, 0, 0), (5, 1, 1, 0, 1), (1, 0, 1, 0, 0), (5, 5, 5, 4, 5), (1, 5, 0, 0, 0), (9, 0, 0, 0, 0), (5, 1, 2, 0, 2), (1, 1, 0, 0, 0), (1, 2, 0, 0, 0), (1, 3, 0, 0, 0)] = some 143 := by decide +kernel
theorem bkShe_lettersMove_146 : zBk mShe_lettersMove 146 [(6, 1, 1, 0, 1), (3, 5, 0, 0, 1), (22, 104, 0, 0, 0)] = some 104 := by decide +kernel
theorem bkShe_lettersMove_63 : zBk mShe_lettersMove 63 [(1, 0, 1, 0, 0), (5, 5, 3, 3, 3), (1, 5, 0, 0, 0), (9, 0, 0, 0, 0), (5, 6, 0, 0, 0)] = some 73 := by decide +kernel
theorem bkShe_lettersMove_95 : zBk mShe_lettersMove 95 [(3, 5, 0, 0, 1), (22, 54, 0, 0, 0)] = some 54 := by decide +kernel
theorem bkShe_lettersMove_76 : zBk mShe_lettersMove 76 [(1, 0, 1, 0, 0), (5, 5, 3, 3, 3), (1, 5, 0, 0, 0), (9, 0, 0, 0, 0), (1, 1, 0, 0, 0), (1, 2, 0, 0, 0), (1, 3, 0, 0, 0)] = some 86 := by decide +kernel
theorem bkShe_lettersMove_89 : zBk mShe_lettersMove 89 [] = some 89 := by decide +kernel
theorem bkShe_lettersMove_92 : zBk mShe_lettersMove 92 [(3, 4, 0, 0, 1), (3, 5, 0, 0, 1), (22, 54, 0, 0, 0)] = some 54 := by decide +kernel
theorem bkShe_lettersMove_0 : zBk mShe_lettersMove 0 [(1, 3, 0, 0, 0), (1, 1, 0, 0, 0)] = some 2 := by decide +kernel
theorem bkShe_lettersMove_28 : zBk mShe_lettersMove 28 [(1, 0, 1, 0, 0), (5, 5, 0, 1, 0), (1, 1, 0, 0, 0), (1, 2, 0, 0, 0), (1, 3, 0, 0, 0)] = some 35 := by decide +kernel
theorem bkShe_lettersMove_38 : zBk mShe_lettersMove 38 [(1, 0, 1, 0, 0), (5, 5, 1, 2, 1), (1, 1, 0, 0, 0), (1, 2, 0, 0, 0), (1, 3, 0, 0, 0)] = some 45 := by decide +kernel
theorem bkShe_lettersMove_5 : zBk mShe_lettersMove 5 [(1, 0, 1, 0, 0), (5, 5, 0, 1, 0), (1, 3, 0, 0, 0), (1, 1, 0, 0, 0), (1, 2, 0, 0, 0)] = some 12 := by decide +kernel
theorem bkShe_lettersMove_15 : zBk mShe_lettersMove 15 [(1, 0, 1, 0, 0), (5, 5, 1, 2, 1), (1, 3, 0, 0, 0), (1, 1, 0, 0, 0), (1, 2, 0, 0, 0)] = some 22 := by decide +kernel
theorem bkShe_lettersMove_25 : zBk mShe_lettersMove 25 [(22, 48, 0, 0, 0)] = some 48 := by decide +kernel
theorem bdShe_lettersMove_2 : decode mShe_lettersMove.2.2.1 2 = .ok (.if_icmp .ge 26, 3) := by decide +kernel
theorem bdShe_lettersMove_12 : decode mShe_lettersMove.2.2.1 12 = .ok (.invokestatic 115, 3) := by decide +kernel
theorem bdShe_lettersMove_22 : decode mShe_lettersMove.2.2.1 22 = .ok (.invokestatic 115, 3) := by decide +kernel
theorem bdShe_lettersMove_35 : decode mShe_lettersMove.2.2.1 35 = .ok (.invokestatic 115, 3) := by decide +kernel
theorem bdShe_lettersMove_45 : decode mShe_lettersMove.2.2.1 45 = .ok (.invokestatic 115, 3) := by decide +kernel
theorem bdShe_lettersMove_60 : decode mShe_lettersMove.2.2.1 60 = .ok (.if_icmp .ge 41, 3) := by decide +kernel
theorem bdShe_lettersMove_73 : decode mShe_lettersMove.2.2.1 73 = .ok (.ifCond .eq 22, 3) := by decide +kernel
theorem bdShe_lettersMove_86 : decode mShe_lettersMove.2.2.1 86 = .ok (.invokevirtual 119, 3) := by decide +kernel
theorem bdShe_lettersMove_89 : decode mShe_lettersMove.2.2.1 89 = .ok (.ifCond .eq 6, 3) := by decide +kernel
theorem bdShe_lettersMove_110 : decode mShe_lettersMove.2.2.1 110 = .ok (.if_icmp .ge 45, 3) := by decide +kernel
theorem bdShe_lettersMove_143 : decode mShe_lettersMove.2.2.1 143 = .ok (.invokestatic 123, 3) := by decide +kernel
theorem bdShe_lettersMove_157 : decode mShe_lettersMove.2.2.1 157 = .ok (.ireturn, 1) := by decide +kernel
theorem lShe_lettersMove {sg : zSig} {p q r : Int32} (n0 : 0 ≤ sg 1 2) (n1 : sg 1 2 ≤ 200) (g0 : 0 ≤ sg 1 4) (g1 : sg 1 4 ≤ 16) (a0 : 0 ≤ sg 1 6) (a1 : sg 1 6 ≤ 12) (p0 : 0 ≤ p) (p1 : p < q) (q1 : q ≤ sg 1 2) (r0 : 0 ≤ r) (r1 : r ≤ sg 1 2) (r2 : r < p ∨ q < r) {Q : Option Value → zHp → Prop} (hq : ∀ rr h', (∃ v sg', rr = some (.int v) ∧ h' = zN sg' ∧ v = zit (nMv sg p q) 0 (sg 1 4) ∧ hShF sg sg' (fun s x => hSpMs s x p q r) (fun s x => hAnM s x p q r) ∧ sg' 1 2 = sg 1 2 ∧ (∀ j, 0 ≤ j → j < sg 1 2 → sg' 2 j = lMv (sg 2) p q (pLd p q r) j) ∧ ∀ j, 0 ≤ j → j < sg 1 2 → sg' 3 j = lMv (sg 3) p q (pLd p q r) j) → Q rr h') : zG mShe_lettersMove 411 Q 0 [(0, .ref 1), (1, .int p), (2, .int q), (3, .int r)] [] (zN sg) := by
  have K : ∀ (sg4 : zSig), (∀ c j, (c < 1 ∨ 4 ≤ c ∨ c = 1) → sg4 c j = sg c j) → (∀ c j, c ≠ 2 → c ≠ 3 → sg4 c j = sg c j) → (∀ j, 0 ≤ j → j < sg 1 2 → sg4 2 j = lMv (sg 2) p q (pLd p q r) j) → (∀ j, 0 ≤ j → j < sg 1 2 → sg4 3 j = lMv (sg 3) p q (pLd p q r) j) → zG mShe_lettersMove 411 Q 48 [(0, .ref 1), (1, .int p), (2, .int q), (3, .int r)] [] (zN sg4) := by
    intro sg4 f4 f23 l4 q4
    refine zG_run bkShe_lettersMove_48 (lv' := [(5, .int 0), (4, .int 0), (0, .ref 1), (1, .int p), (2, .int q), (3, .int r)]) (st' := []) (h' := zN sg4) (Ps := []) rfl trivial ?_
    refine zG_pick (lv' := [(0, .ref 1), (1, .int p), (2, .int q), (3, .int r), (4, .int 0), (5, .int 0)]) [2, 3, 4, 5, 1, 0] rfl ?_
    refine zlp3 (fun (n : Int32) (k : Int32) (sg5 : zSig) => zG mShe_lettersMove 411 Q 54 [(0, .ref 1), (1, .int p), (2, .int q), (3, .int r), (4, .int n), (5, .int k)] [] (zN sg5)) (fun (n : Int32) (k : Int32) (sg5 : zSig) => (0 ≤ k) ∧ (k ≤ sg 1 4) ∧ (n = zit (nMv sg p q) 0 k) ∧ (iSp (fun s x => hSpMs s x p q r) sg4 sg5 k)) (fun (n : Int32) (k : Int32) (sg5 : zSig) => zmu (sg 1 4) k) ?_ 0 0 sg4 ?_
    · intro n k sg5 hk ihk
      obtain ⟨k0, k1, kn, ki⟩ := hk
      have kg : sg5 1 4 = sg 1 4 := by rw [ki.1 1 4 (by decide)]; exact f4 1 4 (by decide)
      refine zb_icge (tgt := 101) bkShe_lettersMove_54 bdShe_lettersMove_60 (by decide) (lv' := [(0, .ref 1), (1, .int p), (2, .int q), (3, .int r), (4, .int n), (5, .int k)]) (st' := []) (h' := zN sg5) (x := k) (y := sg5 1 4) (Ps := [zOb (zN sg5) 1 5]) rfl (zA zob_1 trivial) (fun c1 => ?_) (fun c1 => ?_)
      · skip
        refine zG_run bkShe_lettersMove_101 (lv' := [(5, .int 0), (0, .ref 1), (1, .int p), (2, .int q), (3, .int r), (4, .int n)]) (st' := []) (h' := zN sg5) (Ps := []) rfl trivial ?_
        refine zG_pick (lv' := [(0, .ref 1), (1, .int p), (2, .int q), (3, .int r), (4, .int n), (5, .int 0)]) [1, 2, 3, 4, 5, 0] rfl ?_
        refine zlp2 (fun (q6 : Int32) (sg6 : zSig) => zG mShe_lettersMove 411 Q 104 [(0, .ref 1), (1, .int p), (2, .int q), (3, .int r), (4, .int n), (5, .int q6)] [] (zN sg6)) (fun (q6 : Int32) (sg6 : zSig) => (0 ≤ q6) ∧ (q6 ≤ sg 1 6) ∧ (iAn (fun s x => hAnM s x p q r) sg5 sg6 q6)) (fun (q6 : Int32) (sg6 : zSig) => zmu (sg 1 6) q6) ?_ 0 sg5 ?_
        · intro q6 sg6 hm ihm
          obtain ⟨m0, m1, mi⟩ := hm
          have mg : sg6 1 6 = sg 1 6 := by rw [mi.1 1 6 (by decide), ki.1 1 6 (by decide)]; exact f4 1 6 (by decide)
          refine zb_icge (tgt := 155) bkShe_lettersMove_104 bdShe_lettersMove_110 (by decide) (lv' := [(0, .ref 1), (1, .int p), (2, .int q), (3, .int r), (4, .int n), (5, .int q6)]) (st' := []) (h' := zN sg6) (x := q6) (y := sg6 1 6) (Ps := [zOb (zN sg6) 1 5]) rfl (zA zob_1 trivial) (fun c2 => ?_) (fun c2 => ?_)
          · skip
            refine zb_iret bkShe_lettersMove_155 bdShe_lettersMove_157 rfl (x := n) (h' := zN sg6) (Ps := []) rfl trivial rfl ?_
            refine hq _ _ ?_
            refine ⟨_, sg6, rfl, rfl, ?_, hShF_of (loc_SpM p q r) (loc_AnM p q r) (fun c j h => f23 c j (by omega) (by omega)) (f23 1 4 (by decide) (by decide)) (f23 1 6 (by decide) (by decide)) ki (by lia) g1 mi (by lia) a1, ?_, fun j h5 h6 => ?_, fun j h5 h6 => ?_⟩
            · rw [kn, show k = sg 1 4 by lia]
            · rw [mi.1 1 2 (by decide), ki.1 1 2 (by decide)]; exact f23 1 2 (by decide) (by decide)
            · rw [mi.1 2 j (by decide), ki.1 2 j (by decide)]; exact l4 j h5 h6
            · rw [mi.1 3 j (by decide), ki.1 3 j (by decide)]; exact q4 j h5 h6
          · skip
            refine zG_run bkShe_lettersMove_113 (lv' := [(0, .ref 1), (1, .int p), (2, .int q), (3, .int r), (4, .int n), (5, .int q6)]) (st' := [.int r, .int q, .int p, .int (sg6 (zel 5 q6) 2), .int (sg6 (zel 5 q6) 1), .ref (zel 5 q6)]) (h' := zN sg6) (Ps := [zOb (zN sg6) 1 5 ∧ (zN sg6).2.2 1 5 = true, zInR (zN sg6) 5 q6, zOb (zN sg6) 1 5 ∧ (zN sg6).2.2 1 5 = true, zInR (zN sg6) 5 q6, zOb (zN sg6) (zel 5 q6) 1, zOb (zN sg6) 1 5 ∧ (zN sg6).2.2 1 5 = true, zInR (zN sg6) 5 q6, zOb (zN sg6) (zel 5 q6) 1]) rfl (zA ⟨zob_1, rfl⟩ (zA (zinR_5 (i := q6) (by lia) (by lia)) (zA ⟨zob_1, rfl⟩ (zA (zinR_5 (i := q6) (by lia) (by lia)) (zA (zel_ob5 (i := q6) (by lia) (by lia)) (zA ⟨zob_1, rfl⟩ (zA (zinR_5 (i := q6) (by lia) (by lia)) (zA (zel_ob5 (i := q6) (by lia) (by lia)) trivial)))))))) ?_
            refine zG_calls (As := [.int (sg6 (zel 5 q6) 1), .int (sg6 (zel 5 q6) 2), .int p, .int q, .int r]) (rest := [.ref (zel 5 q6)]) (N2 := 411) bdShe_lettersMove_143 okPla_afterMove lk5_123 (And.intro (by decide) (by decide)) rfl rfl (Nat.le_of_ble_eq_true rfl) (Nat.le_of_ble_eq_true rfl) (Nat.le_refl 411) (Nat.le_refl 411) cPla_afterMove ?_
            rintro rr h' ⟨rfl, rfl⟩ -
            refine zG_run bkShe_lettersMove_146 (lv' := [(5, .int (q6 + 1)), (0, .ref 1), (1, .int p), (2, .int q), (3, .int r), (4, .int n)]) (st' := []) (h' := zN (zup sg6 (zel 5 q6) 1 (pMv (sg6 (zel 5 q6) 1) (sg6 (zel 5 q6) 2) p q r))) (Ps := [zOb (zN sg6) (zel 5 q6) 1]) rfl (zA (zel_ob5 (i := q6) (by lia) (by lia)) trivial) ?_
            refine zG_pick (lv' := [(0, .ref 1), (1, .int p), (2, .int q), (3, .int r), (4, .int n), (5, .int (q6 + 1))]) [1, 2, 3, 4, 5, 0] rfl ?_
            refine ihm (q6 + 1) (zup sg6 (zel 5 q6) 1 (pMv (sg6 (zel 5 q6) 1) (sg6 (zel 5 q6) 2) p q r)) ?_ ?_
            · refine ⟨?_, ?_, ?_⟩
              · lia
              · lia
              · exact iAn_s (loc_AnM p q r) mi m0 (by lia)
            · exact zmu_up (by lia)
        · refine ⟨?_, ?_, ?_⟩
          · lia
          · lia
          · exact iAn_0
      · skip
        refine zb_ifeq (tgt := 95) bkShe_lettersMove_63 bdShe_lettersMove_73 (by decide) (lv' := [(0, .ref 1), (1, .int p), (2, .int q), (3, .int r), (4, .int n), (5, .int k)]) (st' := []) (h' := zN sg5) (x := sg5 (zel 4 k) 0) (Ps := [zOb (zN sg5) 1 5 ∧ (zN sg5).2.2 1 3 = true, zInR (zN sg5) 4 k, zOb (zN sg5) (zel 4 k) 6]) rfl (zA ⟨zob_1, rfl⟩ (zA (zinR_4 (i := k) (by lia) (by lia)) (zA (zel_ob4 (i := k) (by lia) (by lia)) trivial))) (fun c3 => ?_) (fun c3 => ?_)
        · skip
          refine zG_run bkShe_lettersMove_95 (lv' := [(5, .int (k + 1)), (0, .ref 1), (1, .int p), (2, .int q), (3, .int r), (4, .int n)]) (st' := []) (h' := zN sg5) (Ps := []) rfl trivial ?_
          refine zG_pick (lv' := [(0, .ref 1), (1, .int p), (2, .int q), (3, .int r), (4, .int n), (5, .int (k + 1))]) [1, 2, 3, 4, 5, 0] rfl ?_
          refine ihk n (k + 1) sg5 ?_ ?_
          · refine ⟨?_, ?_, ?_, ?_⟩
            · lia
            · lia
            · rw [zit_s _ _ k0 (by lia : k < sg 1 4)]; have hz := zel4_rng k0 (by lia : k < 16); have x0 := ki.2 k 0 k0 (by lia); have x1 := ki.2 k 1 k0 (by lia); have x2 := ki.2 k 2 k0 (by lia); rw [if_neg (by lia), f4 _ _ (by omega)] at x0 x1 x2; clear ki ihk hq f4 f23 l4 q4; grind [nMv]
            · have st := iSp_s (loc_SpM p q r) ki k0 (by lia); have es : hSpMs sg5 (zel 4 k) p q r = sg5 := by unfold hSpMs; rw [if_pos (by assumption)]
              simp only [es] at st; exact st
          · exact zmu_up (by lia)
        · skip
          refine zG_run bkShe_lettersMove_76 (lv' := [(0, .ref 1), (1, .int p), (2, .int q), (3, .int r), (4, .int n), (5, .int k)]) (st' := [.int r, .int q, .int p, .ref (zel 4 k)]) (h' := zN sg5) (Ps := [zOb (zN sg5) 1 5 ∧ (zN sg5).2.2 1 3 = true, zInR (zN sg5) 4 k]) rfl (zA ⟨zob_1, rfl⟩ (zA (zinR_4 (i := k) (by lia) (by lia)) trivial)) ?_
          refine zG_callv (a := zel 4 k) (c := 6) (As := [.int p, .int q, .int r]) (rest := []) (N2 := 411) bdShe_lettersMove_86 okSpa_lettersMove lk5_119 (And.intro (by decide) (by decide)) (by decide) rfl rfl rfl (Nat.le_of_ble_eq_true rfl) (Nat.le_of_ble_eq_true rfl) (Nat.le_refl 411) (Nat.le_refl 411) (zel_ob4 (i := k) (by lia) (by lia)) (cSpa_lettersMove (zel_ob4 (i := k) (by lia) (by lia))) ?_
          rintro rr h' ⟨rfl, rfl⟩ -
          refine zb_ifeq (tgt := 95) bkShe_lettersMove_89 bdShe_lettersMove_89 (by decide) (lv' := [(0, .ref 1), (1, .int p), (2, .int q), (3, .int r), (4, .int n), (5, .int k)]) (st' := []) (h' := zN (hSpM sg5 (zel 4 k) p q r)) (x := if p ≤ sg5 (zel 4 k) 1 ∧ sg5 (zel 4 k) 2 ≤ q then 1 else 0) (Ps := []) rfl trivial (fun c4 => ?_) (fun c4 => ?_)
          · skip
            refine zG_run bkShe_lettersMove_95 (lv' := [(5, .int (k + 1)), (0, .ref 1), (1, .int p), (2, .int q), (3, .int r), (4, .int n)]) (st' := []) (h' := zN (hSpM sg5 (zel 4 k) p q r)) (Ps := []) rfl trivial ?_
            refine zG_pick (lv' := [(0, .ref 1), (1, .int p), (2, .int q), (3, .int r), (4, .int n), (5, .int (k + 1))]) [1, 2, 3, 4, 5, 0] rfl ?_
            refine ihk n (k + 1) (hSpM sg5 (zel 4 k) p q r) ?_ ?_
            · refine ⟨?_, ?_, ?_, ?_⟩
              · lia
              · lia
              · rw [zit_s _ _ k0 (by lia : k < sg 1 4)]; have hz := zel4_rng k0 (by lia : k < 16); have x0 := ki.2 k 0 k0 (by lia); have x1 := ki.2 k 1 k0 (by lia); have x2 := ki.2 k 2 k0 (by lia); rw [if_neg (by lia), f4 _ _ (by omega)] at x0 x1 x2; clear ki ihk hq f4 f23 l4 q4; grind [nMv]
              · have st := iSp_s (loc_SpM p q r) ki k0 (by lia); have es : hSpMs sg5 (zel 4 k) p q r = hSpM sg5 (zel 4 k) p q r := by unfold hSpMs; rw [if_neg (by assumption)]
                simp only [es] at st; exact st
            · exact zmu_up (by lia)
          · skip
            refine zG_run bkShe_lettersMove_92 (lv' := [(5, .int (k + 1)), (4, .int (n + 1)), (0, .ref 1), (1, .int p), (2, .int q), (3, .int r)]) (st' := []) (h' := zN (hSpM sg5 (zel 4 k) p q r)) (Ps := []) rfl trivial ?_
            refine zG_pick (lv' := [(0, .ref 1), (1, .int p), (2, .int q), (3, .int r), (4, .int (n + 1)), (5, .int (k + 1))]) [2, 3, 4, 5, 1, 0] rfl ?_
            refine ihk (n + 1) (k + 1) (hSpM sg5 (zel 4 k) p q r) ?_ ?_
            · refine ⟨?_, ?_, ?_, ?_⟩
              · lia
              · lia
              · rw [zit_s _ _ k0 (by lia : k < sg 1 4)]; have hz := zel4_rng k0 (by lia : k < 16); have x0 := ki.2 k 0 k0 (by lia); have x1 := ki.2 k 1 k0 (by lia); have x2 := ki.2 k 2 k0 (by lia); rw [if_neg (by lia), f4 _ _ (by omega)] at x0 x1 x2; clear ki ihk hq f4 f23 l4 q4; grind [nMv]
              · have st := iSp_s (loc_SpM p q r) ki k0 (by lia); have es : hSpMs sg5 (zel 4 k) p q r = hSpM sg5 (zel 4 k) p q r := by unfold hSpMs; rw [if_neg (by assumption)]
                simp only [es] at st; exact st
            · exact zmu_up (by lia)
    · refine ⟨?_, ?_, ?_, ?_⟩
      · lia
      · lia
      · rfl
      · exact iSp_0
  refine zb_icge (tgt := 28) bkShe_lettersMove_0 bdShe_lettersMove_2 (by decide) (lv' := [(0, .ref 1), (1, .int p), (2, .int q), (3, .int r)]) (st' := []) (h' := zN sg) (x := r) (y := p) (Ps := []) rfl trivial (fun c5 => ?_) (fun c5 => ?_)
  · skip
    refine zG_run bkShe_lettersMove_28 (lv' := [(0, .ref 1), (1, .int p), (2, .int q), (3, .int r)]) (st' := [.int r, .int q, .int p, .ref 2]) (h' := zN sg) (Ps := [zOb (zN sg) 1 5 ∧ (zN sg).2.2 1 0 = true]) rfl (zA ⟨zob_1, rfl⟩ trivial) ?_
    refine zG_calls (As := [.ref 2, .int p, .int q, .int r]) (rest := []) (N2 := 411) bdShe_lettersMove_35 okShe_changeSides lk5_115 (And.intro (by decide) (by decide)) rfl rfl (Nat.le_of_ble_eq_true rfl) (Nat.le_of_ble_eq_true rfl) (Nat.le_refl 411) (Nat.le_refl 411) (cShe_changeSides_2 (lo := p) (mi := q) (hi := r) (by lia) (by lia) (by lia) (by lia)) ?_
    rintro rr h' ⟨sg7, rfl, rfl, fy6, ty6⟩ -
    refine zG_run bkShe_lettersMove_38 (lv' := [(0, .ref 1), (1, .int p), (2, .int q), (3, .int r)]) (st' := [.int r, .int q, .int p, .ref 3]) (h' := zN sg7) (Ps := [zOb (zN sg7) 1 5 ∧ (zN sg7).2.2 1 1 = true]) rfl (zA ⟨zob_1, rfl⟩ trivial) ?_
    refine zG_calls (As := [.ref 3, .int p, .int q, .int r]) (rest := []) (N2 := 411) bdShe_lettersMove_45 okShe_changeSides lk5_115 (And.intro (by decide) (by decide)) rfl rfl (Nat.le_of_ble_eq_true rfl) (Nat.le_of_ble_eq_true rfl) (Nat.le_refl 411) (Nat.le_refl 411) (cShe_changeSides_3 (lo := p) (mi := q) (hi := r) (by lia) (by lia) (by lia) (by lia)) ?_
    rintro rr h' ⟨sg10, rfl, rfl, fy9, ty9⟩ -
    refine K _ ?_ ?_ ?_ ?_
    · intro c j hc; rw [fy9 c j (by omega), fy6 c j (by omega)]
    · intro c j h2 h3; rw [fy9 c j h3, fy6 c j h2]
    · intro j h5 h6; rw [fy9 2 j (by decide), ty6 j]; exact lMv_of2 p0 p1 (by lia) (by lia) h5 (by lia)
    · intro j h5 h6; rw [ty9 j, fy6 3 _ (by decide), fy6 3 _ (by decide), fy6 3 _ (by decide)]; exact lMv_of2 p0 p1 (by lia) (by lia) h5 (by lia)
  · skip
    refine zG_run bkShe_lettersMove_5 (lv' := [(0, .ref 1), (1, .int p), (2, .int q), (3, .int r)]) (st' := [.int q, .int p, .int r, .ref 2]) (h' := zN sg) (Ps := [zOb (zN sg) 1 5 ∧ (zN sg).2.2 1 0 = true]) rfl (zA ⟨zob_1, rfl⟩ trivial) ?_
    refine zG_calls (As := [.ref 2, .int r, .int p, .int q]) (rest := []) (N2 := 411) bdShe_lettersMove_12 okShe_changeSides lk5_115 (And.intro (by decide) (by decide)) rfl rfl (Nat.le_of_ble_eq_true rfl) (Nat.le_of_ble_eq_true rfl) (Nat.le_refl 411) (Nat.le_refl 411) (cShe_changeSides_2 (lo := r) (mi := p) (hi := q) (by lia) (by lia) (by lia) (by lia)) ?_
    rintro rr h' ⟨sg13, rfl, rfl, fy12, ty12⟩ -
    refine zG_run bkShe_lettersMove_15 (lv' := [(0, .ref 1), (1, .int p), (2, .int q), (3, .int r)]) (st' := [.int q, .int p, .int r, .ref 3]) (h' := zN sg13) (Ps := [zOb (zN sg13) 1 5 ∧ (zN sg13).2.2 1 1 = true]) rfl (zA ⟨zob_1, rfl⟩ trivial) ?_
    refine zG_calls (As := [.ref 3, .int r, .int p, .int q]) (rest := []) (N2 := 411) bdShe_lettersMove_22 okShe_changeSides lk5_115 (And.intro (by decide) (by decide)) rfl rfl (Nat.le_of_ble_eq_true rfl) (Nat.le_of_ble_eq_true rfl) (Nat.le_refl 411) (Nat.le_refl 411) (cShe_changeSides_3 (lo := r) (mi := p) (hi := q) (by lia) (by lia) (by lia) (by lia)) ?_
    rintro rr h' ⟨sg16, rfl, rfl, fy15, ty15⟩ -
    refine zG_run bkShe_lettersMove_25 (lv' := [(0, .ref 1), (1, .int p), (2, .int q), (3, .int r)]) (st' := []) (h' := zN sg16) (Ps := []) rfl trivial ?_
    refine K _ ?_ ?_ ?_ ?_
    · intro c j hc; rw [fy15 c j (by omega), fy12 c j (by omega)]
    · intro c j h2 h3; rw [fy15 c j h3, fy12 c j h2]
    · intro j h5 h6; rw [fy15 2 j (by decide), ty12 j]; exact lMv_of1 p1 (by lia) r0 (by lia) h5 (by lia)
    · intro j h5 h6; rw [ty15 j, fy12 3 _ (by decide), fy12 3 _ (by decide), fy12 3 _ (by decide)]; exact lMv_of1 p1 (by lia) r0 (by lia) h5 (by lia)
theorem cShe_lettersMove {sg : zSig} {p q r : Int32} (n0 : 0 ≤ sg 1 2) (n1 : sg 1 2 ≤ 200) (g0 : 0 ≤ sg 1 4) (g1 : sg 1 4 ≤ 16) (a0 : 0 ≤ sg 1 6) (a1 : sg 1 6 ≤ 12) (p0 : 0 ≤ p) (p1 : p < q) (q1 : q ≤ sg 1 2) (r0 : 0 ≤ r) (r1 : r ≤ sg 1 2) (r2 : r < p ∨ q < r) : zG mShe_lettersMove 411 (fun rr h' => ∃ v sg', rr = some (.int v) ∧ h' = zN sg' ∧ v = zit (nMv sg p q) 0 (sg 1 4) ∧ hShF sg sg' (fun s x => hSpMs s x p q r) (fun s x => hAnM s x p q r) ∧ sg' 1 2 = sg 1 2 ∧ (∀ j, 0 ≤ j → j < sg 1 2 → sg' 2 j = lMv (sg 2) p q (pLd p q r) j) ∧ ∀ j, 0 ≤ j → j < sg 1 2 → sg' 3 j = lMv (sg 3) p q (pLd p q r) j) 0 [(0, .ref 1), (1, .int p), (2, .int q), (3, .int r)] [] (zN sg) := lShe_lettersMove n0 n1 g0 g1 a0 a1 p0 p1 q1 r0 r1 r2 (fun _ _ q => q)
theorem bkShe_startAnew_0 : zBk mShe_startAnew 0 [(1, 0, 1, 0, 0), (1, 1, 1, 0, 0), (5, 4, 2, 0, 2), (6, 5, 2, 0, 2)] = some 8 := by decide +kernel
theorem bkShe_startAnew_8 : zBk mShe_startAnew 8 [(1, 1, 1, 0, 0), (5, 4, 0, 1, 0), (0, 0, 0, 0, 0), (1, 0, 1, 0, 0), (5, 5, 0, 1, 0), (0, 0, 0, 0, 0), (1, 0, 1, 0, 0), (5, 5, 2, 0, 2)] = some 22 := by decide +kernel
theorem bkShe_startAnew_25 : zBk mShe_startAnew 25 [(1, 1, 1, 0, 0), (5, 4, 1, 2, 1), (0, 0, 0, 0, 0), (1, 0, 1, 0, 0), (5, 5, 1, 2, 1), (0, 0, 0, 0, 0), (1, 0, 1, 0, 0), (5, 5, 2, 0, 2)] = some 39 := by decide +kernel
theorem bkShe_startAnew_42 : zBk mShe_startAnew 42 [(1, 0, 1, 0, 0), (0, 0, 0, 0, 0), (6, 5, 4, 0, 4), (1, 0, 1, 0, 0), (0, 0, 0, 0, 0), (6, 5, 6, 0, 6)] = some 52 := by decide +kernel
theorem bdShe_startAnew_22 : decode mShe_startAnew.2.2.1 22 = .ok (.invokestatic 42, 3) := by decide +kernel
theorem bdShe_startAnew_39 : decode mShe_startAnew.2.2.1 39 = .ok (.invokestatic 42, 3) := by decide +kernel
theorem bdShe_startAnew_52 : decode mShe_startAnew.2.2.1 52 = .ok (.return_, 1) := by decide +kernel
theorem cShe_startAnew {sg : zSig}  (n0 : 0 ≤ sg 317 2) (n1 : sg 317 2 ≤ 200) : zG mShe_startAnew 411 (fun rr h' => ∃ sg', rr = none ∧ h' = zN sg' ∧ (∀ c j, c ≠ 1 → c ≠ 2 → c ≠ 3 → sg' c j = sg c j) ∧ sg' 1 2 = sg 317 2 ∧ sg' 1 4 = 0 ∧ sg' 1 6 = 0 ∧ (∀ j, 0 ≤ j → j < sg 317 2 → sg' 2 j = sg 318 j) ∧ ∀ j, 0 ≤ j → j < sg 317 2 → sg' 3 j = sg 319 j) 0 [(0, .ref 1), (1, .ref 317)] [] (zN sg) := by
  refine zG_run bkShe_startAnew_0 (lv' := [(0, .ref 1), (1, .ref 317)]) (st' := []) (h' := zN (zup sg 1 2 (sg 317 2))) (Ps := [zOb (zN sg) 317 4, zOb (zN sg) 1 5]) rfl (zA zob_317 (zA zob_1 trivial)) ?_
  refine zG_nm (sg := zup sg 1 2 (sg 317 2)) (fun sg1 e1 => ?_)
  have f1 : ∀ c j, c ≠ 1 → sg1 c j = sg c j := fun c j h => by rw [e1]; exact zup_a h
  have s1 : sg1 1 2 = sg 317 2 := by rw [e1]; exact zup_s
  refine zG_run bkShe_startAnew_8 (lv' := [(0, .ref 1), (1, .ref 317)]) (st' := [.int (sg1 1 2), .int 0, .ref 2, .int 0, .ref 318]) (h' := zN sg1) (Ps := [zOb (zN sg1) 317 4 ∧ (zN sg1).2.2 317 0 = true, zOb (zN sg1) 1 5 ∧ (zN sg1).2.2 1 0 = true, zOb (zN sg1) 1 5]) rfl (zA ⟨zob_317, rfl⟩ (zA ⟨zob_1, rfl⟩ (zA zob_1 trivial))) ?_
  refine zs_acopy bdShe_startAnew_22 lk5_42 (And.intro (by decide) (by decide)) (Nat.le_of_ble_eq_true rfl) (zcp_318_2 (sp := 0) (dp := 0) (n := sg1 1 2) (by lia) (by lia) (by lia) (by lia) (by lia) (by lia) (by lia)) ?_
  refine zG_nm (sg := zcp sg1 318 2 0 0 (sg1 1 2)) (fun sg2 e2 => ?_)
  have f2 : ∀ c j, c ≠ 1 → c ≠ 2 → sg2 c j = sg c j := fun c j h h2 => by rw [e2, zcp_e, if_neg (fun q => h2 q.1)]; exact f1 c j h
  have s2 : sg2 1 2 = sg 317 2 := by rw [e2, zcp_e, if_neg (fun q => absurd q.1 (by decide))]; exact s1
  have l2 : ∀ j, 0 ≤ j → j < sg 317 2 → sg2 2 j = sg 318 j := fun j h1 h2 => by rw [e2, zcp_e, if_pos ⟨rfl, h1, by rw [s1]; lia⟩, f1 _ _ (by decide)]; congr 1; grind
  refine zG_run bkShe_startAnew_25 (lv' := [(0, .ref 1), (1, .ref 317)]) (st' := [.int (sg2 1 2), .int 0, .ref 3, .int 0, .ref 319]) (h' := zN sg2) (Ps := [zOb (zN sg2) 317 4 ∧ (zN sg2).2.2 317 1 = true, zOb (zN sg2) 1 5 ∧ (zN sg2).2.2 1 1 = true, zOb (zN sg2) 1 5]) rfl (zA ⟨zob_317, rfl⟩ (zA ⟨zob_1, rfl⟩ (zA zob_1 trivial))) ?_
  refine zs_acopy bdShe_startAnew_39 lk5_42 (And.intro (by decide) (by decide)) (Nat.le_of_ble_eq_true rfl) (zcp_319_3 (sp := 0) (dp := 0) (n := sg2 1 2) (by lia) (by lia) (by lia) (by lia) (by lia) (by lia) (by lia)) ?_
  refine zG_nm (sg := zcp sg2 319 3 0 0 (sg2 1 2)) (fun sg3 e3 => ?_)
  have f3 : ∀ c j, c ≠ 1 → c ≠ 2 → c ≠ 3 → sg3 c j = sg c j := fun c j h h2 h3 => by rw [e3, zcp_e, if_neg (fun q => h3 q.1)]; exact f2 c j h h2
  have s3 : sg3 1 2 = sg 317 2 := by rw [e3, zcp_e, if_neg (fun q => absurd q.1 (by decide))]; exact s2
  have l3 : ∀ j, 0 ≤ j → j < sg 317 2 → sg3 2 j = sg 318 j := fun j h1 h2 => by rw [e3, zcp_e, if_neg (fun q => absurd q.1 (by decide))]; exact l2 j h1 h2
  have p3 : ∀ j, 0 ≤ j → j < sg 317 2 → sg3 3 j = sg 319 j := fun j h1 h2 => by rw [e3, zcp_e, if_pos ⟨rfl, h1, by rw [s2]; lia⟩, f2 _ _ (by decide) (by decide)]; congr 1; grind
  refine zb_vret bkShe_startAnew_42 bdShe_startAnew_52 rfl (h' := zN (zup (zup sg3 1 4 0) 1 6 0)) (Ps := [zOb (zN sg3) 1 5, zOb (zN (zup sg3 1 4 0)) 1 5]) rfl (zA zob_1 (zA zob_1 trivial)) rfl ?_
  refine ⟨_, rfl, rfl, fun c j h1 h2 h3 => ?_, ?_, ?_, ?_, fun j h1 h2 => ?_, fun j h1 h2 => ?_⟩
  · rw [zup_a h1, zup_a h1]; exact f3 c j h1 h2 h3
  · rw [zup_i (by decide), zup_i (by decide)]; exact s3
  · rw [zup_i (by decide), zup_s]
  · exact zup_s
  · rw [zup_a (by decide), zup_a (by decide)]; exact l3 j h1 h2
  · rw [zup_a (by decide), zup_a (by decide)]; exact p3 j h1 h2
def nOv (sg : zSig) (i k a : Int32) : Int32 := if sg (zel 4 k) 0 ≠ 0 ∧ sg (zel 4 k) 1 ≤ i ∧ i < sg (zel 4 k) 2 then a + 1 else a
def nMo (sg : zSig) (i a : Int32) : Int32 := fMax a (zit (nOv sg i) 0 (sg 1 4))
theorem bkShe_mostSpansOverLetter_0 : zBk mShe_mostSpansOverLetter 0 [(0, 0, 0, 0, 0), (2, 1, 0, 0, 0), (0, 0, 0, 0, 0), (2, 2, 0, 0, 0)] = some 4 := by decide +kernel
theorem bkShe_mostSpansOverLetter_4 : zBk mShe_mostSpansOverLetter 4 [(1, 2, 0, 0, 0), (1, 0, 1, 0, 0), (5, 5, 2, 0, 2)] = some 9 := by decide +kernel
theorem bkShe_mostSpansOverLetter_61 : zBk mShe_mostSpansOverLetter 61 [(1, 1, 0, 0, 0)] = some 62 := by decide +kernel
theorem bkShe_mostSpansOverLetter_12 : zBk mShe_mostSpansOverLetter 12 [(0, 0, 0, 0, 0), (2, 3, 0, 0, 0), (0, 0, 0, 0, 0), (2, 4, 0, 0, 0)] = some 17 := by decide +kernel
theorem bkShe_mostSpansOverLetter_17 : zBk mShe_mostSpansOverLetter 17 [(1, 4, 0, 0, 0), (1, 0, 1, 0, 0), (5, 5, 4, 0, 4)] = some 23 := by decide +kernel
theorem bkShe_mostSpansOverLetter_49 : zBk mShe_mostSpansOverLetter 49 [(1, 1, 0, 0, 0), (1, 3, 0, 0, 0)] = some 51 := by decide +kernel
theorem bkShe_mostSpansOverLetter_54 : zBk mShe_mostSpansOverLetter 54 [(2, 1, 0, 0, 0), (3, 2, 0, 0, 1), (22, 4, 0, 0, 0)] = some 4 := by decide +kernel
theorem bkShe_mostSpansOverLetter_26 : zBk mShe_mostSpansOverLetter 26 [(1, 0, 1, 0, 0), (5, 5, 3, 3, 3), (1, 4, 0, 0, 0), (9, 0, 0, 0, 0), (1, 2, 0, 0, 0)] = some 34 := by decide +kernel
theorem bkShe_mostSpansOverLetter_37 : zBk mShe_mostSpansOverLetter 37 [] = some 37 := by decide +kernel
theorem bkShe_mostSpansOverLetter_43 : zBk mShe_mostSpansOverLetter 43 [(3, 4, 0, 0, 1), (22, 17, 0, 0, 0)] = some 17 := by decide +kernel
theorem bkShe_mostSpansOverLetter_40 : zBk mShe_mostSpansOverLetter 40 [(3, 3, 0, 0, 1), (3, 4, 0, 0, 1), (22, 17, 0, 0, 0)] = some 17 := by decide +kernel
theorem bdShe_mostSpansOverLetter_9 : decode mShe_mostSpansOverLetter.2.2.1 9 = .ok (.if_icmp .ge 52, 3) := by decide +kernel
theorem bdShe_mostSpansOverLetter_23 : decode mShe_mostSpansOverLetter.2.2.1 23 = .ok (.if_icmp .ge 26, 3) := by decide +kernel
theorem bdShe_mostSpansOverLetter_34 : decode mShe_mostSpansOverLetter.2.2.1 34 = .ok (.invokevirtual 68, 3) := by decide +kernel
theorem bdShe_mostSpansOverLetter_37 : decode mShe_mostSpansOverLetter.2.2.1 37 = .ok (.ifCond .eq 6, 3) := by decide +kernel
theorem bdShe_mostSpansOverLetter_51 : decode mShe_mostSpansOverLetter.2.2.1 51 = .ok (.invokestatic 72, 3) := by decide +kernel
theorem bdShe_mostSpansOverLetter_62 : decode mShe_mostSpansOverLetter.2.2.1 62 = .ok (.ireturn, 1) := by decide +kernel
theorem lShe_mostSpansOverLetter {sg : zSig}  (n0 : 0 ≤ sg 1 2) (n1 : sg 1 2 ≤ 200) (g0 : 0 ≤ sg 1 4) (g1 : sg 1 4 ≤ 16) {Q : Option Value → zHp → Prop} (hq : ∀ rr h', (rr = some (.int (zit (nMo sg) 0 (sg 1 2))) ∧ h' = zN sg) → Q rr h') : zG mShe_mostSpansOverLetter 411 Q 0 [(0, .ref 1)] [] (zN sg) := by
  refine zG_run bkShe_mostSpansOverLetter_0 (lv' := [(2, .int 0), (1, .int 0), (0, .ref 1)]) (st' := []) (h' := zN sg) (Ps := []) rfl trivial ?_
  refine zG_pick (lv' := [(0, .ref 1), (1, .int 0), (2, .int 0)]) [2, 1, 0] rfl ?_
  refine zlp2 (fun (n : Int32) (i : Int32) => zG mShe_mostSpansOverLetter 411 Q 4 [(0, .ref 1), (1, .int n), (2, .int i)] [] (zN sg)) (fun (n : Int32) (i : Int32) => (0 ≤ i) ∧ (i ≤ sg 1 2) ∧ (n = zit (nMo sg) 0 i)) (fun (n : Int32) (i : Int32) => zmu (sg 1 2) i) ?_ 0 0 ?_
  · intro n i ho iho
    obtain ⟨i0, i1, io⟩ := ho
    refine zb_icge (tgt := 61) bkShe_mostSpansOverLetter_4 bdShe_mostSpansOverLetter_9 (by decide) (lv' := [(0, .ref 1), (1, .int n), (2, .int i)]) (st' := []) (h' := zN sg) (x := i) (y := sg 1 2) (Ps := [zOb (zN sg) 1 5]) rfl (zA zob_1 trivial) (fun c1 => ?_) (fun c1 => ?_)
    · skip
      refine zb_iret bkShe_mostSpansOverLetter_61 bdShe_mostSpansOverLetter_62 rfl (x := n) (h' := zN sg) (Ps := []) rfl trivial rfl ?_
      refine hq _ _ ?_
      rw [io, show i = sg 1 2 by lia]; exact ⟨rfl, rfl⟩
    · skip
      refine zG_run bkShe_mostSpansOverLetter_12 (lv' := [(4, .int 0), (3, .int 0), (0, .ref 1), (1, .int n), (2, .int i)]) (st' := []) (h' := zN sg) (Ps := []) rfl trivial ?_
      refine zG_pick (lv' := [(0, .ref 1), (1, .int n), (2, .int i), (3, .int 0), (4, .int 0)]) [2, 3, 4, 1, 0] rfl ?_
      refine zlp2 (fun (v : Int32) (k : Int32) => zG mShe_mostSpansOverLetter 411 Q 17 [(0, .ref 1), (1, .int n), (2, .int i), (3, .int v), (4, .int k)] [] (zN sg)) (fun (v : Int32) (k : Int32) => (0 ≤ k) ∧ (k ≤ sg 1 4) ∧ (v = zit (nOv sg i) 0 k)) (fun (v : Int32) (k : Int32) => zmu (sg 1 4) k) ?_ 0 0 ?_
      · intro v k hk ihk
        obtain ⟨k0, k1, kn⟩ := hk
        refine zb_icge (tgt := 49) bkShe_mostSpansOverLetter_17 bdShe_mostSpansOverLetter_23 (by decide) (lv' := [(0, .ref 1), (1, .int n), (2, .int i), (3, .int v), (4, .int k)]) (st' := []) (h' := zN sg) (x := k) (y := sg 1 4) (Ps := [zOb (zN sg) 1 5]) rfl (zA zob_1 trivial) (fun c2 => ?_) (fun c2 => ?_)
        · skip
          refine zG_run bkShe_mostSpansOverLetter_49 (lv' := [(0, .ref 1), (1, .int n), (2, .int i), (3, .int v), (4, .int k)]) (st' := [.int v, .int n]) (h' := zN sg) (Ps := []) rfl trivial ?_
          refine zG_calls (As := [.int n, .int v]) (rest := []) (N2 := 411) bdShe_mostSpansOverLetter_51 okMa_max lk5_72 (And.intro (by decide) (by decide)) rfl rfl (Nat.le_of_ble_eq_true rfl) (Nat.le_of_ble_eq_true rfl) (Nat.le_refl 411) (Nat.le_refl 411) cMa_max ?_
          rintro rr h' ⟨rfl, rfl⟩ -
          refine zG_run bkShe_mostSpansOverLetter_54 (lv' := [(2, .int (i + 1)), (1, .int (fMax n v)), (0, .ref 1), (3, .int v), (4, .int k)]) (st' := []) (h' := zN sg) (Ps := []) rfl trivial ?_
          refine zG_pick (lv' := [(0, .ref 1), (1, .int (fMax n v)), (2, .int (i + 1))]) [2, 1, 0] rfl ?_
          refine iho (fMax n v) (i + 1) ?_ ?_
          · refine ⟨?_, ?_, ?_⟩
            · lia
            · lia
            · rw [zit_s _ _ i0 (by lia : i < sg 1 2), ← io]; rw [kn, show k = sg 1 4 by lia]; rfl
          · exact zmu_up (by lia)
        · skip
          refine zG_run bkShe_mostSpansOverLetter_26 (lv' := [(0, .ref 1), (1, .int n), (2, .int i), (3, .int v), (4, .int k)]) (st' := [.int i, .ref (zel 4 k)]) (h' := zN sg) (Ps := [zOb (zN sg) 1 5 ∧ (zN sg).2.2 1 3 = true, zInR (zN sg) 4 k]) rfl (zA ⟨zob_1, rfl⟩ (zA (zinR_4 (i := k) (by lia) (by lia)) trivial)) ?_
          refine zG_callv (a := zel 4 k) (c := 6) (As := [.int i]) (rest := []) (N2 := 411) bdShe_mostSpansOverLetter_34 okSpa_liesOver lk5_68 (And.intro (by decide) (by decide)) (by decide) rfl rfl rfl (Nat.le_of_ble_eq_true rfl) (Nat.le_of_ble_eq_true rfl) (Nat.le_refl 411) (Nat.le_refl 411) (zel_ob4 (i := k) (by lia) (by lia)) (cSpa_liesOver (zel_ob4 (i := k) (by lia) (by lia))) ?_
          rintro rr h' ⟨rfl, rfl⟩ -
          refine zb_ifeq (tgt := 43) bkShe_mostSpansOverLetter_37 bdShe_mostSpansOverLetter_37 (by decide) (lv' := [(0, .ref 1), (1, .int n), (2, .int i), (3, .int v), (4, .int k)]) (st' := []) (h' := zN sg) (x := if sg (zel 4 k) 0 ≠ 0 ∧ sg (zel 4 k) 1 ≤ i ∧ i < sg (zel 4 k) 2 then 1 else 0) (Ps := []) rfl trivial (fun c3 => ?_) (fun c3 => ?_)
          · skip
            refine zG_run bkShe_mostSpansOverLetter_43 (lv' := [(4, .int (k + 1)), (0, .ref 1), (1, .int n), (2, .int i), (3, .int v)]) (st' := []) (h' := zN sg) (Ps := []) rfl trivial ?_
            refine zG_pick (lv' := [(0, .ref 1), (1, .int n), (2, .int i), (3, .int v), (4, .int (k + 1))]) [1, 2, 3, 4, 0] rfl ?_
            refine ihk v (k + 1) ?_ ?_
            · refine ⟨?_, ?_, ?_⟩
              · lia
              · lia
              · rw [zit_s _ _ k0 (by lia : k < sg 1 4)]; clear ihk iho hq; grind [nOv]
            · exact zmu_up (by lia)
          · skip
            refine zG_run bkShe_mostSpansOverLetter_40 (lv' := [(4, .int (k + 1)), (3, .int (v + 1)), (0, .ref 1), (1, .int n), (2, .int i)]) (st' := []) (h' := zN sg) (Ps := []) rfl trivial ?_
            refine zG_pick (lv' := [(0, .ref 1), (1, .int n), (2, .int i), (3, .int (v + 1)), (4, .int (k + 1))]) [2, 3, 4, 1, 0] rfl ?_
            refine ihk (v + 1) (k + 1) ?_ ?_
            · refine ⟨?_, ?_, ?_⟩
              · lia
              · lia
              · rw [zit_s _ _ k0 (by lia : k < sg 1 4)]; clear ihk iho hq; grind [nOv]
            · exact zmu_up (by lia)
      · refine ⟨?_, ?_, ?_⟩
        · lia
        · lia
        · rfl
  · refine ⟨?_, ?_, ?_⟩
    · lia
    · lia
    · rfl
theorem cShe_mostSpansOverLetter {sg : zSig}  (n0 : 0 ≤ sg 1 2) (n1 : sg 1 2 ≤ 200) (g0 : 0 ≤ sg 1 4) (g1 : sg 1 4 ≤ 16) : zG mShe_mostSpansOverLetter 411 (fun rr h' => rr = some (.int (zit (nMo sg) 0 (sg 1 2))) ∧ h' = zN sg) 0 [(0, .ref 1)] [] (zN sg) := lShe_mostSpansOverLetter n0 n1 g0 g1 (fun _ _ q => q)
end
section
/-! acts that are kept: printed by wip/whole/p22.py -/
def fFm (x y : Int32) : Int32 := if x ^^^ y < 0 ∧ x - x / y * y ≠ 0 then x - x / y * y + y else x - x / y * y
theorem fFm_8 {x : Int32} (h0 : -8 ≤ x) (h1 : x < 8) : fFm x 8 = if x < 0 then x + 8 else x := by
  have h : x = -8 ∨ x = -7 ∨ x = -6 ∨ x = -5 ∨ x = -4 ∨ x = -3 ∨ x = -2 ∨ x = -1 ∨ x = 0 ∨ x = 1 ∨ x = 2 ∨ x = 3 ∨ x = 4 ∨ x = 5 ∨ x = 6 ∨ x = 7 := by lia
  rcases h with rfl | rfl | rfl | rfl | rfl | rfl | rfl | rfl | rfl | rfl | rfl | rfl | rfl | rfl | rfl | rfl <;> decide
theorem zrem_8 {x : Int32} (h0 : 0 ≤ x) (h1 : x < 9) : x - x / 8 * 8 = if x = 8 then 0 else x := by
  have h : x = 0 ∨ x = 1 ∨ x = 2 ∨ x = 3 ∨ x = 4 ∨ x = 5 ∨ x = 6 ∨ x = 7 ∨ x = 8 := by lia
  rcases h with rfl | rfl | rfl | rfl | rfl | rfl | rfl | rfl | rfl <;> decide
/-- the ring's place of the n-th act from behind -/
def hL (sg : zSig) (n : Int32) : Int32 := if sg 36 2 - n < 0 then sg 36 2 - n + 8 else sg 36 2 - n
theorem zel37_s {i : Int32} (h0 : 0 ≤ i) (h1 : i < 8) : iSh (zel 37 i) := by
  obtain ⟨j, hj, rfl, he⟩ := zel_37 h0 h1
  rw [he]; exact iSh_h j hj
theorem zel37_rng {i : Int32} (h0 : 0 ≤ i) (h1 : i < 8) : 39 ≤ zel 37 i ∧ zel 37 i + 33 ≤ 311 ∧ zel 38 i = zel 37 i + 33 := by
  obtain ⟨j, hj, hi, he⟩ := zel_37 h0 h1
  obtain ⟨j', hj', hi', he'⟩ := zel_38 h0 h1
  have : j = j' := (nI_eq (by omega) (by omega)).mp (hi.symm.trans hi')
  subst this
  rw [he, he']; omega
theorem zel311_s {i : Int32} (h0 : 0 ≤ i) (h1 : i < 2) : iSh (zel 311 i) := by
  obtain ⟨j, hj, rfl, he⟩ := zel_311 h0 h1
  rw [he]; exact iSh_i j hj
theorem zel311_rng {i : Int32} (h0 : 0 ≤ i) (h1 : i < 2) : 327 ≤ zel 311 i ∧ zel 311 i + 33 ≤ 393 := by
  obtain ⟨j, hj, hi, he⟩ := zel_311 h0 h1
  rw [he]; omega
def fAct (sg : zSig) (a : Nat) (x l : Int32) : Int32 := if sg a 0 = 0 then pOn x l (sg a 1) (sg a 2) else if sg a 0 = 1 then pBk x (sg a 1) (sg a 2) else if sg a 0 = 2 then pMv x l (sg a 1) (sg a 2) (sg a 3) else if sg a 0 = 12 then pSw x l (sg a 1) (sg a 2) (sg a 3) else x
theorem bkMa_floorMod_0 : zBk mMa_floorMod 0 [(1, 0, 0, 0, 0), (1, 1, 0, 0, 0), (4, 10, 0, 0, 0), (2, 2, 0, 0, 0), (1, 0, 0, 0, 0), (1, 1, 0, 0, 0), (4, 5, 0, 0, 0)] = some 7 := by decide +kernel
theorem bkMa_floorMod_18 : zBk mMa_floorMod 18 [(1, 2, 0, 0, 0)] = some 19 := by decide +kernel
theorem bkMa_floorMod_10 : zBk mMa_floorMod 10 [(1, 2, 0, 0, 0)] = some 11 := by decide +kernel
theorem bkMa_floorMod_14 : zBk mMa_floorMod 14 [(1, 2, 0, 0, 0), (1, 1, 0, 0, 0), (4, 0, 0, 0, 0)] = some 17 := by decide +kernel
theorem bdMa_floorMod_7 : decode mMa_floorMod.2.2.1 7 = .ok (.ifCond .ge 11, 3) := by decide +kernel
theorem bdMa_floorMod_11 : decode mMa_floorMod.2.2.1 11 = .ok (.ifCond .eq 7, 3) := by decide +kernel
theorem bdMa_floorMod_17 : decode mMa_floorMod.2.2.1 17 = .ok (.ireturn, 1) := by decide +kernel
theorem bdMa_floorMod_19 : decode mMa_floorMod.2.2.1 19 = .ok (.ireturn, 1) := by decide +kernel
theorem cMa_floorMod {sg : zSig} {x y : Int32} (hy : ¬ y = 0) : zG mMa_floorMod 411 (fun rr h' => rr = some (.int (fFm x y)) ∧ h' = zN sg) 0 [(0, .int x), (1, .int y)] [] (zN sg) := by
  refine zb_ifge (tgt := 18) bkMa_floorMod_0 bdMa_floorMod_7 (by decide) (lv' := [(2, .int (x - x / y * y)), (0, .int x), (1, .int y)]) (st' := []) (h' := zN sg) (x := x ^^^ y) (Ps := [¬ (y : Int32) = 0]) rfl (zA hy trivial) (fun c1 => ?_) (fun c1 => ?_)
  · skip
    refine zb_iret bkMa_floorMod_18 bdMa_floorMod_19 rfl (x := x - x / y * y) (h' := zN sg) (Ps := []) rfl trivial rfl ?_
    exact ⟨by unfold fFm; first | rw [if_pos (by lia)] | rw [if_neg (by lia)], rfl⟩
  · skip
    refine zb_ifeq (tgt := 18) bkMa_floorMod_10 bdMa_floorMod_11 (by decide) (lv' := [(2, .int (x - x / y * y)), (0, .int x), (1, .int y)]) (st' := []) (h' := zN sg) (x := x - x / y * y) (Ps := []) rfl trivial (fun c2 => ?_) (fun c2 => ?_)
    · skip
      refine zb_iret bkMa_floorMod_18 bdMa_floorMod_19 rfl (x := x - x / y * y) (h' := zN sg) (Ps := []) rfl trivial rfl ?_
      exact ⟨by unfold fFm; first | rw [if_pos (by lia)] | rw [if_neg (by lia)], rfl⟩
    · skip
      refine zb_iret bkMa_floorMod_14 bdMa_floorMod_17 rfl (x := (x - x / y * y) + y) (h' := zN sg) (Ps := []) rfl trivial rfl ?_
      exact ⟨by unfold fFm; first | rw [if_pos (by lia)] | rw [if_neg (by lia)], rfl⟩
theorem bkHis_latest_0 : zBk mHis_latest 0 [(1, 0, 1, 0, 0), (5, 2, 2, 0, 2), (1, 1, 0, 0, 0), (4, 1, 0, 0, 0), (0, 0, 0, 0, 8)] = some 8 := by decide +kernel
theorem bkHis_latest_11 : zBk mHis_latest 11 [] = some 11 := by decide +kernel
theorem bdHis_latest_8 : decode mHis_latest.2.2.1 8 = .ok (.invokestatic 52, 3) := by decide +kernel
theorem bdHis_latest_11 : decode mHis_latest.2.2.1 11 = .ok (.ireturn, 1) := by decide +kernel
theorem cHis_latest {sg : zSig} {n : Int32} (h0 : 0 ≤ sg 36 2) (h1 : sg 36 2 < 8) (n0 : 0 ≤ n) (n1 : n ≤ 8) : zG mHis_latest 411 (fun rr h' => rr = some (.int (hL sg n)) ∧ h' = zN sg) 0 [(0, .ref 36), (1, .int n)] [] (zN sg) := by
  refine zG_run bkHis_latest_0 (lv' := [(0, .ref 36), (1, .int n)]) (st' := [.int 8, .int ((sg 36 2) - n)]) (h' := zN sg) (Ps := [zOb (zN sg) 36 2]) rfl (zA zob_36 trivial) ?_
  refine zG_calls (As := [.int ((sg 36 2) - n), .int 8]) (rest := []) (N2 := 411) bdHis_latest_8 okMa_floorMod lk2_52 (And.intro (by decide) (by decide)) rfl rfl (Nat.le_of_ble_eq_true rfl) (Nat.le_of_ble_eq_true rfl) (Nat.le_refl 411) (Nat.le_refl 411) (cMa_floorMod (by decide)) ?_
  rintro rr h' ⟨rfl, rfl⟩ -
  refine zb_iret bkHis_latest_11 bdHis_latest_11 rfl (x := fFm ((sg 36 2) - n) 8) (h' := zN sg) (Ps := []) rfl trivial rfl ?_
  exact ⟨by unfold hL; rw [fFm_8 (by lia) (by lia)], rfl⟩
theorem bkAct_follows_0 : zBk mAct_follows 0 [(1, 0, 1, 0, 0), (5, 0, 0, 0, 0)] = some 4 := by decide +kernel
theorem bkAct_follows_48 : zBk mAct_follows 48 [(1, 1, 0, 0, 0), (1, 2, 0, 0, 0), (1, 0, 1, 0, 0), (5, 0, 1, 0, 1), (1, 0, 1, 0, 0), (5, 0, 2, 0, 2)] = some 58 := by decide +kernel
theorem bkAct_follows_61 : zBk mAct_follows 61 [] = some 61 := by decide +kernel
theorem bkAct_follows_62 : zBk mAct_follows 62 [(1, 1, 0, 0, 0), (1, 0, 1, 0, 0), (5, 0, 1, 0, 1), (1, 0, 1, 0, 0), (5, 0, 2, 0, 2)] = some 71 := by decide +kernel
theorem bkAct_follows_74 : zBk mAct_follows 74 [] = some 74 := by decide +kernel
theorem bkAct_follows_75 : zBk mAct_follows 75 [(1, 1, 0, 0, 0), (1, 2, 0, 0, 0), (1, 0, 1, 0, 0), (5, 0, 1, 0, 1), (1, 0, 1, 0, 0), (5, 0, 2, 0, 2), (1, 0, 1, 0, 0), (5, 0, 3, 0, 3)] = some 89 := by decide +kernel
theorem bkAct_follows_92 : zBk mAct_follows 92 [] = some 92 := by decide +kernel
theorem bkAct_follows_93 : zBk mAct_follows 93 [(1, 1, 0, 0, 0), (1, 2, 0, 0, 0), (1, 0, 1, 0, 0), (5, 0, 1, 0, 1), (1, 0, 1, 0, 0), (5, 0, 2, 0, 2), (1, 0, 1, 0, 0), (5, 0, 3, 0, 3)] = some 107 := by decide +kernel
theorem bkAct_follows_110 : zBk mAct_follows 110 [] = some 110 := by decide +kernel
theorem bkAct_follows_111 : zBk mAct_follows 111 [(1, 1, 0, 0, 0)] = some 112 := by decide +kernel
theorem bdAct_follows_4 : decode mAct_follows.2.2.1 4 = .ok (.lookupswitch 107 #[(0, 44), (1, 58), (2, 71), (12, 89)], 44) := by decide +kernel
theorem bdAct_follows_58 : decode mAct_follows.2.2.1 58 = .ok (.invokestatic 24, 3) := by decide +kernel
theorem bdAct_follows_61 : decode mAct_follows.2.2.1 61 = .ok (.ireturn, 1) := by decide +kernel
theorem bdAct_follows_71 : decode mAct_follows.2.2.1 71 = .ok (.invokestatic 30, 3) := by decide +kernel
theorem bdAct_follows_74 : decode mAct_follows.2.2.1 74 = .ok (.ireturn, 1) := by decide +kernel
theorem bdAct_follows_89 : decode mAct_follows.2.2.1 89 = .ok (.invokestatic 34, 3) := by decide +kernel
theorem bdAct_follows_92 : decode mAct_follows.2.2.1 92 = .ok (.ireturn, 1) := by decide +kernel
theorem bdAct_follows_107 : decode mAct_follows.2.2.1 107 = .ok (.invokestatic 38, 3) := by decide +kernel
theorem bdAct_follows_110 : decode mAct_follows.2.2.1 110 = .ok (.ireturn, 1) := by decide +kernel
theorem bdAct_follows_112 : decode mAct_follows.2.2.1 112 = .ok (.ireturn, 1) := by decide +kernel
theorem cAct_follows {sg : zSig} {a : Nat} {x l : Int32} (ha : zOb (zN sg) a 0)  : zG mAct_follows 411 (fun rr h' => rr = some (.int (fAct sg a x l)) ∧ h' = zN sg) 0 [(0, .ref a), (1, .int x), (2, .int l)] [] (zN sg) := by
  refine zG_run bkAct_follows_0 (lv' := [(0, .ref a), (1, .int x), (2, .int l)]) (st' := [.int (sg a 0)]) (h' := zN sg) (Ps := [zOb (zN sg) a 0]) rfl (zA ha trivial) ?_
  by_cases w1 : sg a 0 = 0
  · refine zs_lookup (off := 44) (tgt := 48) bdAct_follows_4 (by decide) (by rw [w1]; decide) (by decide) ?_
    refine zG_run bkAct_follows_48 (lv' := [(0, .ref a), (1, .int x), (2, .int l)]) (st' := [.int (sg a 2), .int (sg a 1), .int l, .int x]) (h' := zN sg) (Ps := [zOb (zN sg) a 0, zOb (zN sg) a 0]) rfl (zA ha (zA ha trivial)) ?_
    refine zG_calls (As := [.int x, .int l, .int (sg a 1), .int (sg a 2)]) (rest := []) (N2 := 411) bdAct_follows_58 okPla_afterComing lk0_24 (And.intro (by decide) (by decide)) rfl rfl (Nat.le_of_ble_eq_true rfl) (Nat.le_of_ble_eq_true rfl) (Nat.le_refl 411) (Nat.le_refl 411) cPla_afterComing ?_
    rintro rr h' ⟨rfl, rfl⟩ -
    refine zb_iret bkAct_follows_61 bdAct_follows_61 rfl (x := pOn x l (sg a 1) (sg a 2)) (h' := zN sg) (Ps := []) rfl trivial rfl ?_
    exact ⟨by unfold fAct; simp [*], rfl⟩
  by_cases w2 : sg a 0 = 1
  · refine zs_lookup (off := 58) (tgt := 62) bdAct_follows_4 (by decide) (by rw [w2]; decide) (by decide) ?_
    refine zG_run bkAct_follows_62 (lv' := [(0, .ref a), (1, .int x), (2, .int l)]) (st' := [.int (sg a 2), .int (sg a 1), .int x]) (h' := zN sg) (Ps := [zOb (zN sg) a 0, zOb (zN sg) a 0]) rfl (zA ha (zA ha trivial)) ?_
    refine zG_calls (As := [.int x, .int (sg a 1), .int (sg a 2)]) (rest := []) (N2 := 411) bdAct_follows_71 okPla_afterGoing lk0_30 (And.intro (by decide) (by decide)) rfl rfl (Nat.le_of_ble_eq_true rfl) (Nat.le_of_ble_eq_true rfl) (Nat.le_refl 411) (Nat.le_refl 411) cPla_afterGoing ?_
    rintro rr h' ⟨rfl, rfl⟩ -
    refine zb_iret bkAct_follows_74 bdAct_follows_74 rfl (x := pBk x (sg a 1) (sg a 2)) (h' := zN sg) (Ps := []) rfl trivial rfl ?_
    exact ⟨by unfold fAct; simp [*], rfl⟩
  by_cases w3 : sg a 0 = 2
  · refine zs_lookup (off := 71) (tgt := 75) bdAct_follows_4 (by decide) (by rw [w3]; decide) (by decide) ?_
    refine zG_run bkAct_follows_75 (lv' := [(0, .ref a), (1, .int x), (2, .int l)]) (st' := [.int (sg a 3), .int (sg a 2), .int (sg a 1), .int l, .int x]) (h' := zN sg) (Ps := [zOb (zN sg) a 0, zOb (zN sg) a 0, zOb (zN sg) a 0]) rfl (zA ha (zA ha (zA ha trivial))) ?_
    refine zG_calls (As := [.int x, .int l, .int (sg a 1), .int (sg a 2), .int (sg a 3)]) (rest := []) (N2 := 411) bdAct_follows_89 okPla_afterMove lk0_34 (And.intro (by decide) (by decide)) rfl rfl (Nat.le_of_ble_eq_true rfl) (Nat.le_of_ble_eq_true rfl) (Nat.le_refl 411) (Nat.le_refl 411) cPla_afterMove ?_
    rintro rr h' ⟨rfl, rfl⟩ -
    refine zb_iret bkAct_follows_92 bdAct_follows_92 rfl (x := pMv x l (sg a 1) (sg a 2) (sg a 3)) (h' := zN sg) (Ps := []) rfl trivial rfl ?_
    exact ⟨by unfold fAct; simp [*], rfl⟩
  by_cases w4 : sg a 0 = 12
  · refine zs_lookup (off := 89) (tgt := 93) bdAct_follows_4 (by decide) (by rw [w4]; decide) (by decide) ?_
    refine zG_run bkAct_follows_93 (lv' := [(0, .ref a), (1, .int x), (2, .int l)]) (st' := [.int (sg a 3), .int (sg a 2), .int (sg a 1), .int l, .int x]) (h' := zN sg) (Ps := [zOb (zN sg) a 0, zOb (zN sg) a 0, zOb (zN sg) a 0]) rfl (zA ha (zA ha (zA ha trivial))) ?_
    refine zG_calls (As := [.int x, .int l, .int (sg a 1), .int (sg a 2), .int (sg a 3)]) (rest := []) (N2 := 411) bdAct_follows_107 okPla_afterSwap lk0_38 (And.intro (by decide) (by decide)) rfl rfl (Nat.le_of_ble_eq_true rfl) (Nat.le_of_ble_eq_true rfl) (Nat.le_refl 411) (Nat.le_refl 411) cPla_afterSwap ?_
    rintro rr h' ⟨rfl, rfl⟩ -
    refine zb_iret bkAct_follows_110 bdAct_follows_110 rfl (x := pSw x l (sg a 1) (sg a 2) (sg a 3)) (h' := zN sg) (Ps := []) rfl trivial rfl ?_
    exact ⟨by unfold fAct; simp [*], rfl⟩
  refine zs_lookup (off := 107) (tgt := 111) bdAct_follows_4 (by decide) (by show Op.lookupswitch.offset [(0, 44), (1, 58), (2, 71), (12, 89)] 107 _ = _; rw [lv_osw (k := 0) w1 (by decide), lv_osw (k := 1) w2 (by decide), lv_osw (k := 2) w3 (by decide), lv_osw (k := 12) w4 (by decide)]; rfl) (by decide) ?_
  refine zb_iret bkAct_follows_111 bdAct_follows_112 rfl (x := x) (h' := zN sg) (Ps := []) rfl trivial rfl ?_
  exact ⟨by unfold fAct; simp [*], rfl⟩
/-- sheet a's contents are what sheet b's were -/
def hSC (sg sg' : zSig) (a b : Nat) : Prop := sg' a 2 = sg b 2 ∧ (∀ j, 0 ≤ j → j < sg b 2 → sg' (a + 1) j = sg (b + 1) j ∧ sg' (a + 2) j = sg (b + 2) j) ∧ sg' a 4 = sg b 4 ∧ (∀ k f, 0 ≤ k → k < sg b 4 → 0 ≤ f → f ≤ 8 → sg' (zel (a + 3) k) f = sg (zel (b + 3) k) f) ∧ sg' a 6 = sg b 6 ∧ ∀ k f, 0 ≤ k → k < sg b 6 → 0 ≤ f → f ≤ 3 → sg' (zel (a + 4) k) f = sg (zel (b + 4) k) f
theorem hSC_move {sg sg1 sg2 : zSig} {a b : Nat} (ia : iSh a) (o1 : sg b 4 ≤ 16) (o2 : sg b 6 ≤ 12) (h : hSC sg sg1 a b) (he : ∀ c j, a ≤ c → c < a + 33 → sg2 c j = sg1 c j) : hSC sg sg2 a b := by
  obtain ⟨h1, h2, h3, h4, h5, h6⟩ := h
  refine ⟨by rw [he a 2 (by omega) (by omega)]; exact h1, fun j q1 q2 => ⟨by rw [he (a + 1) j (by omega) (by omega)]; exact (h2 j q1 q2).1, by rw [he (a + 2) j (by omega) (by omega)]; exact (h2 j q1 q2).2⟩, by rw [he a 4 (by omega) (by omega)]; exact h3, fun k f q1 q2 q3 q4 => ?_, by rw [he a 6 (by omega) (by omega)]; exact h5, fun k f q1 q2 q3 q4 => ?_⟩
  · have hz := sh_s_rng ia q1 (by lia : k < 16)
    rw [he _ f (by omega) (by omega)]; exact h4 k f q1 q2 q3 q4
  · have hz := sh_a_rng ia q1 (by lia : k < 12)
    rw [he _ f (by omega) (by omega)]; exact h6 k f q1 q2 q3 q4
theorem hSC_from {sg0 sg sg1 : zSig} {a b : Nat} (ib : iSh b) (o1 : sg b 4 ≤ 16) (o2 : sg b 6 ≤ 12) (h : hSC sg sg1 a b) (he : ∀ c j, b ≤ c → c < b + 33 → sg c j = sg0 c j) : hSC sg0 sg1 a b := by
  obtain ⟨h1, h2, h3, h4, h5, h6⟩ := h
  refine ⟨by rw [← he b 2 (by omega) (by omega)]; exact h1, fun j q1 q2 => ?_, by rw [← he b 4 (by omega) (by omega)]; exact h3, fun k f q1 q2 q3 q4 => ?_, by rw [← he b 6 (by omega) (by omega)]; exact h5, fun k f q1 q2 q3 q4 => ?_⟩
  · rw [← he b 2 (by omega) (by omega)] at q2
    rw [← he (b + 1) j (by omega) (by omega), ← he (b + 2) j (by omega) (by omega)]; exact h2 j q1 q2
  · rw [← he b 4 (by omega) (by omega)] at q2
    have hz := sh_s_rng ib q1 (by lia : k < 16)
    rw [← he _ f (by omega) (by omega)]; exact h4 k f q1 q2 q3 q4
  · rw [← he b 6 (by omega) (by omega)] at q2
    have hz := sh_a_rng ib q1 (by lia : k < 12)
    rw [← he _ f (by omega) (by omega)]; exact h6 k f q1 q2 q3 q4
def hKeep (sg sg' : zSig) (k x y z : Int32) : Prop := (∀ c j, (c < zel 37 (sg 36 2) ∨ zel 37 (sg 36 2) + 34 ≤ c) → c ≠ 36 → sg' c j = sg c j) ∧ hSC sg sg' (zel 37 (sg 36 2)) 1 ∧ (sg' (zel 38 (sg 36 2)) 0 = k ∧ sg' (zel 38 (sg 36 2)) 1 = x ∧ sg' (zel 38 (sg 36 2)) 2 = y ∧ sg' (zel 38 (sg 36 2)) 3 = z) ∧ sg' 36 2 = (if sg 36 2 = 7 then 0 else sg 36 2 + 1) ∧ sg' 36 3 = fMin (sg 36 3 + 1) 8
theorem bkHis_keep_0 : zBk mHis_keep 0 [(1, 0, 1, 0, 0), (5, 2, 0, 1, 0), (1, 0, 1, 0, 0), (5, 2, 2, 0, 2), (9, 0, 0, 0, 0), (1, 1, 1, 0, 0)] = some 10 := by decide +kernel
theorem bkHis_keep_13 : zBk mHis_keep 13 [(1, 0, 1, 0, 0), (5, 2, 1, 2, 1), (1, 0, 1, 0, 0), (5, 2, 2, 0, 2), (9, 0, 0, 0, 0), (1, 2, 0, 0, 0), (1, 3, 0, 0, 0), (1, 4, 0, 0, 0), (1, 5, 0, 0, 0)] = some 28 := by decide +kernel
theorem bkHis_keep_31 : zBk mHis_keep 31 [(1, 0, 1, 0, 0), (1, 0, 1, 0, 0), (5, 2, 2, 0, 2), (0, 0, 0, 0, 1), (4, 0, 0, 0, 0), (0, 0, 0, 0, 8), (4, 10, 0, 0, 0), (6, 2, 2, 0, 2), (1, 0, 1, 0, 0), (1, 0, 1, 0, 0), (5, 2, 3, 0, 3), (0, 0, 0, 0, 1), (4, 0, 0, 0, 0), (0, 0, 0, 0, 8)] = some 53 := by decide +kernel
theorem bkHis_keep_56 : zBk mHis_keep 56 [(6, 2, 3, 0, 3)] = some 59 := by decide +kernel
theorem bdHis_keep_10 : decode mHis_keep.2.2.1 10 = .ok (.invokevirtual 32, 3) := by decide +kernel
theorem bdHis_keep_28 : decode mHis_keep.2.2.1 28 = .ok (.invokevirtual 36, 3) := by decide +kernel
theorem bdHis_keep_53 : decode mHis_keep.2.2.1 53 = .ok (.invokestatic 39, 3) := by decide +kernel
theorem bdHis_keep_59 : decode mHis_keep.2.2.1 59 = .ok (.return_, 1) := by decide +kernel
theorem cHis_keep {sg : zSig} {k x y z : Int32} (ob : okS sg 1) (h0 : 0 ≤ sg 36 2) (h1 : sg 36 2 < 8) (c0 : 0 ≤ sg 36 3) (c1 : sg 36 3 ≤ 8) : zG mHis_keep 411 (fun rr h' => ∃ sg', rr = none ∧ h' = zN sg' ∧ hKeep sg sg' k x y z) 0 [(0, .ref 36), (1, .ref 1), (2, .int k), (3, .int x), (4, .int y), (5, .int z)] [] (zN sg) := by
  have hr := zel37_rng h0 h1
  refine zG_run bkHis_keep_0 (lv' := [(0, .ref 36), (1, .ref 1), (2, .int k), (3, .int x), (4, .int y), (5, .int z)]) (st' := [.ref 1, .ref (zel 37 (sg 36 2))]) (h' := zN sg) (Ps := [zOb (zN sg) 36 2 ∧ (zN sg).2.2 36 0 = true, zOb (zN sg) 36 2, zInR (zN sg) 37 (sg 36 2)]) rfl (zA ⟨zob_36, rfl⟩ (zA zob_36 (zA (zinR_37 (i := sg 36 2) (by lia) (by lia)) trivial))) ?_
  refine zG_callv (a := zel 37 (sg 36 2)) (c := 5) (As := [.ref 1]) (rest := []) (N2 := 411) bdHis_keep_10 okShe_become lk2_32 (And.intro (by decide) (by decide)) (by decide) rfl rfl rfl (Nat.le_of_ble_eq_true rfl) (Nat.le_of_ble_eq_true rfl) (Nat.le_refl 411) (Nat.le_refl 411) (zel_ob37 h0 h1) (cShe_become (zel37_s h0 h1) iSh_1 (by omega) ob) ?_
  rintro rr h' ⟨sg1, rfl, rfl, hb⟩ -
  have e2 : sg1 36 2 = sg 36 2 := hb.1 36 2 (by omega)
  have e3 : sg1 36 3 = sg 36 3 := hb.1 36 3 (by omega)
  refine zG_run bkHis_keep_13 (lv' := [(0, .ref 36), (1, .ref 1), (2, .int k), (3, .int x), (4, .int y), (5, .int z)]) (st' := [.int z, .int y, .int x, .int k, .ref (zel 38 (sg1 36 2))]) (h' := zN sg1) (Ps := [zOb (zN sg1) 36 2 ∧ (zN sg1).2.2 36 1 = true, zOb (zN sg1) 36 2, zInR (zN sg1) 38 (sg1 36 2)]) rfl (zA ⟨zob_36, rfl⟩ (zA zob_36 (zA (zinR_38 (i := sg1 36 2) (by lia) (by lia)) trivial))) ?_
  refine zG_callv (a := zel 38 (sg1 36 2)) (c := 0) (As := [.int k, .int x, .int y, .int z]) (rest := []) (N2 := 411) bdHis_keep_28 okAct_become lk2_36 (And.intro (by decide) (by decide)) (by decide) rfl rfl rfl (Nat.le_of_ble_eq_true rfl) (Nat.le_of_ble_eq_true rfl) (Nat.le_refl 411) (Nat.le_refl 411) (zel_ob38 (i := (sg1 36 2)) (by lia) (by lia)) (cAct_become (zel_ob38 (i := (sg1 36 2)) (by lia) (by lia))) ?_
  rintro rr h' ⟨rfl, rfl⟩ -
  refine zG_nm (sg := hAcB sg1 (zel 38 (sg1 36 2)) k x y z) (fun sg2 q2 => ?_)
  refine zG_run bkHis_keep_31 (lv' := [(0, .ref 36), (1, .ref 1), (2, .int k), (3, .int x), (4, .int y), (5, .int z)]) (st' := [.int 8, .int (((zup sg2 36 2 (((sg2 36 2) + 1) - ((sg2 36 2) + 1) / 8 * 8)) 36 3) + 1), .ref 36]) (h' := zN (zup sg2 36 2 (((sg2 36 2) + 1) - ((sg2 36 2) + 1) / 8 * 8))) (Ps := [zOb (zN sg2) 36 2, ¬ (8 : Int32) = 0, zOb (zN sg2) 36 2, zOb (zN (zup sg2 36 2 (((sg2 36 2) + 1) - ((sg2 36 2) + 1) / 8 * 8))) 36 2]) rfl (zA zob_36 (zA (by decide) (zA zob_36 (zA zob_36 trivial)))) ?_
  refine zG_calls (As := [.int (((zup sg2 36 2 (((sg2 36 2) + 1) - ((sg2 36 2) + 1) / 8 * 8)) 36 3) + 1), .int 8]) (rest := [.ref 36]) (N2 := 411) bdHis_keep_53 okMa_min lk2_39 (And.intro (by decide) (by decide)) rfl rfl (Nat.le_of_ble_eq_true rfl) (Nat.le_of_ble_eq_true rfl) (Nat.le_refl 411) (Nat.le_refl 411) cMa_min ?_
  rintro rr h' ⟨rfl, rfl⟩ -
  refine zb_vret bkHis_keep_56 bdHis_keep_59 rfl (h' := zN (zup (zup sg2 36 2 (((sg2 36 2) + 1) - ((sg2 36 2) + 1) / 8 * 8)) 36 3 (fMin (((zup sg2 36 2 (((sg2 36 2) + 1) - ((sg2 36 2) + 1) / 8 * 8)) 36 3) + 1) 8))) (Ps := [zOb (zN (zup sg2 36 2 (((sg2 36 2) + 1) - ((sg2 36 2) + 1) / 8 * 8))) 36 2]) rfl (zA zob_36 trivial) rfl ?_
  have ez : zel 38 (sg1 36 2) = zel 37 (sg 36 2) + 33 := by rw [e2]; exact hr.2.2
  have f2 : ∀ c j, c ≠ zel 37 (sg 36 2) + 33 → sg2 c j = sg1 c j := fun c j hc => by rw [q2]; simp only [hAcB, zup_e, ez]; simp [hc]
  have v2 : sg2 36 2 = sg 36 2 := by rw [f2 36 2 (by omega)]; exact e2
  have v3 : sg2 36 3 = sg 36 3 := by rw [f2 36 3 (by omega)]; exact e3
  refine ⟨_, rfl, rfl, fun c j hc h36 => ?_, hSC_move (zel37_s h0 h1) ob.2.1.2 ob.2.2.1.2 hb.2 (fun c j g1 g2 => ?_), ?_, ?_, ?_⟩
  · rw [zup_a h36, zup_a h36, f2 c j (by omega)]; exact hb.1 c j (by omega)
  · rw [zup_a (by omega), zup_a (by omega)]; exact f2 c j (by omega)
  · rw [hr.2.2, zup_a (by omega), zup_a (by omega), zup_a (by omega), zup_a (by omega), zup_a (by omega), zup_a (by omega), zup_a (by omega), zup_a (by omega), q2]; simp [hAcB, zup_e, ez]
  · rw [zup_i (by decide), zup_s, v2, zrem_8 (by lia) (by lia)]; by_cases h7 : sg 36 2 = 7
    · rw [if_pos h7, if_pos (by lia)]
    · rw [if_neg h7, if_neg (by lia)]
  · rw [zup_s, zup_i (by decide), v3]
theorem okS_move {sg sg2 : zSig} {a : Nat} (ia : iSh a) (h : okS sg a) (he : ∀ c j, a ≤ c → c < a + 33 → sg2 c j = sg c j) : okS sg2 a := by
  obtain ⟨⟨a1, a2⟩, ⟨b1, b2⟩, ⟨c1, c2⟩, d, e⟩ := h
  have x2 := he a 2 (by omega) (by omega)
  have x4 := he a 4 (by omega) (by omega)
  have x6 := he a 6 (by omega) (by omega)
  refine ⟨⟨by rw [x2]; exact a1, by rw [x2]; exact a2⟩, ⟨by rw [x4]; exact b1, by rw [x4]; exact b2⟩, ⟨by rw [x6]; exact c1, by rw [x6]; exact c2⟩, fun k q1 q2 => ?_, fun k q1 q2 => ?_⟩
  · rw [x4] at q2
    have hz := sh_s_rng ia q1 (by lia : k < 16)
    rw [he _ 0 (by omega) (by omega)]; exact d k q1 q2
  · rw [x6] at q2
    have hz := sh_a_rng ia q1 (by lia : k < 12)
    rw [he _ 0 (by omega) (by omega)]; exact e k q1 q2
theorem bkHis_takeBack_0 : zBk mHis_takeBack 0 [(1, 0, 1, 0, 0), (1, 0, 1, 0, 0), (0, 0, 0, 0, 1)] = some 3 := by decide +kernel
theorem bkHis_takeBack_6 : zBk mHis_takeBack 6 [(6, 2, 2, 0, 2)] = some 9 := by decide +kernel
theorem bkHis_takeBack_9 : zBk mHis_takeBack 9 [(1, 0, 1, 0, 0), (18, 0, 0, 0, 0), (5, 2, 3, 0, 3), (0, 0, 0, 0, 1), (4, 1, 0, 0, 0), (6, 2, 3, 0, 3)] = some 19 := by decide +kernel
theorem bkHis_takeBack_19 : zBk mHis_takeBack 19 [(1, 1, 1, 0, 0), (1, 0, 1, 0, 0), (5, 2, 0, 1, 0), (1, 0, 1, 0, 0), (5, 2, 2, 0, 2), (9, 0, 0, 0, 0)] = some 29 := by decide +kernel
theorem bkHis_takeBack_32 : zBk mHis_takeBack 32 [(1, 0, 1, 0, 0), (5, 2, 1, 2, 1), (1, 0, 1, 0, 0), (5, 2, 2, 0, 2), (9, 0, 0, 0, 0), (5, 0, 0, 0, 0)] = some 44 := by decide +kernel
theorem bdHis_takeBack_3 : decode mHis_takeBack.2.2.1 3 = .ok (.invokevirtual 45, 3) := by decide +kernel
theorem bdHis_takeBack_29 : decode mHis_takeBack.2.2.1 29 = .ok (.invokevirtual 32, 3) := by decide +kernel
theorem bdHis_takeBack_44 : decode mHis_takeBack.2.2.1 44 = .ok (.ireturn, 1) := by decide +kernel
theorem cHis_takeBack {sg : zSig}  (h0 : 0 ≤ sg 36 2) (h1 : sg 36 2 < 8) (c0 : 1 ≤ sg 36 3) (c1 : sg 36 3 ≤ 8) (ob : okS sg (zel 37 (hL sg 1))) : zG mHis_takeBack 411 (fun rr h' => ∃ v sg', rr = some (.int v) ∧ h' = zN sg' ∧ v = sg (zel 38 (hL sg 1)) 0 ∧ (∀ c j, (c < 1 ∨ 34 ≤ c) → c ≠ 36 → sg' c j = sg c j) ∧ hSC sg sg' 1 (zel 37 (hL sg 1)) ∧ sg' 36 2 = hL sg 1 ∧ sg' 36 3 = sg 36 3 - 1) 0 [(0, .ref 36), (1, .ref 1)] [] (zN sg) := by
  have l0 : 0 ≤ hL sg 1 := by unfold hL; split <;> lia
  have l1 : hL sg 1 < 8 := by unfold hL; split <;> lia
  have hr := zel37_rng l0 l1
  refine zG_run bkHis_takeBack_0 (lv' := [(0, .ref 36), (1, .ref 1)]) (st' := [.int 1, .ref 36, .ref 36]) (h' := zN sg) (Ps := []) rfl trivial ?_
  refine zG_callv (a := 36) (c := 2) (As := [.int 1]) (rest := [.ref 36]) (N2 := 411) bdHis_takeBack_3 okHis_latest lk2_45 (And.intro (by decide) (by decide)) (by decide) rfl rfl rfl (Nat.le_of_ble_eq_true rfl) (Nat.le_of_ble_eq_true rfl) (Nat.le_refl 411) (Nat.le_refl 411) zob_36 (cHis_latest (by first | lia | (rw [u3]; assumption) | (rw [hb.1 36 2 (by omega), u3]; assumption)) (by first | lia | (rw [u3]; assumption) | (rw [hb.1 36 2 (by omega), u3]; assumption)) (by first | lia | (rw [u3]; assumption) | (rw [hb.1 36 2 (by omega), u3]; assumption)) (by first | lia | (rw [u3]; assumption) | (rw [hb.1 36 2 (by omega), u3]; assumption))) ?_
  rintro rr h' ⟨rfl, rfl⟩ -
  refine zG_run bkHis_takeBack_6 (lv' := [(0, .ref 36), (1, .ref 1)]) (st' := []) (h' := zN (zup sg 36 2 (hL sg 1))) (Ps := [zOb (zN sg) 36 2]) rfl (zA zob_36 trivial) ?_
  refine zG_nm (sg := zup sg 36 2 (hL sg 1)) (fun sg1 q1 => ?_)
  have f1 : ∀ c j, c ≠ 36 → sg1 c j = sg c j := fun c j h => by rw [q1]; exact zup_a h
  have u1 : sg1 36 2 = hL sg 1 := by rw [q1]; exact zup_s
  have u2 : sg1 36 3 = sg 36 3 := by rw [q1]; exact zup_i (by decide)
  refine zG_run bkHis_takeBack_9 (lv' := [(0, .ref 36), (1, .ref 1)]) (st' := []) (h' := zN (zup sg1 36 3 ((sg1 36 3) - 1))) (Ps := [zOb (zN sg1) 36 2, zOb (zN sg1) 36 2]) rfl (zA zob_36 (zA zob_36 trivial)) ?_
  refine zG_nm (sg := zup sg1 36 3 ((sg1 36 3) - 1)) (fun sg2 q2 => ?_)
  have f2 : ∀ c j, c ≠ 36 → sg2 c j = sg c j := fun c j h => by rw [q2, zup_a h]; exact f1 c j h
  have u3 : sg2 36 2 = hL sg 1 := by rw [q2, zup_i (by decide)]; exact u1
  have u4 : sg2 36 3 = sg 36 3 - 1 := by rw [q2, zup_s, u2]
  have ok2 : okS sg2 (zel 37 (hL sg 1)) := okS_move (zel37_s l0 l1) ob (fun c j g1 g2 => f2 c j (by omega))
  refine zG_run bkHis_takeBack_19 (lv' := [(0, .ref 36), (1, .ref 1)]) (st' := [.ref (zel 37 (sg2 36 2)), .ref 1]) (h' := zN sg2) (Ps := [zOb (zN sg2) 36 2 ∧ (zN sg2).2.2 36 0 = true, zOb (zN sg2) 36 2, zInR (zN sg2) 37 (sg2 36 2)]) rfl (zA ⟨zob_36, rfl⟩ (zA zob_36 (zA (zinR_37 (i := sg2 36 2) (by first | lia | (rw [u3]; assumption) | (rw [hb.1 36 2 (by omega), u3]; assumption)) (by first | lia | (rw [u3]; assumption) | (rw [hb.1 36 2 (by omega), u3]; assumption))) trivial))) ?_
  refine zG_callv (a := 1) (c := 5) (As := [.ref (zel 37 (sg2 36 2))]) (rest := []) (N2 := 411) bdHis_takeBack_29 okShe_become lk2_32 (And.intro (by decide) (by decide)) (by decide) rfl rfl rfl (Nat.le_of_ble_eq_true rfl) (Nat.le_of_ble_eq_true rfl) (Nat.le_refl 411) (Nat.le_refl 411) zob_1 (cShe_become (a := 1) (b := zel 37 (sg2 36 2)) iSh_1 (by rw [u3]; exact zel37_s l0 l1) (by rw [u3]; omega) (by rw [u3]; exact ok2)) ?_
  rintro rr h' ⟨sg1, rfl, rfl, hb⟩ -
  refine zb_iret bkHis_takeBack_32 bdHis_takeBack_44 rfl (x := sg1 (zel 38 (sg1 36 2)) 0) (h' := zN sg1) (Ps := [zOb (zN sg1) 36 2 ∧ (zN sg1).2.2 36 1 = true, zOb (zN sg1) 36 2, zInR (zN sg1) 38 (sg1 36 2), zOb (zN sg1) (zel 38 (sg1 36 2)) 0]) rfl (zA ⟨zob_36, rfl⟩ (zA zob_36 (zA (zinR_38 (i := sg1 36 2) (by first | lia | (rw [u3]; assumption) | (rw [hb.1 36 2 (by omega), u3]; assumption)) (by first | lia | (rw [u3]; assumption) | (rw [hb.1 36 2 (by omega), u3]; assumption))) (zA (zel_ob38 (i := (sg1 36 2)) (by first | lia | (rw [u3]; assumption) | (rw [hb.1 36 2 (by omega), u3]; assumption)) (by first | lia | (rw [u3]; assumption) | (rw [hb.1 36 2 (by omega), u3]; assumption))) trivial)))) rfl ?_
  have hb2 := hb; rw [u3] at hb2
  have w2 : sg1 36 2 = hL sg 1 := by rw [hb.1 36 2 (by omega)]; exact u3
  refine ⟨_, _, rfl, rfl, ?_, fun c j hc h36 => ?_, hSC_from (zel37_s l0 l1) (by rw [f2 _ _ (by omega)]; exact ob.2.1.2) (by rw [f2 _ _ (by omega)]; exact ob.2.2.1.2) hb2.2 (fun c j g1 g2 => f2 c j (by omega)), w2, ?_⟩
  · rw [w2, hr.2.2, hb.1 _ 0 (by omega)]; exact f2 _ 0 (by omega)
  · rw [hb.1 c j (by omega)]; exact f2 c j h36
  · rw [hb.1 36 3 (by omega)]; exact u4
end
