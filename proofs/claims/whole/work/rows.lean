section
-- ===== PART A: goes FIRST, ahead of the names: the tables' words, and 'selects' of the private methods out of them =====
/-- a private method of a class that the tables say can be made, by its rows of tables_1 -/
def lw_okq (q : MethodName × Nat) : Prop := (q.1.cls ≠ "java/lang/invoke/MethodHandle" ∧ q.1.cls ≠ "java/lang/invoke/VarHandle") ∧ Cond.instantiable q.1.cls q.2 ∈ tables_1 ∧ Cond.privateMethod q.1 ∈ tables_1 ∧ Cond.instanceMethod q.1 ∈ tables_1
theorem lw_p0 : lw_okq (⟨"TraceBench$Tape", "addToken", "(I)I"⟩, 6) := ⟨⟨by decide +kernel, by decide +kernel⟩, List.mem_of_getElem? (i := 28) (by decide +kernel), List.mem_of_getElem? (i := 381) (by decide +kernel), List.mem_of_getElem? (i := 382) (by decide +kernel)⟩
theorem lw_p1 : lw_okq (⟨"TraceBench$Tape", "put", "(III)V"⟩, 6) := ⟨⟨by decide +kernel, by decide +kernel⟩, List.mem_of_getElem? (i := 28) (by decide +kernel), List.mem_of_getElem? (i := 385) (by decide +kernel), List.mem_of_getElem? (i := 386) (by decide +kernel)⟩
theorem lw_p2 : lw_okq (⟨"TraceBench$Tape", "addWord", "(I)I"⟩, 6) := ⟨⟨by decide +kernel, by decide +kernel⟩, List.mem_of_getElem? (i := 28) (by decide +kernel), List.mem_of_getElem? (i := 389) (by decide +kernel), List.mem_of_getElem? (i := 390) (by decide +kernel)⟩
theorem lw_p3 : lw_okq (⟨"TraceBench$Tape", "wordOf", "(II)I"⟩, 6) := ⟨⟨by decide +kernel, by decide +kernel⟩, List.mem_of_getElem? (i := 28) (by decide +kernel), List.mem_of_getElem? (i := 393) (by decide +kernel), List.mem_of_getElem? (i := 394) (by decide +kernel)⟩
theorem lw_p4 : lw_okq (⟨"TraceBench$Tape", "spells", "(IILjava/lang/String;)Z"⟩, 6) := ⟨⟨by decide +kernel, by decide +kernel⟩, List.mem_of_getElem? (i := 28) (by decide +kernel), List.mem_of_getElem? (i := 398) (by decide +kernel), List.mem_of_getElem? (i := 399) (by decide +kernel)⟩
theorem lw_p5 : lw_okq (⟨"TraceBench$Tape", "addNumber", "(I)I"⟩, 6) := ⟨⟨by decide +kernel, by decide +kernel⟩, List.mem_of_getElem? (i := 28) (by decide +kernel), List.mem_of_getElem? (i := 458) (by decide +kernel), List.mem_of_getElem? (i := 459) (by decide +kernel)⟩
theorem lw_p6 : lw_okq (⟨"TraceBench$Reader", "readStage", "(LTraceBench$Stage;)Z"⟩, 5) := ⟨⟨by decide +kernel, by decide +kernel⟩, List.mem_of_getElem? (i := 60) (by decide +kernel), List.mem_of_getElem? (i := 469) (by decide +kernel), List.mem_of_getElem? (i := 470) (by decide +kernel)⟩
theorem lw_p7 : lw_okq (⟨"TraceBench$Reader", "sees", "(I)Z"⟩, 5) := ⟨⟨by decide +kernel, by decide +kernel⟩, List.mem_of_getElem? (i := 60) (by decide +kernel), List.mem_of_getElem? (i := 473) (by decide +kernel), List.mem_of_getElem? (i := 474) (by decide +kernel)⟩
theorem lw_p8 : lw_okq (⟨"TraceBench$Reader", "takeNumber", "(III)Z"⟩, 5) := ⟨⟨by decide +kernel, by decide +kernel⟩, List.mem_of_getElem? (i := 60) (by decide +kernel), List.mem_of_getElem? (i := 477) (by decide +kernel), List.mem_of_getElem? (i := 478) (by decide +kernel)⟩
theorem lw_p9 : lw_okq (⟨"TraceBench$Reader", "refuse", "(I)Z"⟩, 5) := ⟨⟨by decide +kernel, by decide +kernel⟩, List.mem_of_getElem? (i := 60) (by decide +kernel), List.mem_of_getElem? (i := 481) (by decide +kernel), List.mem_of_getElem? (i := 482) (by decide +kernel)⟩
theorem lw_p10 : lw_okq (⟨"TraceBench$Reader", "take", "(I)Z"⟩, 5) := ⟨⟨by decide +kernel, by decide +kernel⟩, List.mem_of_getElem? (i := 60) (by decide +kernel), List.mem_of_getElem? (i := 486) (by decide +kernel), List.mem_of_getElem? (i := 487) (by decide +kernel)⟩
theorem lw_p11 : lw_okq (⟨"TraceBench$Reader", "seesWithin", "()Z"⟩, 5) := ⟨⟨by decide +kernel, by decide +kernel⟩, List.mem_of_getElem? (i := 60) (by decide +kernel), List.mem_of_getElem? (i := 490) (by decide +kernel), List.mem_of_getElem? (i := 491) (by decide +kernel)⟩
theorem lw_p12 : lw_okq (⟨"TraceBench$Reader", "readOperands", "(LTraceBench$Stage;)Z"⟩, 5) := ⟨⟨by decide +kernel, by decide +kernel⟩, List.mem_of_getElem? (i := 60) (by decide +kernel), List.mem_of_getElem? (i := 494) (by decide +kernel), List.mem_of_getElem? (i := 495) (by decide +kernel)⟩
theorem lw_p13 : lw_okq (⟨"TraceBench$Reader", "readThird", "(LTraceBench$Stage;)Z"⟩, 5) := ⟨⟨by decide +kernel, by decide +kernel⟩, List.mem_of_getElem? (i := 60) (by decide +kernel), List.mem_of_getElem? (i := 498) (by decide +kernel), List.mem_of_getElem? (i := 499) (by decide +kernel)⟩
theorem lw_p14 : lw_okq (⟨"TraceBench$Reader", "readWithin", "(LTraceBench$Stage;)Z"⟩, 5) := ⟨⟨by decide +kernel, by decide +kernel⟩, List.mem_of_getElem? (i := 60) (by decide +kernel), List.mem_of_getElem? (i := 502) (by decide +kernel), List.mem_of_getElem? (i := 503) (by decide +kernel)⟩
theorem lw_p15 : lw_okq (⟨"TraceBench$Scope", "beginFirstStage", "(I)V"⟩, 13) := ⟨⟨by decide +kernel, by decide +kernel⟩, List.mem_of_getElem? (i := 84) (by decide +kernel), List.mem_of_getElem? (i := 535) (by decide +kernel), List.mem_of_getElem? (i := 536) (by decide +kernel)⟩
def lw_privs_1 : List (MethodName × Nat) := [(⟨"TraceBench$Tape", "addToken", "(I)I"⟩, 6), (⟨"TraceBench$Tape", "put", "(III)V"⟩, 6), (⟨"TraceBench$Tape", "addWord", "(I)I"⟩, 6), (⟨"TraceBench$Tape", "wordOf", "(II)I"⟩, 6), (⟨"TraceBench$Tape", "spells", "(IILjava/lang/String;)Z"⟩, 6), (⟨"TraceBench$Tape", "addNumber", "(I)I"⟩, 6), (⟨"TraceBench$Reader", "readStage", "(LTraceBench$Stage;)Z"⟩, 5), (⟨"TraceBench$Reader", "sees", "(I)Z"⟩, 5), (⟨"TraceBench$Reader", "takeNumber", "(III)Z"⟩, 5), (⟨"TraceBench$Reader", "refuse", "(I)Z"⟩, 5), (⟨"TraceBench$Reader", "take", "(I)Z"⟩, 5), (⟨"TraceBench$Reader", "seesWithin", "()Z"⟩, 5), (⟨"TraceBench$Reader", "readOperands", "(LTraceBench$Stage;)Z"⟩, 5), (⟨"TraceBench$Reader", "readThird", "(LTraceBench$Stage;)Z"⟩, 5), (⟨"TraceBench$Reader", "readWithin", "(LTraceBench$Stage;)Z"⟩, 5), (⟨"TraceBench$Scope", "beginFirstStage", "(I)V"⟩, 13)]
theorem lw_r1 : ∀ q ∈ lw_privs_1, lw_okq q := List.forall_mem_cons.mpr ⟨lw_p0, List.forall_mem_cons.mpr ⟨lw_p1, List.forall_mem_cons.mpr ⟨lw_p2, List.forall_mem_cons.mpr ⟨lw_p3, List.forall_mem_cons.mpr ⟨lw_p4, List.forall_mem_cons.mpr ⟨lw_p5, List.forall_mem_cons.mpr ⟨lw_p6, List.forall_mem_cons.mpr ⟨lw_p7, List.forall_mem_cons.mpr ⟨lw_p8, List.forall_mem_cons.mpr ⟨lw_p9, List.forall_mem_cons.mpr ⟨lw_p10, List.forall_mem_cons.mpr ⟨lw_p11, List.forall_mem_cons.mpr ⟨lw_p12, List.forall_mem_cons.mpr ⟨lw_p13, List.forall_mem_cons.mpr ⟨lw_p14, List.forall_mem_cons.mpr ⟨lw_p15, fun _ h => absurd h List.not_mem_nil⟩⟩⟩⟩⟩⟩⟩⟩⟩⟩⟩⟩⟩⟩⟩⟩
theorem lw_p16 : lw_okq (⟨"TraceBench$Scope", "follow", "(III)V"⟩, 13) := ⟨⟨by decide +kernel, by decide +kernel⟩, List.mem_of_getElem? (i := 84) (by decide +kernel), List.mem_of_getElem? (i := 558) (by decide +kernel), List.mem_of_getElem? (i := 559) (by decide +kernel)⟩
theorem lw_p17 : lw_okq (⟨"TraceBench$Scope", "countEvent", "(II)V"⟩, 13) := ⟨⟨by decide +kernel, by decide +kernel⟩, List.mem_of_getElem? (i := 84) (by decide +kernel), List.mem_of_getElem? (i := 579) (by decide +kernel), List.mem_of_getElem? (i := 580) (by decide +kernel)⟩
theorem lw_p18 : lw_okq (⟨"TraceBench$Scope", "keepSegment", "(I)V"⟩, 13) := ⟨⟨by decide +kernel, by decide +kernel⟩, List.mem_of_getElem? (i := 84) (by decide +kernel), List.mem_of_getElem? (i := 583) (by decide +kernel), List.mem_of_getElem? (i := 584) (by decide +kernel)⟩
theorem lw_p19 : lw_okq (⟨"TraceBench", "hasTrace", "(II)Z"⟩, 7) := ⟨⟨by decide +kernel, by decide +kernel⟩, List.mem_of_getElem? (i := 20) (by decide +kernel), List.mem_of_getElem? (i := 657) (by decide +kernel), List.mem_of_getElem? (i := 658) (by decide +kernel)⟩
theorem lw_p20 : lw_okq (⟨"TraceBench$Row", "put", "(IJ)V"⟩, 3) := ⟨⟨by decide +kernel, by decide +kernel⟩, List.mem_of_getElem? (i := 278) (by decide +kernel), List.mem_of_getElem? (i := 733) (by decide +kernel), List.mem_of_getElem? (i := 734) (by decide +kernel)⟩
theorem lw_p21 : lw_okq (⟨"TraceBench", "isFilled", "(I)Z"⟩, 7) := ⟨⟨by decide +kernel, by decide +kernel⟩, List.mem_of_getElem? (i := 20) (by decide +kernel), List.mem_of_getElem? (i := 741) (by decide +kernel), List.mem_of_getElem? (i := 742) (by decide +kernel)⟩
theorem lw_p22 : lw_okq (⟨"TraceBench$Row", "fillFrom", "(LTraceBench$Row;)V"⟩, 3) := ⟨⟨by decide +kernel, by decide +kernel⟩, List.mem_of_getElem? (i := 278) (by decide +kernel), List.mem_of_getElem? (i := 749) (by decide +kernel), List.mem_of_getElem? (i := 750) (by decide +kernel)⟩
theorem lw_p23 : lw_okq (⟨"TraceBench$Row", "putGap", "(I)V"⟩, 3) := ⟨⟨by decide +kernel, by decide +kernel⟩, List.mem_of_getElem? (i := 278) (by decide +kernel), List.mem_of_getElem? (i := 753) (by decide +kernel), List.mem_of_getElem? (i := 754) (by decide +kernel)⟩
theorem lw_p24 : lw_okq (⟨"TraceBench$Row", "leavesGap", "(III)Z"⟩, 3) := ⟨⟨by decide +kernel, by decide +kernel⟩, List.mem_of_getElem? (i := 278) (by decide +kernel), List.mem_of_getElem? (i := 757) (by decide +kernel), List.mem_of_getElem? (i := 758) (by decide +kernel)⟩
theorem lw_p25 : lw_okq (⟨"TraceBench$Row", "hasGap", "(II)Z"⟩, 3) := ⟨⟨by decide +kernel, by decide +kernel⟩, List.mem_of_getElem? (i := 278) (by decide +kernel), List.mem_of_getElem? (i := 761) (by decide +kernel), List.mem_of_getElem? (i := 762) (by decide +kernel)⟩
theorem lw_p26 : lw_okq (⟨"TraceBench$Row", "reckoned", "(III)J"⟩, 3) := ⟨⟨by decide +kernel, by decide +kernel⟩, List.mem_of_getElem? (i := 278) (by decide +kernel), List.mem_of_getElem? (i := 766) (by decide +kernel), List.mem_of_getElem? (i := 767) (by decide +kernel)⟩
theorem lw_p27 : lw_okq (⟨"TraceBench$Row", "comesTo", "(JI)Z"⟩, 3) := ⟨⟨by decide +kernel, by decide +kernel⟩, List.mem_of_getElem? (i := 278) (by decide +kernel), List.mem_of_getElem? (i := 820) (by decide +kernel), List.mem_of_getElem? (i := 821) (by decide +kernel)⟩
theorem lw_p28 : lw_okq (⟨"TraceBench$Wire", "clear", "()V"⟩, 8) := ⟨⟨by decide +kernel, by decide +kernel⟩, List.mem_of_getElem? (i := 297) (by decide +kernel), List.mem_of_getElem? (i := 843) (by decide +kernel), List.mem_of_getElem? (i := 844) (by decide +kernel)⟩
theorem lw_p29 : lw_okq (⟨"TraceBench$Wire", "add", "(II)V"⟩, 8) := ⟨⟨by decide +kernel, by decide +kernel⟩, List.mem_of_getElem? (i := 297) (by decide +kernel), List.mem_of_getElem? (i := 858) (by decide +kernel), List.mem_of_getElem? (i := 859) (by decide +kernel)⟩
theorem lw_p30 : lw_okq (⟨"TraceBench$Wire", "takeBit", "(II)V"⟩, 8) := ⟨⟨by decide +kernel, by decide +kernel⟩, List.mem_of_getElem? (i := 297) (by decide +kernel), List.mem_of_getElem? (i := 870) (by decide +kernel), List.mem_of_getElem? (i := 871) (by decide +kernel)⟩
theorem lw_p31 : lw_okq (⟨"TraceBench$Wire", "startOrStop", "(ZI)V"⟩, 8) := ⟨⟨by decide +kernel, by decide +kernel⟩, List.mem_of_getElem? (i := 297) (by decide +kernel), List.mem_of_getElem? (i := 874) (by decide +kernel), List.mem_of_getElem? (i := 875) (by decide +kernel)⟩
def lw_privs_2 : List (MethodName × Nat) := [(⟨"TraceBench$Scope", "follow", "(III)V"⟩, 13), (⟨"TraceBench$Scope", "countEvent", "(II)V"⟩, 13), (⟨"TraceBench$Scope", "keepSegment", "(I)V"⟩, 13), (⟨"TraceBench", "hasTrace", "(II)Z"⟩, 7), (⟨"TraceBench$Row", "put", "(IJ)V"⟩, 3), (⟨"TraceBench", "isFilled", "(I)Z"⟩, 7), (⟨"TraceBench$Row", "fillFrom", "(LTraceBench$Row;)V"⟩, 3), (⟨"TraceBench$Row", "putGap", "(I)V"⟩, 3), (⟨"TraceBench$Row", "leavesGap", "(III)Z"⟩, 3), (⟨"TraceBench$Row", "hasGap", "(II)Z"⟩, 3), (⟨"TraceBench$Row", "reckoned", "(III)J"⟩, 3), (⟨"TraceBench$Row", "comesTo", "(JI)Z"⟩, 3), (⟨"TraceBench$Wire", "clear", "()V"⟩, 8), (⟨"TraceBench$Wire", "add", "(II)V"⟩, 8), (⟨"TraceBench$Wire", "takeBit", "(II)V"⟩, 8), (⟨"TraceBench$Wire", "startOrStop", "(ZI)V"⟩, 8)]
theorem lw_r2 : ∀ q ∈ lw_privs_2, lw_okq q := List.forall_mem_cons.mpr ⟨lw_p16, List.forall_mem_cons.mpr ⟨lw_p17, List.forall_mem_cons.mpr ⟨lw_p18, List.forall_mem_cons.mpr ⟨lw_p19, List.forall_mem_cons.mpr ⟨lw_p20, List.forall_mem_cons.mpr ⟨lw_p21, List.forall_mem_cons.mpr ⟨lw_p22, List.forall_mem_cons.mpr ⟨lw_p23, List.forall_mem_cons.mpr ⟨lw_p24, List.forall_mem_cons.mpr ⟨lw_p25, List.forall_mem_cons.mpr ⟨lw_p26, List.forall_mem_cons.mpr ⟨lw_p27, List.forall_mem_cons.mpr ⟨lw_p28, List.forall_mem_cons.mpr ⟨lw_p29, List.forall_mem_cons.mpr ⟨lw_p30, List.forall_mem_cons.mpr ⟨lw_p31, fun _ h => absurd h List.not_mem_nil⟩⟩⟩⟩⟩⟩⟩⟩⟩⟩⟩⟩⟩⟩⟩⟩
theorem lw_p32 : lw_okq (⟨"TraceBench$Wire", "beginsFrame", "(I)Z"⟩, 8) := ⟨⟨by decide +kernel, by decide +kernel⟩, List.mem_of_getElem? (i := 297) (by decide +kernel), List.mem_of_getElem? (i := 900) (by decide +kernel), List.mem_of_getElem? (i := 901) (by decide +kernel)⟩
theorem lw_p33 : lw_okq (⟨"TraceBench$Wire", "lowByte", "(I)I"⟩, 8) := ⟨⟨by decide +kernel, by decide +kernel⟩, List.mem_of_getElem? (i := 297) (by decide +kernel), List.mem_of_getElem? (i := 904) (by decide +kernel), List.mem_of_getElem? (i := 905) (by decide +kernel)⟩
theorem lw_p34 : lw_okq (⟨"TraceBenchModel", "readTrigger", "()V"⟩, 52) := ⟨⟨by decide +kernel, by decide +kernel⟩, List.mem_of_getElem? (i := 909) (by decide +kernel), List.mem_of_getElem? (i := 1089) (by decide +kernel), List.mem_of_getElem? (i := 1090) (by decide +kernel)⟩
theorem lw_p35 : lw_okq (⟨"TraceBenchModel", "next", "()V"⟩, 52) := ⟨⟨by decide +kernel, by decide +kernel⟩, List.mem_of_getElem? (i := 909) (by decide +kernel), List.mem_of_getElem? (i := 1093) (by decide +kernel), List.mem_of_getElem? (i := 1094) (by decide +kernel)⟩
theorem lw_p36 : lw_okq (⟨"TraceBenchModel", "look", "()I"⟩, 52) := ⟨⟨by decide +kernel, by decide +kernel⟩, List.mem_of_getElem? (i := 909) (by decide +kernel), List.mem_of_getElem? (i := 1097) (by decide +kernel), List.mem_of_getElem? (i := 1098) (by decide +kernel)⟩
theorem lw_p37 : lw_okq (⟨"TraceBenchModel", "fails", "(II)V"⟩, 52) := ⟨⟨by decide +kernel, by decide +kernel⟩, List.mem_of_getElem? (i := 909) (by decide +kernel), List.mem_of_getElem? (i := 1112) (by decide +kernel), List.mem_of_getElem? (i := 1113) (by decide +kernel)⟩
theorem lw_p38 : lw_okq (⟨"TraceBenchModel", "readStage", "()V"⟩, 52) := ⟨⟨by decide +kernel, by decide +kernel⟩, List.mem_of_getElem? (i := 909) (by decide +kernel), List.mem_of_getElem? (i := 1118) (by decide +kernel), List.mem_of_getElem? (i := 1119) (by decide +kernel)⟩
theorem lw_p39 : lw_okq (⟨"TraceBenchModel", "taken", "(II)I"⟩, 52) := ⟨⟨by decide +kernel, by decide +kernel⟩, List.mem_of_getElem? (i := 909) (by decide +kernel), List.mem_of_getElem? (i := 1122) (by decide +kernel), List.mem_of_getElem? (i := 1123) (by decide +kernel)⟩
theorem lw_p40 : lw_okq (⟨"TraceBenchModel", "readEvent", "(I)V"⟩, 52) := ⟨⟨by decide +kernel, by decide +kernel⟩, List.mem_of_getElem? (i := 909) (by decide +kernel), List.mem_of_getElem? (i := 1126) (by decide +kernel), List.mem_of_getElem? (i := 1127) (by decide +kernel)⟩
theorem lw_p41 : lw_okq (⟨"TraceBenchModel", "arms", "()V"⟩, 52) := ⟨⟨by decide +kernel, by decide +kernel⟩, List.mem_of_getElem? (i := 909) (by decide +kernel), List.mem_of_getElem? (i := 1145) (by decide +kernel), List.mem_of_getElem? (i := 1146) (by decide +kernel)⟩
theorem lw_p42 : lw_okq (⟨"TraceBenchModel", "takes", "(I)V"⟩, 52) := ⟨⟨by decide +kernel, by decide +kernel⟩, List.mem_of_getElem? (i := 909) (by decide +kernel), List.mem_of_getElem? (i := 1153) (by decide +kernel), List.mem_of_getElem? (i := 1154) (by decide +kernel)⟩
theorem lw_p43 : lw_okq (⟨"TraceBenchModel", "follows", "(I)V"⟩, 52) := ⟨⟨by decide +kernel, by decide +kernel⟩, List.mem_of_getElem? (i := 909) (by decide +kernel), List.mem_of_getElem? (i := 1157) (by decide +kernel), List.mem_of_getElem? (i := 1158) (by decide +kernel)⟩
theorem lw_p44 : lw_okq (⟨"TraceBenchModel", "happens", "(I)Z"⟩, 52) := ⟨⟨by decide +kernel, by decide +kernel⟩, List.mem_of_getElem? (i := 909) (by decide +kernel), List.mem_of_getElem? (i := 1161) (by decide +kernel), List.mem_of_getElem? (i := 1162) (by decide +kernel)⟩
theorem lw_p45 : lw_okq (⟨"TraceBenchModel", "of", "(II)I"⟩, 52) := ⟨⟨by decide +kernel, by decide +kernel⟩, List.mem_of_getElem? (i := 909) (by decide +kernel), List.mem_of_getElem? (i := 1165) (by decide +kernel), List.mem_of_getElem? (i := 1166) (by decide +kernel)⟩
theorem lw_p46 : lw_okq (⟨"TraceBenchModel", "high", "(III)I"⟩, 52) := ⟨⟨by decide +kernel, by decide +kernel⟩, List.mem_of_getElem? (i := 909) (by decide +kernel), List.mem_of_getElem? (i := 1169) (by decide +kernel), List.mem_of_getElem? (i := 1170) (by decide +kernel)⟩
theorem lw_p47 : lw_okq (⟨"TraceBenchModel", "isRunt", "(IIII)Z"⟩, 52) := ⟨⟨by decide +kernel, by decide +kernel⟩, List.mem_of_getElem? (i := 909) (by decide +kernel), List.mem_of_getElem? (i := 1173) (by decide +kernel), List.mem_of_getElem? (i := 1174) (by decide +kernel)⟩
def lw_privs_3 : List (MethodName × Nat) := [(⟨"TraceBench$Wire", "beginsFrame", "(I)Z"⟩, 8), (⟨"TraceBench$Wire", "lowByte", "(I)I"⟩, 8), (⟨"TraceBenchModel", "readTrigger", "()V"⟩, 52), (⟨"TraceBenchModel", "next", "()V"⟩, 52), (⟨"TraceBenchModel", "look", "()I"⟩, 52), (⟨"TraceBenchModel", "fails", "(II)V"⟩, 52), (⟨"TraceBenchModel", "readStage", "()V"⟩, 52), (⟨"TraceBenchModel", "taken", "(II)I"⟩, 52), (⟨"TraceBenchModel", "readEvent", "(I)V"⟩, 52), (⟨"TraceBenchModel", "arms", "()V"⟩, 52), (⟨"TraceBenchModel", "takes", "(I)V"⟩, 52), (⟨"TraceBenchModel", "follows", "(I)V"⟩, 52), (⟨"TraceBenchModel", "happens", "(I)Z"⟩, 52), (⟨"TraceBenchModel", "of", "(II)I"⟩, 52), (⟨"TraceBenchModel", "high", "(III)I"⟩, 52), (⟨"TraceBenchModel", "isRunt", "(IIII)Z"⟩, 52)]
theorem lw_r3 : ∀ q ∈ lw_privs_3, lw_okq q := List.forall_mem_cons.mpr ⟨lw_p32, List.forall_mem_cons.mpr ⟨lw_p33, List.forall_mem_cons.mpr ⟨lw_p34, List.forall_mem_cons.mpr ⟨lw_p35, List.forall_mem_cons.mpr ⟨lw_p36, List.forall_mem_cons.mpr ⟨lw_p37, List.forall_mem_cons.mpr ⟨lw_p38, List.forall_mem_cons.mpr ⟨lw_p39, List.forall_mem_cons.mpr ⟨lw_p40, List.forall_mem_cons.mpr ⟨lw_p41, List.forall_mem_cons.mpr ⟨lw_p42, List.forall_mem_cons.mpr ⟨lw_p43, List.forall_mem_cons.mpr ⟨lw_p44, List.forall_mem_cons.mpr ⟨lw_p45, List.forall_mem_cons.mpr ⟨lw_p46, List.forall_mem_cons.mpr ⟨lw_p47, fun _ h => absurd h List.not_mem_nil⟩⟩⟩⟩⟩⟩⟩⟩⟩⟩⟩⟩⟩⟩⟩⟩
theorem lw_p48 : lw_okq (⟨"TraceBenchModel", "kept", "()V"⟩, 52) := ⟨⟨by decide +kernel, by decide +kernel⟩, List.mem_of_getElem? (i := 909) (by decide +kernel), List.mem_of_getElem? (i := 1177) (by decide +kernel), List.mem_of_getElem? (i := 1178) (by decide +kernel)⟩
theorem lw_p49 : lw_okq (⟨"TraceBenchModel", "isRow", "(I)Z"⟩, 52) := ⟨⟨by decide +kernel, by decide +kernel⟩, List.mem_of_getElem? (i := 909) (by decide +kernel), List.mem_of_getElem? (i := 1185) (by decide +kernel), List.mem_of_getElem? (i := 1186) (by decide +kernel)⟩
theorem lw_p50 : lw_okq (⟨"TraceBenchModel", "isSegment", "(I)Z"⟩, 52) := ⟨⟨by decide +kernel, by decide +kernel⟩, List.mem_of_getElem? (i := 909) (by decide +kernel), List.mem_of_getElem? (i := 1203) (by decide +kernel), List.mem_of_getElem? (i := 1204) (by decide +kernel)⟩
theorem lw_p51 : lw_okq (⟨"TraceBenchModel", "valueAt", "(III)I"⟩, 52) := ⟨⟨by decide +kernel, by decide +kernel⟩, List.mem_of_getElem? (i := 909) (by decide +kernel), List.mem_of_getElem? (i := 1212) (by decide +kernel), List.mem_of_getElem? (i := 1213) (by decide +kernel)⟩
theorem lw_p52 : lw_okq (⟨"TraceBenchModel", "single", "(IIII)V"⟩, 52) := ⟨⟨by decide +kernel, by decide +kernel⟩, List.mem_of_getElem? (i := 909) (by decide +kernel), List.mem_of_getElem? (i := 1247) (by decide +kernel), List.mem_of_getElem? (i := 1248) (by decide +kernel)⟩
theorem lw_p53 : lw_okq (⟨"TraceBenchModel", "bit", "(III)I"⟩, 52) := ⟨⟨by decide +kernel, by decide +kernel⟩, List.mem_of_getElem? (i := 909) (by decide +kernel), List.mem_of_getElem? (i := 1282) (by decide +kernel), List.mem_of_getElem? (i := 1283) (by decide +kernel)⟩
theorem lw_p54 : lw_okq (⟨"TraceBenchModel", "gets", "(II)V"⟩, 52) := ⟨⟨by decide +kernel, by decide +kernel⟩, List.mem_of_getElem? (i := 909) (by decide +kernel), List.mem_of_getElem? (i := 1286) (by decide +kernel), List.mem_of_getElem? (i := 1287) (by decide +kernel)⟩
def lw_privs_4 : List (MethodName × Nat) := [(⟨"TraceBenchModel", "kept", "()V"⟩, 52), (⟨"TraceBenchModel", "isRow", "(I)Z"⟩, 52), (⟨"TraceBenchModel", "isSegment", "(I)Z"⟩, 52), (⟨"TraceBenchModel", "valueAt", "(III)I"⟩, 52), (⟨"TraceBenchModel", "single", "(IIII)V"⟩, 52), (⟨"TraceBenchModel", "bit", "(III)I"⟩, 52), (⟨"TraceBenchModel", "gets", "(II)V"⟩, 52)]
theorem lw_r4 : ∀ q ∈ lw_privs_4, lw_okq q := List.forall_mem_cons.mpr ⟨lw_p48, List.forall_mem_cons.mpr ⟨lw_p49, List.forall_mem_cons.mpr ⟨lw_p50, List.forall_mem_cons.mpr ⟨lw_p51, List.forall_mem_cons.mpr ⟨lw_p52, List.forall_mem_cons.mpr ⟨lw_p53, List.forall_mem_cons.mpr ⟨lw_p54, fun _ h => absurd h List.not_mem_nil⟩⟩⟩⟩⟩⟩⟩
def lw_privs : List (MethodName × Nat) := lw_privs_1 ++ (lw_privs_2 ++ (lw_privs_3 ++ (lw_privs_4)))
def lw_tbl : List Cond := k2_sels lw_privs ++ tables_1
theorem lw_privs_ok : ∀ q ∈ lw_privs, lw_okq q := by
  show ∀ q ∈ lw_privs_1 ++ (lw_privs_2 ++ (lw_privs_3 ++ (lw_privs_4))), lw_okq q
  exact List.forall_mem_append.mpr ⟨lw_r1, List.forall_mem_append.mpr ⟨lw_r2, List.forall_mem_append.mpr ⟨lw_r3, lw_r4⟩⟩⟩
end
section
def RX0 : String := "TraceBench$Plan"
def TX0 : u_T := fun k => match k with
  | 0 => ("TraceBench$Plan", "stages", "[LTraceBench$Stage;", true)
  | _ => ("TraceBench$Plan", "count", "I", false)
def tyX0 : Nat → FieldType := fun k => match k with
  | 0 => .array (.object "TraceBench$Stage")
  | _ => .int
theorem nmX0 : ∀ a, a < 2 → ∀ b, b < 2 → a ≠ b → (TX0 a).2.1 ≠ (TX0 b).2.1 := by decide +kernel
theorem tyX0_ok : ∀ k, k < 2 → parseFieldDescriptor (TX0 k).2.2.1 = some (tyX0 k) := by decide +kernel
abbrev cX0_init : ByteArray := prog_2_method_1_code
def yX0_init : MethodName := ⟨RX0, "<init>", "()V"⟩
abbrev cX0_forgetHighs : ByteArray := prog_2_method_2_code
def yX0_forgetHighs : MethodName := ⟨RX0, "forgetHighs", "()V"⟩
abbrev cX0_followHighs : ByteArray := prog_2_method_3_code
def yX0_followHighs : MethodName := ⟨RX0, "followHighs", "(II)V"⟩
def RX1 : String := "TraceBench$Reader"
def TX1 : u_T := fun k => match k with
  | 0 => ("TraceBench$Reader", "tape", "LTraceBench$Tape;", true)
  | 1 => ("TraceBench$Reader", "now", "I", false)
  | 2 => ("TraceBench$Reader", "taken", "I", false)
  | 3 => ("TraceBench$Reader", "flaw", "I", false)
  | _ => ("TraceBench$Reader", "flawPlace", "I", false)
def tyX1 : Nat → FieldType := fun k => match k with
  | 0 => .object "TraceBench$Tape"
  | 1 => .int
  | 2 => .int
  | 3 => .int
  | _ => .int
theorem nmX1 : ∀ a, a < 5 → ∀ b, b < 5 → a ≠ b → (TX1 a).2.1 ≠ (TX1 b).2.1 := by decide +kernel
theorem tyX1_ok : ∀ k, k < 5 → parseFieldDescriptor (TX1 k).2.2.1 = some (tyX1 k) := by decide +kernel
abbrev cX1_init : ByteArray := prog_3_method_1_code
def yX1_init : MethodName := ⟨RX1, "<init>", "(LTraceBench$Tape;)V"⟩
abbrev cX1_readPlan : ByteArray := prog_3_method_2_code
def yX1_readPlan : MethodName := ⟨RX1, "readPlan", "(LTraceBench$Plan;)Z"⟩
abbrev cX1_readStage : ByteArray := prog_3_method_3_code
def yX1_readStage : MethodName := ⟨RX1, "readStage", "(LTraceBench$Stage;)Z"⟩
abbrev cX1_readOperands : ByteArray := prog_3_method_4_code
def yX1_readOperands : MethodName := ⟨RX1, "readOperands", "(LTraceBench$Stage;)Z"⟩
abbrev cX1_readThird : ByteArray := prog_3_method_5_code
def yX1_readThird : MethodName := ⟨RX1, "readThird", "(LTraceBench$Stage;)Z"⟩
abbrev cX1_readWithin : ByteArray := prog_3_method_6_code
def yX1_readWithin : MethodName := ⟨RX1, "readWithin", "(LTraceBench$Stage;)Z"⟩
abbrev cX1_sees : ByteArray := prog_3_method_7_code
def yX1_sees : MethodName := ⟨RX1, "sees", "(I)Z"⟩
abbrev cX1_seesWithin : ByteArray := prog_3_method_8_code
def yX1_seesWithin : MethodName := ⟨RX1, "seesWithin", "()Z"⟩
abbrev cX1_take : ByteArray := prog_3_method_9_code
def yX1_take : MethodName := ⟨RX1, "take", "(I)Z"⟩
abbrev cX1_takeNumber : ByteArray := prog_3_method_10_code
def yX1_takeNumber : MethodName := ⟨RX1, "takeNumber", "(III)Z"⟩
abbrev cX1_refuse : ByteArray := prog_3_method_11_code
def yX1_refuse : MethodName := ⟨RX1, "refuse", "(I)Z"⟩
def RX2 : String := "TraceBench$Ring"
def TX2 : u_T := fun k => match k with
  | 0 => ("TraceBench$Ring", "samples", "[I", true)
  | _ => ("TraceBench$Ring", "count", "I", false)
def tyX2 : Nat → FieldType := fun k => match k with
  | 0 => .array .int
  | _ => .int
theorem nmX2 : ∀ a, a < 2 → ∀ b, b < 2 → a ≠ b → (TX2 a).2.1 ≠ (TX2 b).2.1 := by decide +kernel
theorem tyX2_ok : ∀ k, k < 2 → parseFieldDescriptor (TX2 k).2.2.1 = some (tyX2 k) := by decide +kernel
abbrev cX2_init : ByteArray := prog_4_method_1_code
def yX2_init : MethodName := ⟨RX2, "<init>", "()V"⟩
abbrev cX2_add : ByteArray := prog_4_method_2_code
def yX2_add : MethodName := ⟨RX2, "add", "(I)V"⟩
abbrev cX2_oldest : ByteArray := prog_4_method_3_code
def yX2_oldest : MethodName := ⟨RX2, "oldest", "()I"⟩
abbrev cX2_has : ByteArray := prog_4_method_4_code
def yX2_has : MethodName := ⟨RX2, "has", "(I)Z"⟩
abbrev cX2_get : ByteArray := prog_4_method_5_code
def yX2_get : MethodName := ⟨RX2, "get", "(I)I"⟩
def RX3 : String := "TraceBench$Row"
def TX3 : u_T := fun k => match k with
  | 0 => ("TraceBench$Row", "values", "[J", true)
  | 1 => ("TraceBench$Row", "gaps", "[Z", true)
  | _ => ("TraceBench$Row", "length", "I", false)
def tyX3 : Nat → FieldType := fun k => match k with
  | 0 => .array .long
  | 1 => .array .boolean
  | _ => .int
theorem nmX3 : ∀ a, a < 3 → ∀ b, b < 3 → a ≠ b → (TX3 a).2.1 ≠ (TX3 b).2.1 := by decide +kernel
theorem tyX3_ok : ∀ k, k < 3 → parseFieldDescriptor (TX3 k).2.2.1 = some (tyX3 k) := by decide +kernel
abbrev cX3_init : ByteArray := prog_5_method_1_code
def yX3_init : MethodName := ⟨RX3, "<init>", "()V"⟩
abbrev cX3_copyOf : ByteArray := prog_5_method_2_code
def yX3_copyOf : MethodName := ⟨RX3, "copyOf", "(LTraceBench$Segment;I)V"⟩
abbrev cX3_put : ByteArray := prog_5_method_3_code
def yX3_put : MethodName := ⟨RX3, "put", "(IJ)V"⟩
abbrev cX3_putGap : ByteArray := prog_5_method_4_code
def yX3_putGap : MethodName := ⟨RX3, "putGap", "(I)V"⟩
abbrev cX3_valueAt : ByteArray := prog_5_method_5_code
def yX3_valueAt : MethodName := ⟨RX3, "valueAt", "(I)J"⟩
abbrev cX3_reckonTwo : ByteArray := prog_5_method_6_code
def yX3_reckonTwo : MethodName := ⟨RX3, "reckonTwo", "(ILTraceBench$Row;LTraceBench$Row;)V"⟩
abbrev cX3_joined : ByteArray := prog_5_method_7_code
def yX3_joined : MethodName := ⟨RX3, "joined", "(IJJ)J"⟩
abbrev cX3_reckonOne : ByteArray := prog_5_method_8_code
def yX3_reckonOne : MethodName := ⟨RX3, "reckonOne", "(ILTraceBench$Row;I)V"⟩
abbrev cX3_leavesGap : ByteArray := prog_5_method_9_code
def yX3_leavesGap : MethodName := ⟨RX3, "leavesGap", "(III)Z"⟩
abbrev cX3_reckoned : ByteArray := prog_5_method_10_code
def yX3_reckoned : MethodName := ⟨RX3, "reckoned", "(III)J"⟩
abbrev cX3_fillFrom : ByteArray := prog_5_method_11_code
def yX3_fillFrom : MethodName := ⟨RX3, "fillFrom", "(LTraceBench$Row;)V"⟩
abbrev cX3_hasGap : ByteArray := prog_5_method_12_code
def yX3_hasGap : MethodName := ⟨RX3, "hasGap", "(II)Z"⟩
abbrev cX3_sum : ByteArray := prog_5_method_13_code
def yX3_sum : MethodName := ⟨RX3, "sum", "(II)J"⟩
abbrev cX3_countGaps : ByteArray := prog_5_method_14_code
def yX3_countGaps : MethodName := ⟨RX3, "countGaps", "()I"⟩
abbrev cX3_placeOfLeast : ByteArray := prog_5_method_15_code
def yX3_placeOfLeast : MethodName := ⟨RX3, "placeOfLeast", "()I"⟩
abbrev cX3_placeOfGreatest : ByteArray := prog_5_method_16_code
def yX3_placeOfGreatest : MethodName := ⟨RX3, "placeOfGreatest", "()I"⟩
abbrev cX3_firstGap : ByteArray := prog_5_method_17_code
def yX3_firstGap : MethodName := ⟨RX3, "firstGap", "()I"⟩
abbrev cX3_comesTo : ByteArray := prog_5_method_18_code
def yX3_comesTo : MethodName := ⟨RX3, "comesTo", "(JI)Z"⟩
abbrev cX3_measureTurns : ByteArray := prog_5_method_19_code
def yX3_measureTurns : MethodName := ⟨RX3, "measureTurns", "(JI)I"⟩
abbrev cX3_isInBand : ByteArray := prog_5_method_20_code
def yX3_isInBand : MethodName := ⟨RX3, "isInBand", "(IJII)Z"⟩
def RX4 : String := "TraceBench$Scope"
def TX4 : u_T := fun k => match k with
  | 0 => ("TraceBench$Scope", "ring", "LTraceBench$Ring;", true)
  | 1 => ("TraceBench$Scope", "store", "LTraceBench$Store;", true)
  | 2 => ("TraceBench$Scope", "plan", "LTraceBench$Plan;", false)
  | 3 => ("TraceBench$Scope", "draft", "LTraceBench$Plan;", false)
  | 4 => ("TraceBench$Scope", "before", "I", false)
  | 5 => ("TraceBench$Scope", "after", "I", false)
  | 6 => ("TraceBench$Scope", "state", "I", false)
  | 7 => ("TraceBench$Scope", "armedFrom", "I", false)
  | 8 => ("TraceBench$Scope", "stage", "I", false)
  | 9 => ("TraceBench$Scope", "happened", "I", false)
  | 10 => ("TraceBench$Scope", "began", "I", false)
  | 11 => ("TraceBench$Scope", "begunAgain", "I", false)
  | _ => ("TraceBench$Scope", "fired", "I", false)
def tyX4 : Nat → FieldType := fun k => match k with
  | 0 => .object "TraceBench$Ring"
  | 1 => .object "TraceBench$Store"
  | 2 => .object "TraceBench$Plan"
  | 3 => .object "TraceBench$Plan"
  | 4 => .int
  | 5 => .int
  | 6 => .int
  | 7 => .int
  | 8 => .int
  | 9 => .int
  | 10 => .int
  | 11 => .int
  | _ => .int
theorem nmX4 : ∀ a, a < 13 → ∀ b, b < 13 → a ≠ b → (TX4 a).2.1 ≠ (TX4 b).2.1 := by decide +kernel
theorem tyX4_ok : ∀ k, k < 13 → parseFieldDescriptor (TX4 k).2.2.1 = some (tyX4 k) := by decide +kernel
abbrev cX4_init : ByteArray := prog_6_method_1_code
def yX4_init : MethodName := ⟨RX4, "<init>", "()V"⟩
abbrev cX4_takeDraft : ByteArray := prog_6_method_2_code
def yX4_takeDraft : MethodName := ⟨RX4, "takeDraft", "()V"⟩
abbrev cX4_beginAnew : ByteArray := prog_6_method_3_code
def yX4_beginAnew : MethodName := ⟨RX4, "beginAnew", "()V"⟩
abbrev cX4_beginFirstStage : ByteArray := prog_6_method_4_code
def yX4_beginFirstStage : MethodName := ⟨RX4, "beginFirstStage", "(I)V"⟩
abbrev cX4_take : ByteArray := prog_6_method_5_code
def yX4_take : MethodName := ⟨RX4, "take", "(I)V"⟩
abbrev cX4_follow : ByteArray := prog_6_method_6_code
def yX4_follow : MethodName := ⟨RX4, "follow", "(III)V"⟩
abbrev cX4_countEvent : ByteArray := prog_6_method_7_code
def yX4_countEvent : MethodName := ⟨RX4, "countEvent", "(II)V"⟩
abbrev cX4_keepSegment : ByteArray := prog_6_method_8_code
def yX4_keepSegment : MethodName := ⟨RX4, "keepSegment", "(I)V"⟩
def RX5 : String := "TraceBench$Segment"
def TX5 : u_T := fun k => match k with
  | 0 => ("TraceBench$Segment", "samples", "[I", true)
  | 1 => ("TraceBench$Segment", "from", "I", false)
  | 2 => ("TraceBench$Segment", "length", "I", false)
  | _ => ("TraceBench$Segment", "fired", "I", false)
def tyX5 : Nat → FieldType := fun k => match k with
  | 0 => .array .int
  | 1 => .int
  | 2 => .int
  | _ => .int
theorem nmX5 : ∀ a, a < 4 → ∀ b, b < 4 → a ≠ b → (TX5 a).2.1 ≠ (TX5 b).2.1 := by decide +kernel
theorem tyX5_ok : ∀ k, k < 4 → parseFieldDescriptor (TX5 k).2.2.1 = some (tyX5 k) := by decide +kernel
abbrev cX5_init : ByteArray := prog_7_method_1_code
def yX5_init : MethodName := ⟨RX5, "<init>", "()V"⟩
abbrev cX5_copyOf : ByteArray := prog_7_method_2_code
def yX5_copyOf : MethodName := ⟨RX5, "copyOf", "(LTraceBench$Ring;III)V"⟩
abbrev cX5_has : ByteArray := prog_7_method_3_code
def yX5_has : MethodName := ⟨RX5, "has", "(I)Z"⟩
abbrev cX5_numberAt : ByteArray := prog_7_method_4_code
def yX5_numberAt : MethodName := ⟨RX5, "numberAt", "(II)I"⟩
abbrev cX5_isOne : ByteArray := prog_7_method_5_code
def yX5_isOne : MethodName := ⟨RX5, "isOne", "(II)Z"⟩
def RX6 : String := "TraceBench$Sheet"
def TX6 : u_T := fun k => match k with
  | 0 => ("TraceBench$Sheet", "cells", "[I", true)
  | 1 => ("TraceBench$Sheet", "lane", "I", false)
  | _ => ("TraceBench$Sheet", "length", "I", false)
def tyX6 : Nat → FieldType := fun k => match k with
  | 0 => .array .int
  | 1 => .int
  | _ => .int
theorem nmX6 : ∀ a, a < 3 → ∀ b, b < 3 → a ≠ b → (TX6 a).2.1 ≠ (TX6 b).2.1 := by decide +kernel
theorem tyX6_ok : ∀ k, k < 3 → parseFieldDescriptor (TX6 k).2.2.1 = some (tyX6 k) := by decide +kernel
abbrev cX6_init : ByteArray := prog_8_method_1_code
def yX6_init : MethodName := ⟨RX6, "<init>", "()V"⟩
abbrev cX6_renew : ByteArray := prog_8_method_2_code
def yX6_renew : MethodName := ⟨RX6, "renew", "(II)V"⟩
abbrev cX6_isNothing : ByteArray := prog_8_method_3_code
def yX6_isNothing : MethodName := ⟨RX6, "isNothing", "()Z"⟩
abbrev cX6_has : ByteArray := prog_8_method_4_code
def yX6_has : MethodName := ⟨RX6, "has", "(I)Z"⟩
abbrev cX6_put : ByteArray := prog_8_method_5_code
def yX6_put : MethodName := ⟨RX6, "put", "(II)V"⟩
abbrev cX6_faultAs : ByteArray := prog_8_method_6_code
def yX6_faultAs : MethodName := ⟨RX6, "faultAs", "(II)I"⟩
abbrev cX6_allows : ByteArray := prog_8_method_7_code
def yX6_allows : MethodName := ⟨RX6, "allows", "(II)Z"⟩
def RX7 : String := "TraceBench$Stage"
def TX7 : u_T := fun k => match k with
  | 0 => ("TraceBench$Stage", "event", "I", false)
  | 1 => ("TraceBench$Stage", "times", "I", false)
  | 2 => ("TraceBench$Stage", "within", "I", false)
  | 3 => ("TraceBench$Stage", "trace", "I", false)
  | 4 => ("TraceBench$Stage", "other", "I", false)
  | 5 => ("TraceBench$Stage", "level", "I", false)
  | 6 => ("TraceBench$Stage", "top", "I", false)
  | 7 => ("TraceBench$Stage", "span", "I", false)
  | 8 => ("TraceBench$Stage", "highSamples", "I", false)
  | _ => ("TraceBench$Stage", "reachedTop", "Z", false)
def tyX7 : Nat → FieldType := fun k => match k with
  | 0 => .int
  | 1 => .int
  | 2 => .int
  | 3 => .int
  | 4 => .int
  | 5 => .int
  | 6 => .int
  | 7 => .int
  | 8 => .int
  | _ => .boolean
theorem nmX7 : ∀ a, a < 10 → ∀ b, b < 10 → a ≠ b → (TX7 a).2.1 ≠ (TX7 b).2.1 := by decide +kernel
theorem tyX7_ok : ∀ k, k < 10 → parseFieldDescriptor (TX7 k).2.2.1 = some (tyX7 k) := by decide +kernel
abbrev cX7_init : ByteArray := prog_9_method_1_code
def yX7_init : MethodName := ⟨RX7, "<init>", "()V"⟩
abbrev cX7_happens : ByteArray := prog_9_method_2_code
def yX7_happens : MethodName := ⟨RX7, "happens", "(II)Z"⟩
abbrev cX7_followHigh : ByteArray := prog_9_method_3_code
def yX7_followHigh : MethodName := ⟨RX7, "followHigh", "(II)V"⟩
def RX8 : String := "TraceBench$Store"
def TX8 : u_T := fun k => match k with
  | 0 => ("TraceBench$Store", "segments", "[LTraceBench$Segment;", true)
  | _ => ("TraceBench$Store", "count", "I", false)
def tyX8 : Nat → FieldType := fun k => match k with
  | 0 => .array (.object "TraceBench$Segment")
  | _ => .int
theorem nmX8 : ∀ a, a < 2 → ∀ b, b < 2 → a ≠ b → (TX8 a).2.1 ≠ (TX8 b).2.1 := by decide +kernel
theorem tyX8_ok : ∀ k, k < 2 → parseFieldDescriptor (TX8 k).2.2.1 = some (tyX8 k) := by decide +kernel
abbrev cX8_init : ByteArray := prog_10_method_1_code
def yX8_init : MethodName := ⟨RX8, "<init>", "()V"⟩
abbrev cX8_isFull : ByteArray := prog_10_method_2_code
def yX8_isFull : MethodName := ⟨RX8, "isFull", "()Z"⟩
abbrev cX8_has : ByteArray := prog_10_method_3_code
def yX8_has : MethodName := ⟨RX8, "has", "(I)Z"⟩
abbrev cX8_get : ByteArray := prog_10_method_4_code
def yX8_get : MethodName := ⟨RX8, "get", "(I)LTraceBench$Segment;"⟩
abbrev cX8_add : ByteArray := prog_10_method_5_code
def yX8_add : MethodName := ⟨RX8, "add", "(LTraceBench$Ring;III)V"⟩
abbrev cX8_removeLatest : ByteArray := prog_10_method_6_code
def yX8_removeLatest : MethodName := ⟨RX8, "removeLatest", "()Z"⟩
def RX9 : String := "TraceBench$Tape"
def TX9 : u_T := fun k => match k with
  | 0 => ("TraceBench$Tape", "cells", "[B", true)
  | 1 => ("TraceBench$Tape", "length", "I", false)
  | 2 => ("TraceBench$Tape", "kinds", "[I", true)
  | 3 => ("TraceBench$Tape", "starts", "[I", true)
  | 4 => ("TraceBench$Tape", "values", "[I", true)
  | _ => ("TraceBench$Tape", "tokens", "I", false)
def tyX9 : Nat → FieldType := fun k => match k with
  | 0 => .array .byte
  | 1 => .int
  | 2 => .array .int
  | 3 => .array .int
  | 4 => .array .int
  | _ => .int
theorem nmX9 : ∀ a, a < 6 → ∀ b, b < 6 → a ≠ b → (TX9 a).2.1 ≠ (TX9 b).2.1 := by decide +kernel
theorem tyX9_ok : ∀ k, k < 6 → parseFieldDescriptor (TX9 k).2.2.1 = some (tyX9 k) := by decide +kernel
abbrev cX9_init : ByteArray := prog_11_method_1_code
def yX9_init : MethodName := ⟨RX9, "<init>", "()V"⟩
abbrev cX9_append : ByteArray := prog_11_method_2_code
def yX9_append : MethodName := ⟨RX9, "append", "(J)Z"⟩
abbrev cX9_cutTo : ByteArray := prog_11_method_3_code
def yX9_cutTo : MethodName := ⟨RX9, "cutTo", "(I)Z"⟩
abbrev cX9_split : ByteArray := prog_11_method_4_code
def yX9_split : MethodName := ⟨RX9, "split", "()V"⟩
abbrev cX9_put : ByteArray := prog_11_method_5_code
def yX9_put : MethodName := ⟨RX9, "put", "(III)V"⟩
abbrev cX9_addToken : ByteArray := prog_11_method_6_code
def yX9_addToken : MethodName := ⟨RX9, "addToken", "(I)I"⟩
abbrev cX9_addWord : ByteArray := prog_11_method_7_code
def yX9_addWord : MethodName := ⟨RX9, "addWord", "(I)I"⟩
abbrev cX9_addNumber : ByteArray := prog_11_method_8_code
def yX9_addNumber : MethodName := ⟨RX9, "addNumber", "(I)I"⟩
abbrev cX9_wordOf : ByteArray := prog_11_method_9_code
def yX9_wordOf : MethodName := ⟨RX9, "wordOf", "(II)I"⟩
abbrev cX9_spells : ByteArray := prog_11_method_10_code
def yX9_spells : MethodName := ⟨RX9, "spells", "(IILjava/lang/String;)Z"⟩
def RX10 : String := "TraceBench$Wire"
def TX10 : u_T := fun k => match k with
  | 0 => ("TraceBench$Wire", "found", "[I", true)
  | 1 => ("TraceBench$Wire", "places", "[I", true)
  | 2 => ("TraceBench$Wire", "count", "I", false)
  | 3 => ("TraceBench$Wire", "faultPlace", "I", false)
  | 4 => ("TraceBench$Wire", "started", "Z", false)
  | 5 => ("TraceBench$Wire", "bits", "I", false)
  | 6 => ("TraceBench$Wire", "value", "I", false)
  | _ => ("TraceBench$Wire", "begin", "I", false)
def tyX10 : Nat → FieldType := fun k => match k with
  | 0 => .array .int
  | 1 => .array .int
  | 2 => .int
  | 3 => .int
  | 4 => .boolean
  | 5 => .int
  | 6 => .int
  | _ => .int
theorem nmX10 : ∀ a, a < 8 → ∀ b, b < 8 → a ≠ b → (TX10 a).2.1 ≠ (TX10 b).2.1 := by decide +kernel
theorem tyX10_ok : ∀ k, k < 8 → parseFieldDescriptor (TX10 k).2.2.1 = some (tyX10 k) := by decide +kernel
abbrev cX10_init : ByteArray := prog_12_method_1_code
def yX10_init : MethodName := ⟨RX10, "<init>", "()V"⟩
abbrev cX10_has : ByteArray := prog_12_method_2_code
def yX10_has : MethodName := ⟨RX10, "has", "(I)Z"⟩
abbrev cX10_clear : ByteArray := prog_12_method_3_code
def yX10_clear : MethodName := ⟨RX10, "clear", "()V"⟩
abbrev cX10_add : ByteArray := prog_12_method_4_code
def yX10_add : MethodName := ⟨RX10, "add", "(II)V"⟩
abbrev cX10_readOne : ByteArray := prog_12_method_5_code
def yX10_readOne : MethodName := ⟨RX10, "readOne", "(LTraceBench$Segment;II)V"⟩
abbrev cX10_beginsByte : ByteArray := prog_12_method_6_code
def yX10_beginsByte : MethodName := ⟨RX10, "beginsByte", "(LTraceBench$Segment;III)Z"⟩
abbrev cX10_byteBehind : ByteArray := prog_12_method_7_code
def yX10_byteBehind : MethodName := ⟨RX10, "byteBehind", "(LTraceBench$Segment;III)I"⟩
abbrev cX10_readTwo : ByteArray := prog_12_method_8_code
def yX10_readTwo : MethodName := ⟨RX10, "readTwo", "(LTraceBench$Segment;II)V"⟩
abbrev cX10_startOrStop : ByteArray := prog_12_method_9_code
def yX10_startOrStop : MethodName := ⟨RX10, "startOrStop", "(ZI)V"⟩
abbrev cX10_takeBit : ByteArray := prog_12_method_10_code
def yX10_takeBit : MethodName := ⟨RX10, "takeBit", "(II)V"⟩
abbrev cX10_findFrame : ByteArray := prog_12_method_11_code
def yX10_findFrame : MethodName := ⟨RX10, "findFrame", "(I)I"⟩
abbrev cX10_lowByte : ByteArray := prog_12_method_12_code
def yX10_lowByte : MethodName := ⟨RX10, "lowByte", "(I)I"⟩
abbrev cX10_beginsFrame : ByteArray := prog_12_method_13_code
def yX10_beginsFrame : MethodName := ⟨RX10, "beginsFrame", "(I)Z"⟩
def RX11 : String := "TraceBench"
def TX11 : u_T := fun k => match k with
  | 0 => ("TraceBench", "tape", "LTraceBench$Tape;", true)
  | 1 => ("TraceBench", "reader", "LTraceBench$Reader;", true)
  | 2 => ("TraceBench", "scope", "LTraceBench$Scope;", true)
  | 3 => ("TraceBench", "sheets", "[LTraceBench$Sheet;", true)
  | 4 => ("TraceBench", "rows", "[LTraceBench$Row;", true)
  | 5 => ("TraceBench", "wire", "LTraceBench$Wire;", true)
  | _ => ("TraceBench", "firstBeyond", "I", false)
def tyX11 : Nat → FieldType := fun k => match k with
  | 0 => .object "TraceBench$Tape"
  | 1 => .object "TraceBench$Reader"
  | 2 => .object "TraceBench$Scope"
  | 3 => .array (.object "TraceBench$Sheet")
  | 4 => .array (.object "TraceBench$Row")
  | 5 => .object "TraceBench$Wire"
  | _ => .int
theorem nmX11 : ∀ a, a < 7 → ∀ b, b < 7 → a ≠ b → (TX11 a).2.1 ≠ (TX11 b).2.1 := by decide +kernel
theorem tyX11_ok : ∀ k, k < 7 → parseFieldDescriptor (TX11 k).2.2.1 = some (tyX11 k) := by decide +kernel
abbrev cX11_init : ByteArray := prog_1_method_1_code
def yX11_init : MethodName := ⟨RX11, "<init>", "()V"⟩
abbrev cX11_feed : ByteArray := prog_1_method_2_code
def yX11_feed : MethodName := ⟨RX11, "feed", "(J)I"⟩
abbrev cX11_end : ByteArray := prog_1_method_3_code
def yX11_end : MethodName := ⟨RX11, "end", "(I)I"⟩
abbrev cX11_trigger : ByteArray := prog_1_method_4_code
def yX11_trigger : MethodName := ⟨RX11, "trigger", "()I"⟩
abbrev cX11_fault : ByteArray := prog_1_method_5_code
def yX11_fault : MethodName := ⟨RX11, "fault", "()I"⟩
abbrev cX11_keep : ByteArray := prog_1_method_6_code
def yX11_keep : MethodName := ⟨RX11, "keep", "(II)I"⟩
abbrev cX11_arm : ByteArray := prog_1_method_7_code
def yX11_arm : MethodName := ⟨RX11, "arm", "()I"⟩
abbrev cX11_come : ByteArray := prog_1_method_8_code
def yX11_come : MethodName := ⟨RX11, "come", "(J)I"⟩
abbrev cX11_play : ByteArray := prog_1_method_9_code
def yX11_play : MethodName := ⟨RX11, "play", "(IIII)I"⟩
abbrev cX11_sample : ByteArray := prog_1_method_10_code
def yX11_sample : MethodName := ⟨RX11, "sample", "(II)I"⟩
abbrev cX11_told : ByteArray := prog_1_method_11_code
def yX11_told : MethodName := ⟨RX11, "told", "(I)I"⟩
abbrev cX11_segment : ByteArray := prog_1_method_12_code
def yX11_segment : MethodName := ⟨RX11, "segment", "(II)I"⟩
abbrev cX11_at : ByteArray := prog_1_method_13_code
def yX11_at : MethodName := ⟨RX11, "at", "(III)I"⟩
abbrev cX11_drop : ByteArray := prog_1_method_14_code
def yX11_drop : MethodName := ⟨RX11, "drop", "()I"⟩
abbrev cX11_sheet : ByteArray := prog_1_method_15_code
def yX11_sheet : MethodName := ⟨RX11, "sheet", "(III)I"⟩
abbrev cX11_lay : ByteArray := prog_1_method_16_code
def yX11_lay : MethodName := ⟨RX11, "lay", "(III)I"⟩
abbrev cX11_mask : ByteArray := prog_1_method_17_code
def yX11_mask : MethodName := ⟨RX11, "mask", "(IIIIII)I"⟩
abbrev cX11_first : ByteArray := prog_1_method_18_code
def yX11_first : MethodName := ⟨RX11, "first", "()I"⟩
abbrev cX11_row : ByteArray := prog_1_method_19_code
def yX11_row : MethodName := ⟨RX11, "row", "(III)I"⟩
abbrev cX11_reckon : ByteArray := prog_1_method_20_code
def yX11_reckon : MethodName := ⟨RX11, "reckon", "(IIIII)I"⟩
abbrev cX11_place : ByteArray := prog_1_method_21_code
def yX11_place : MethodName := ⟨RX11, "place", "(II)J"⟩
abbrev cX11_about : ByteArray := prog_1_method_22_code
def yX11_about : MethodName := ⟨RX11, "about", "(II)I"⟩
abbrev cX11_total : ByteArray := prog_1_method_23_code
def yX11_total : MethodName := ⟨RX11, "total", "(I)J"⟩
abbrev cX11_turns : ByteArray := prog_1_method_24_code
def yX11_turns : MethodName := ⟨RX11, "turns", "(IJI)I"⟩
abbrev cX11_eye : ByteArray := prog_1_method_25_code
def yX11_eye : MethodName := ⟨RX11, "eye", "(IIIIJII)I"⟩
abbrev cX11_bytes : ByteArray := prog_1_method_26_code
def yX11_bytes : MethodName := ⟨RX11, "bytes", "(III)I"⟩
abbrev cX11_wires : ByteArray := prog_1_method_27_code
def yX11_wires : MethodName := ⟨RX11, "wires", "(III)I"⟩
abbrev cX11_got : ByteArray := prog_1_method_28_code
def yX11_got : MethodName := ⟨RX11, "got", "(I)I"⟩
abbrev cX11_when : ByteArray := prog_1_method_29_code
def yX11_when : MethodName := ⟨RX11, "when", "(I)I"⟩
abbrev cX11_frame : ByteArray := prog_1_method_30_code
def yX11_frame : MethodName := ⟨RX11, "frame", "(I)I"⟩
abbrev cX11_isIn : ByteArray := prog_1_method_31_code
def yX11_isIn : MethodName := ⟨RX11, "isIn", "(III)Z"⟩
abbrev cX11_isTrace : ByteArray := prog_1_method_32_code
def yX11_isTrace : MethodName := ⟨RX11, "isTrace", "(I)Z"⟩
abbrev cX11_hasTrace : ByteArray := prog_1_method_33_code
def yX11_hasTrace : MethodName := ⟨RX11, "hasTrace", "(II)Z"⟩
abbrev cX11_isFilled : ByteArray := prog_1_method_34_code
def yX11_isFilled : MethodName := ⟨RX11, "isFilled", "(I)Z"⟩
abbrev cX11_numberOn : ByteArray := prog_1_method_35_code
def yX11_numberOn : MethodName := ⟨RX11, "numberOn", "(II)I"⟩
abbrev cX11_sampleOn : ByteArray := prog_1_method_36_code
def yX11_sampleOn : MethodName := ⟨RX11, "sampleOn", "(II)I"⟩
def RX12 : String := "TraceBenchModel"
def TX12 : u_T := fun k => match k with
  | 0 => ("TraceBenchModel", "tape", "[I", true)
  | 1 => ("TraceBenchModel", "taped", "I", false)
  | 2 => ("TraceBenchModel", "all", "[I", true)
  | 3 => ("TraceBenchModel", "samples", "I", false)
  | 4 => ("TraceBenchModel", "stages", "I", false)
  | 5 => ("TraceBenchModel", "times", "[I", true)
  | 6 => ("TraceBenchModel", "events", "[I", true)
  | 7 => ("TraceBenchModel", "traces", "[I", true)
  | 8 => ("TraceBenchModel", "ones", "[I", true)
  | 9 => ("TraceBenchModel", "others", "[I", true)
  | 10 => ("TraceBenchModel", "limits", "[I", true)
  | 11 => ("TraceBenchModel", "dStages", "I", false)
  | 12 => ("TraceBenchModel", "dTimes", "[I", true)
  | 13 => ("TraceBenchModel", "dEvents", "[I", true)
  | 14 => ("TraceBenchModel", "dTraces", "[I", true)
  | 15 => ("TraceBenchModel", "dOnes", "[I", true)
  | 16 => ("TraceBenchModel", "dOthers", "[I", true)
  | 17 => ("TraceBenchModel", "dLimits", "[I", true)
  | 18 => ("TraceBenchModel", "fault", "I", false)
  | 19 => ("TraceBenchModel", "wrongAt", "I", false)
  | 20 => ("TraceBenchModel", "at", "I", false)
  | 21 => ("TraceBenchModel", "from", "I", false)
  | 22 => ("TraceBenchModel", "sort", "I", false)
  | 23 => ("TraceBenchModel", "value", "I", false)
  | 24 => ("TraceBenchModel", "word", "J", false)
  | 25 => ("TraceBenchModel", "state", "I", false)
  | 26 => ("TraceBenchModel", "before", "I", false)
  | 27 => ("TraceBenchModel", "after", "I", false)
  | 28 => ("TraceBenchModel", "first0", "I", false)
  | 29 => ("TraceBenchModel", "stage", "I", false)
  | 30 => ("TraceBenchModel", "happened", "I", false)
  | 31 => ("TraceBenchModel", "began", "I", false)
  | 32 => ("TraceBenchModel", "anew", "I", false)
  | 33 => ("TraceBenchModel", "fired", "I", false)
  | 34 => ("TraceBenchModel", "segments", "I", false)
  | 35 => ("TraceBenchModel", "sFrom", "[I", true)
  | 36 => ("TraceBenchModel", "sSize", "[I", true)
  | 37 => ("TraceBenchModel", "sFired", "[I", true)
  | 38 => ("TraceBenchModel", "sAll", "[I", true)
  | 39 => ("TraceBenchModel", "lanes", "[I", true)
  | 40 => ("TraceBenchModel", "sheetSizes", "[I", true)
  | 41 => ("TraceBenchModel", "cells", "[I", true)
  | 42 => ("TraceBenchModel", "beyond", "I", false)
  | 43 => ("TraceBenchModel", "rowSizes", "[I", true)
  | 44 => ("TraceBenchModel", "places", "[J", true)
  | 45 => ("TraceBenchModel", "gaps", "[Z", true)
  | 46 => ("TraceBenchModel", "fresh", "[J", true)
  | 47 => ("TraceBenchModel", "freshGaps", "[Z", true)
  | 48 => ("TraceBenchModel", "gotMany", "I", false)
  | 49 => ("TraceBenchModel", "gotBytes", "[I", true)
  | 50 => ("TraceBenchModel", "gotAt", "[I", true)
  | _ => ("TraceBenchModel", "gotFault", "I", false)
def tyX12 : Nat → FieldType := fun k => match k with
  | 0 => .array .int
  | 1 => .int
  | 2 => .array .int
  | 3 => .int
  | 4 => .int
  | 5 => .array .int
  | 6 => .array .int
  | 7 => .array .int
  | 8 => .array .int
  | 9 => .array .int
  | 10 => .array .int
  | 11 => .int
  | 12 => .array .int
  | 13 => .array .int
  | 14 => .array .int
  | 15 => .array .int
  | 16 => .array .int
  | 17 => .array .int
  | 18 => .int
  | 19 => .int
  | 20 => .int
  | 21 => .int
  | 22 => .int
  | 23 => .int
  | 24 => .long
  | 25 => .int
  | 26 => .int
  | 27 => .int
  | 28 => .int
  | 29 => .int
  | 30 => .int
  | 31 => .int
  | 32 => .int
  | 33 => .int
  | 34 => .int
  | 35 => .array .int
  | 36 => .array .int
  | 37 => .array .int
  | 38 => .array .int
  | 39 => .array .int
  | 40 => .array .int
  | 41 => .array .int
  | 42 => .int
  | 43 => .array .int
  | 44 => .array .long
  | 45 => .array .boolean
  | 46 => .array .long
  | 47 => .array .boolean
  | 48 => .int
  | 49 => .array .int
  | 50 => .array .int
  | _ => .int
theorem nmX12 : ∀ a, a < 52 → ∀ b, b < 52 → a ≠ b → (TX12 a).2.1 ≠ (TX12 b).2.1 := by decide +kernel
theorem tyX12_ok : ∀ k, k < 52 → parseFieldDescriptor (TX12 k).2.2.1 = some (tyX12 k) := by decide +kernel
abbrev cX12_init : ByteArray := prog_14_method_1_code
def yX12_init : MethodName := ⟨RX12, "<init>", "()V"⟩
abbrev cX12_in : ByteArray := prog_14_method_3_code
def yX12_in : MethodName := ⟨RX12, "in", "(JJJ)Z"⟩
abbrev cX12_feed : ByteArray := prog_14_method_4_code
def yX12_feed : MethodName := ⟨RX12, "feed", "(J)I"⟩
abbrev cX12_end : ByteArray := prog_14_method_5_code
def yX12_end : MethodName := ⟨RX12, "end", "(I)I"⟩
abbrev cX12_fails : ByteArray := prog_14_method_6_code
def yX12_fails : MethodName := ⟨RX12, "fails", "(II)V"⟩
abbrev cX12_look : ByteArray := prog_14_method_7_code
def yX12_look : MethodName := ⟨RX12, "look", "()I"⟩
abbrev cX12_packed : ByteArray := prog_14_method_8_code
def yX12_packed : MethodName := ⟨RX12, "packed", "(IIIIII)J"⟩
abbrev cX12_named : ByteArray := prog_14_method_9_code
def yX12_named : MethodName := ⟨RX12, "named", "(J)I"⟩
abbrev cX12_next : ByteArray := prog_14_method_10_code
def yX12_next : MethodName := ⟨RX12, "next", "()V"⟩
abbrev cX12_taken : ByteArray := prog_14_method_11_code
def yX12_taken : MethodName := ⟨RX12, "taken", "(II)I"⟩
abbrev cX12_readEvent : ByteArray := prog_14_method_12_code
def yX12_readEvent : MethodName := ⟨RX12, "readEvent", "(I)V"⟩
abbrev cX12_readStage : ByteArray := prog_14_method_13_code
def yX12_readStage : MethodName := ⟨RX12, "readStage", "()V"⟩
abbrev cX12_readTrigger : ByteArray := prog_14_method_14_code
def yX12_readTrigger : MethodName := ⟨RX12, "readTrigger", "()V"⟩
abbrev cX12_trigger : ByteArray := prog_14_method_15_code
def yX12_trigger : MethodName := ⟨RX12, "trigger", "()I"⟩
abbrev cX12_fault : ByteArray := prog_14_method_16_code
def yX12_fault : MethodName := ⟨RX12, "fault", "()I"⟩
abbrev cX12_of : ByteArray := prog_14_method_17_code
def yX12_of : MethodName := ⟨RX12, "of", "(II)I"⟩
abbrev cX12_keep : ByteArray := prog_14_method_18_code
def yX12_keep : MethodName := ⟨RX12, "keep", "(II)I"⟩
abbrev cX12_arms : ByteArray := prog_14_method_19_code
def yX12_arms : MethodName := ⟨RX12, "arms", "()V"⟩
abbrev cX12_arm : ByteArray := prog_14_method_20_code
def yX12_arm : MethodName := ⟨RX12, "arm", "()I"⟩
abbrev cX12_high : ByteArray := prog_14_method_21_code
def yX12_high : MethodName := ⟨RX12, "high", "(III)I"⟩
abbrev cX12_isRunt : ByteArray := prog_14_method_22_code
def yX12_isRunt : MethodName := ⟨RX12, "isRunt", "(IIII)Z"⟩
abbrev cX12_happens : ByteArray := prog_14_method_23_code
def yX12_happens : MethodName := ⟨RX12, "happens", "(I)Z"⟩
abbrev cX12_follows : ByteArray := prog_14_method_24_code
def yX12_follows : MethodName := ⟨RX12, "follows", "(I)V"⟩
abbrev cX12_kept : ByteArray := prog_14_method_25_code
def yX12_kept : MethodName := ⟨RX12, "kept", "()V"⟩
abbrev cX12_takes : ByteArray := prog_14_method_26_code
def yX12_takes : MethodName := ⟨RX12, "takes", "(I)V"⟩
abbrev cX12_come : ByteArray := prog_14_method_27_code
def yX12_come : MethodName := ⟨RX12, "come", "(J)I"⟩
abbrev cX12_play : ByteArray := prog_14_method_28_code
def yX12_play : MethodName := ⟨RX12, "play", "(IIII)I"⟩
abbrev cX12_sample : ByteArray := prog_14_method_29_code
def yX12_sample : MethodName := ⟨RX12, "sample", "(II)I"⟩
abbrev cX12_told : ByteArray := prog_14_method_30_code
def yX12_told : MethodName := ⟨RX12, "told", "(I)I"⟩
abbrev cX12_isSegment : ByteArray := prog_14_method_31_code
def yX12_isSegment : MethodName := ⟨RX12, "isSegment", "(I)Z"⟩
abbrev cX12_segment : ByteArray := prog_14_method_32_code
def yX12_segment : MethodName := ⟨RX12, "segment", "(II)I"⟩
abbrev cX12_valueAt : ByteArray := prog_14_method_33_code
def yX12_valueAt : MethodName := ⟨RX12, "valueAt", "(III)I"⟩
abbrev cX12_at : ByteArray := prog_14_method_34_code
def yX12_at : MethodName := ⟨RX12, "at", "(III)I"⟩
abbrev cX12_drop : ByteArray := prog_14_method_35_code
def yX12_drop : MethodName := ⟨RX12, "drop", "()I"⟩
abbrev cX12_sheet : ByteArray := prog_14_method_36_code
def yX12_sheet : MethodName := ⟨RX12, "sheet", "(III)I"⟩
abbrev cX12_lay : ByteArray := prog_14_method_37_code
def yX12_lay : MethodName := ⟨RX12, "lay", "(III)I"⟩
abbrev cX12_mask : ByteArray := prog_14_method_38_code
def yX12_mask : MethodName := ⟨RX12, "mask", "(IIIIII)I"⟩
abbrev cX12_first : ByteArray := prog_14_method_39_code
def yX12_first : MethodName := ⟨RX12, "first", "()I"⟩
abbrev cX12_isRow : ByteArray := prog_14_method_40_code
def yX12_isRow : MethodName := ⟨RX12, "isRow", "(I)Z"⟩
abbrev cX12_row : ByteArray := prog_14_method_41_code
def yX12_row : MethodName := ⟨RX12, "row", "(III)I"⟩
abbrev cX12_single : ByteArray := prog_14_method_42_code
def yX12_single : MethodName := ⟨RX12, "single", "(IIII)V"⟩
abbrev cX12_reckon : ByteArray := prog_14_method_43_code
def yX12_reckon : MethodName := ⟨RX12, "reckon", "(IIIII)I"⟩
abbrev cX12_place : ByteArray := prog_14_method_44_code
def yX12_place : MethodName := ⟨RX12, "place", "(II)J"⟩
abbrev cX12_about : ByteArray := prog_14_method_45_code
def yX12_about : MethodName := ⟨RX12, "about", "(II)I"⟩
abbrev cX12_total : ByteArray := prog_14_method_46_code
def yX12_total : MethodName := ⟨RX12, "total", "(I)J"⟩
abbrev cX12_turns : ByteArray := prog_14_method_47_code
def yX12_turns : MethodName := ⟨RX12, "turns", "(IJI)I"⟩
abbrev cX12_down : ByteArray := prog_14_method_48_code
def yX12_down : MethodName := ⟨RX12, "down", "(JI)J"⟩
abbrev cX12_eye : ByteArray := prog_14_method_49_code
def yX12_eye : MethodName := ⟨RX12, "eye", "(IIIIJII)I"⟩
abbrev cX12_bit : ByteArray := prog_14_method_50_code
def yX12_bit : MethodName := ⟨RX12, "bit", "(III)I"⟩
abbrev cX12_gets : ByteArray := prog_14_method_51_code
def yX12_gets : MethodName := ⟨RX12, "gets", "(II)V"⟩
abbrev cX12_bytes : ByteArray := prog_14_method_52_code
def yX12_bytes : MethodName := ⟨RX12, "bytes", "(III)I"⟩
abbrev cX12_wires : ByteArray := prog_14_method_53_code
def yX12_wires : MethodName := ⟨RX12, "wires", "(III)I"⟩
abbrev cX12_got : ByteArray := prog_14_method_54_code
def yX12_got : MethodName := ⟨RX12, "got", "(I)I"⟩
abbrev cX12_when : ByteArray := prog_14_method_55_code
def yX12_when : MethodName := ⟨RX12, "when", "(I)I"⟩
abbrev cX12_frame : ByteArray := prog_14_method_56_code
def yX12_frame : MethodName := ⟨RX12, "frame", "(I)I"⟩
def RJ9 : String := "java/lang/Math"
abbrev cJ9_floorDiv_f86c9 : ByteArray := prog_15_method_49_code
def yJ9_floorDiv_f86c9 : MethodName := ⟨RJ9, "floorDiv", "(JJ)J"⟩
abbrev cJ9_floorMod_7cf53 : ByteArray := prog_15_method_50_code
def yJ9_floorMod_7cf53 : MethodName := ⟨RJ9, "floorMod", "(II)I"⟩
abbrev cJ9_max_7cf53 : ByteArray := prog_15_method_65_code
def yJ9_max_7cf53 : MethodName := ⟨RJ9, "max", "(II)I"⟩
abbrev cJ9_min_7cf53 : ByteArray := prog_15_method_69_code
def yJ9_min_7cf53 : MethodName := ⟨RJ9, "min", "(II)I"⟩
def RJ0 : String := "java/lang/String"
abbrev cJ0_length_8abf5 : ByteArray := prog_16_method_54_code
def yJ0_length_8abf5 : MethodName := ⟨RJ0, "length", "()I"⟩
abbrev cJ0_charAt_5068e : ByteArray := prog_16_method_56_code
def yJ0_charAt_5068e : MethodName := ⟨RJ0, "charAt", "(I)C"⟩
abbrev cJ0_coder_7d493 : ByteArray := prog_16_method_152_code
def yJ0_coder_7d493 : MethodName := ⟨RJ0, "coder", "()B"⟩
abbrev cJ0_isLatin1_aae02 : ByteArray := prog_16_method_154_code
def yJ0_isLatin1_aae02 : MethodName := ⟨RJ0, "isLatin1", "()Z"⟩
abbrev cJ0_checkIndex_df160 : ByteArray := prog_16_method_155_code
def yJ0_checkIndex_df160 : MethodName := ⟨RJ0, "checkIndex", "(II)V"⟩
def RJ1 : String := "java/lang/StringLatin1"
abbrev cJ1_charAt_3b067 : ByteArray := prog_17_method_2_code
def yJ1_charAt_3b067 : MethodName := ⟨RJ1, "charAt", "([BI)C"⟩
def RJ2 : String := "java/lang/StringUTF16"
abbrev cJ2_getChar_3b067 : ByteArray := prog_18_method_5_code
def yJ2_getChar_3b067 : MethodName := ⟨RJ2, "getChar", "([BI)C"⟩
abbrev cJ2_length_9d52b : ByteArray := prog_18_method_6_code
def yJ2_length_9d52b : MethodName := ⟨RJ2, "length", "([B)I"⟩
abbrev cJ2_charAt_3b067 : ByteArray := prog_18_method_83_code
def yJ2_charAt_3b067 : MethodName := ⟨RJ2, "charAt", "([BI)C"⟩
abbrev cJ2_checkIndex_2214a : ByteArray := prog_18_method_91_code
def yJ2_checkIndex_2214a : MethodName := ⟨RJ2, "checkIndex", "(I[B)V"⟩
def RJ3 : String := "jdk/internal/util/Preconditions"
abbrev cJ3_checkIndex_8e157 : ByteArray := prog_19_method_11_code
def yJ3_checkIndex_8e157 : MethodName := ⟨RJ3, "checkIndex", "(IILjava/util/function/BiFunction;)I"⟩
def RL : String := "TraceBenchLaw"
abbrev cL_law : ByteArray := code
def yL_law : MethodName := ⟨RL, "law", "([I)Z"⟩
abbrev vwCl : List vw_C := [(RX0, TX0, 2), (RX1, TX1, 5), (RX2, TX2, 2), (RX3, TX3, 3), (RX4, TX4, 13), (RX5, TX5, 4), (RX6, TX6, 3), (RX7, TX7, 10), (RX8, TX8, 2), (RX9, TX9, 6), (RX10, TX10, 8), (RX11, TX11, 7), (RX12, TX12, 52)]
end
section
theorem dX0_init_0 : decode cX0_init 0 = .ok (.aload_n 0, 1) := by decide +kernel
theorem dX0_init_1 : decode cX0_init 1 = .ok (.invokespecial 3, 3) := by decide +kernel
theorem dX0_init_4 : decode cX0_init 4 = .ok (.aload_n 0, 1) := by decide +kernel
theorem dX0_init_5 : decode cX0_init 5 = .ok (.bipush 6, 2) := by decide +kernel
theorem dX0_init_7 : decode cX0_init 7 = .ok (.anewarray 9, 3) := by decide +kernel
theorem dX0_init_10 : decode cX0_init 10 = .ok (.putfield 11, 3) := by decide +kernel
theorem dX0_init_13 : decode cX0_init 13 = .ok (.iconst 0, 1) := by decide +kernel
theorem dX0_init_14 : decode cX0_init 14 = .ok (.istore_n 1, 1) := by decide +kernel
theorem dX0_init_15 : decode cX0_init 15 = .ok (.iload_n 1, 1) := by decide +kernel
theorem dX0_init_16 : decode cX0_init 16 = .ok (.bipush 6, 2) := by decide +kernel
theorem dX0_init_18 : decode cX0_init 18 = .ok (.if_icmp .ge 22, 3) := by decide +kernel
theorem dX0_init_21 : decode cX0_init 21 = .ok (.aload_n 0, 1) := by decide +kernel
theorem dX0_init_22 : decode cX0_init 22 = .ok (.getfield 11, 3) := by decide +kernel
theorem dX0_init_25 : decode cX0_init 25 = .ok (.iload_n 1, 1) := by decide +kernel
theorem dX0_init_26 : decode cX0_init 26 = .ok (.new 9, 3) := by decide +kernel
theorem dX0_init_29 : decode cX0_init 29 = .ok (.dup, 1) := by decide +kernel
theorem dX0_init_30 : decode cX0_init 30 = .ok (.invokespecial 17, 3) := by decide +kernel
theorem dX0_init_33 : decode cX0_init 33 = .ok (.aastore, 1) := by decide +kernel
theorem dX0_init_34 : decode cX0_init 34 = .ok (.iinc 1 1, 3) := by decide +kernel
theorem dX0_init_37 : decode cX0_init 37 = .ok (.goto (-22), 3) := by decide +kernel
theorem dX0_init_40 : decode cX0_init 40 = .ok (.return_, 1) := by decide +kernel
theorem dX0_forgetHighs_0 : decode cX0_forgetHighs 0 = .ok (.iconst 0, 1) := by decide +kernel
theorem dX0_forgetHighs_1 : decode cX0_forgetHighs 1 = .ok (.istore_n 1, 1) := by decide +kernel
theorem dX0_forgetHighs_2 : decode cX0_forgetHighs 2 = .ok (.iload_n 1, 1) := by decide +kernel
theorem dX0_forgetHighs_3 : decode cX0_forgetHighs 3 = .ok (.aload_n 0, 1) := by decide +kernel
theorem dX0_forgetHighs_4 : decode cX0_forgetHighs 4 = .ok (.getfield 18, 3) := by decide +kernel
theorem dX0_forgetHighs_7 : decode cX0_forgetHighs 7 = .ok (.if_icmp .ge 19, 3) := by decide +kernel
theorem dX0_forgetHighs_10 : decode cX0_forgetHighs 10 = .ok (.aload_n 0, 1) := by decide +kernel
theorem dX0_forgetHighs_11 : decode cX0_forgetHighs 11 = .ok (.getfield 11, 3) := by decide +kernel
theorem dX0_forgetHighs_14 : decode cX0_forgetHighs 14 = .ok (.iload_n 1, 1) := by decide +kernel
theorem dX0_forgetHighs_15 : decode cX0_forgetHighs 15 = .ok (.aaload, 1) := by decide +kernel
theorem dX0_forgetHighs_16 : decode cX0_forgetHighs 16 = .ok (.iconst 0, 1) := by decide +kernel
theorem dX0_forgetHighs_17 : decode cX0_forgetHighs 17 = .ok (.putfield 22, 3) := by decide +kernel
theorem dX0_forgetHighs_20 : decode cX0_forgetHighs 20 = .ok (.iinc 1 1, 3) := by decide +kernel
theorem dX0_forgetHighs_23 : decode cX0_forgetHighs 23 = .ok (.goto (-21), 3) := by decide +kernel
theorem dX0_forgetHighs_26 : decode cX0_forgetHighs 26 = .ok (.return_, 1) := by decide +kernel
theorem dX0_followHighs_0 : decode cX0_followHighs 0 = .ok (.iconst 0, 1) := by decide +kernel
theorem dX0_followHighs_1 : decode cX0_followHighs 1 = .ok (.istore_n 3, 1) := by decide +kernel
theorem dX0_followHighs_2 : decode cX0_followHighs 2 = .ok (.iload_n 3, 1) := by decide +kernel
theorem dX0_followHighs_3 : decode cX0_followHighs 3 = .ok (.aload_n 0, 1) := by decide +kernel
theorem dX0_followHighs_4 : decode cX0_followHighs 4 = .ok (.getfield 18, 3) := by decide +kernel
theorem dX0_followHighs_7 : decode cX0_followHighs 7 = .ok (.if_icmp .ge 20, 3) := by decide +kernel
theorem dX0_followHighs_10 : decode cX0_followHighs 10 = .ok (.aload_n 0, 1) := by decide +kernel
theorem dX0_followHighs_11 : decode cX0_followHighs 11 = .ok (.getfield 11, 3) := by decide +kernel
theorem dX0_followHighs_14 : decode cX0_followHighs 14 = .ok (.iload_n 3, 1) := by decide +kernel
theorem dX0_followHighs_15 : decode cX0_followHighs 15 = .ok (.aaload, 1) := by decide +kernel
theorem dX0_followHighs_16 : decode cX0_followHighs 16 = .ok (.iload_n 1, 1) := by decide +kernel
theorem dX0_followHighs_17 : decode cX0_followHighs 17 = .ok (.iload_n 2, 1) := by decide +kernel
theorem dX0_followHighs_18 : decode cX0_followHighs 18 = .ok (.invokevirtual 25, 3) := by decide +kernel
theorem dX0_followHighs_21 : decode cX0_followHighs 21 = .ok (.iinc 3 1, 3) := by decide +kernel
theorem dX0_followHighs_24 : decode cX0_followHighs 24 = .ok (.goto (-22), 3) := by decide +kernel
theorem dX0_followHighs_27 : decode cX0_followHighs 27 = .ok (.return_, 1) := by decide +kernel
theorem dX1_init_0 : decode cX1_init 0 = .ok (.aload_n 0, 1) := by decide +kernel
theorem dX1_init_1 : decode cX1_init 1 = .ok (.invokespecial 3, 3) := by decide +kernel
theorem dX1_init_4 : decode cX1_init 4 = .ok (.aload_n 0, 1) := by decide +kernel
theorem dX1_init_5 : decode cX1_init 5 = .ok (.aload_n 1, 1) := by decide +kernel
theorem dX1_init_6 : decode cX1_init 6 = .ok (.putfield 9, 3) := by decide +kernel
theorem dX1_init_9 : decode cX1_init 9 = .ok (.return_, 1) := by decide +kernel
theorem dX1_readPlan_0 : decode cX1_readPlan 0 = .ok (.aload_n 0, 1) := by decide +kernel
theorem dX1_readPlan_1 : decode cX1_readPlan 1 = .ok (.iconst 0, 1) := by decide +kernel
theorem dX1_readPlan_2 : decode cX1_readPlan 2 = .ok (.putfield 15, 3) := by decide +kernel
theorem dX1_readPlan_5 : decode cX1_readPlan 5 = .ok (.aload_n 0, 1) := by decide +kernel
theorem dX1_readPlan_6 : decode cX1_readPlan 6 = .ok (.iconst 0, 1) := by decide +kernel
theorem dX1_readPlan_7 : decode cX1_readPlan 7 = .ok (.putfield 19, 3) := by decide +kernel
theorem dX1_readPlan_10 : decode cX1_readPlan 10 = .ok (.aload_n 0, 1) := by decide +kernel
theorem dX1_readPlan_11 : decode cX1_readPlan 11 = .ok (.iconst 0, 1) := by decide +kernel
theorem dX1_readPlan_12 : decode cX1_readPlan 12 = .ok (.putfield 22, 3) := by decide +kernel
theorem dX1_readPlan_15 : decode cX1_readPlan 15 = .ok (.aload_n 1, 1) := by decide +kernel
theorem dX1_readPlan_16 : decode cX1_readPlan 16 = .ok (.iconst 0, 1) := by decide +kernel
theorem dX1_readPlan_17 : decode cX1_readPlan 17 = .ok (.putfield 25, 3) := by decide +kernel
theorem dX1_readPlan_20 : decode cX1_readPlan 20 = .ok (.iconst 0, 1) := by decide +kernel
theorem dX1_readPlan_21 : decode cX1_readPlan 21 = .ok (.istore_n 2, 1) := by decide +kernel
theorem dX1_readPlan_22 : decode cX1_readPlan 22 = .ok (.iload_n 2, 1) := by decide +kernel
theorem dX1_readPlan_23 : decode cX1_readPlan 23 = .ok (.bipush 6, 2) := by decide +kernel
theorem dX1_readPlan_25 : decode cX1_readPlan 25 = .ok (.if_icmp .ge 51, 3) := by decide +kernel
theorem dX1_readPlan_28 : decode cX1_readPlan 28 = .ok (.aload_n 0, 1) := by decide +kernel
theorem dX1_readPlan_29 : decode cX1_readPlan 29 = .ok (.aload_n 1, 1) := by decide +kernel
theorem dX1_readPlan_30 : decode cX1_readPlan 30 = .ok (.getfield 30, 3) := by decide +kernel
theorem dX1_readPlan_33 : decode cX1_readPlan 33 = .ok (.iload_n 2, 1) := by decide +kernel
theorem dX1_readPlan_34 : decode cX1_readPlan 34 = .ok (.aaload, 1) := by decide +kernel
theorem dX1_readPlan_35 : decode cX1_readPlan 35 = .ok (.invokevirtual 34, 3) := by decide +kernel
theorem dX1_readPlan_38 : decode cX1_readPlan 38 = .ok (.ifCond .ne 5, 3) := by decide +kernel
theorem dX1_readPlan_41 : decode cX1_readPlan 41 = .ok (.iconst 0, 1) := by decide +kernel
theorem dX1_readPlan_42 : decode cX1_readPlan 42 = .ok (.ireturn, 1) := by decide +kernel
theorem dX1_readPlan_43 : decode cX1_readPlan 43 = .ok (.aload_n 1, 1) := by decide +kernel
theorem dX1_readPlan_44 : decode cX1_readPlan 44 = .ok (.iload_n 2, 1) := by decide +kernel
theorem dX1_readPlan_45 : decode cX1_readPlan 45 = .ok (.iconst 1, 1) := by decide +kernel
theorem dX1_readPlan_46 : decode cX1_readPlan 46 = .ok (.iadd, 1) := by decide +kernel
theorem dX1_readPlan_47 : decode cX1_readPlan 47 = .ok (.putfield 25, 3) := by decide +kernel
theorem dX1_readPlan_50 : decode cX1_readPlan 50 = .ok (.aload_n 0, 1) := by decide +kernel
theorem dX1_readPlan_51 : decode cX1_readPlan 51 = .ok (.iconst 0, 1) := by decide +kernel
theorem dX1_readPlan_52 : decode cX1_readPlan 52 = .ok (.invokevirtual 40, 3) := by decide +kernel
theorem dX1_readPlan_55 : decode cX1_readPlan 55 = .ok (.ifCond .eq 5, 3) := by decide +kernel
theorem dX1_readPlan_58 : decode cX1_readPlan 58 = .ok (.iconst 1, 1) := by decide +kernel
theorem dX1_readPlan_59 : decode cX1_readPlan 59 = .ok (.ireturn, 1) := by decide +kernel
theorem dX1_readPlan_60 : decode cX1_readPlan 60 = .ok (.aload_n 0, 1) := by decide +kernel
theorem dX1_readPlan_61 : decode cX1_readPlan 61 = .ok (.iconst 4, 1) := by decide +kernel
theorem dX1_readPlan_62 : decode cX1_readPlan 62 = .ok (.invokevirtual 44, 3) := by decide +kernel
theorem dX1_readPlan_65 : decode cX1_readPlan 65 = .ok (.ifCond .ne 5, 3) := by decide +kernel
theorem dX1_readPlan_68 : decode cX1_readPlan 68 = .ok (.iconst 0, 1) := by decide +kernel
theorem dX1_readPlan_69 : decode cX1_readPlan 69 = .ok (.ireturn, 1) := by decide +kernel
theorem dX1_readPlan_70 : decode cX1_readPlan 70 = .ok (.iinc 2 1, 3) := by decide +kernel
theorem dX1_readPlan_73 : decode cX1_readPlan 73 = .ok (.goto (-51), 3) := by decide +kernel
theorem dX1_readPlan_76 : decode cX1_readPlan 76 = .ok (.aload_n 0, 1) := by decide +kernel
theorem dX1_readPlan_77 : decode cX1_readPlan 77 = .ok (.iconst 4, 1) := by decide +kernel
theorem dX1_readPlan_78 : decode cX1_readPlan 78 = .ok (.invokevirtual 47, 3) := by decide +kernel
theorem dX1_readPlan_81 : decode cX1_readPlan 81 = .ok (.ireturn, 1) := by decide +kernel
theorem dX1_readStage_0 : decode cX1_readStage 0 = .ok (.aload_n 1, 1) := by decide +kernel
theorem dX1_readStage_1 : decode cX1_readStage 1 = .ok (.iconst 1, 1) := by decide +kernel
theorem dX1_readStage_2 : decode cX1_readStage 2 = .ok (.putfield 50, 3) := by decide +kernel
theorem dX1_readStage_5 : decode cX1_readStage 5 = .ok (.aload_n 0, 1) := by decide +kernel
theorem dX1_readStage_6 : decode cX1_readStage 6 = .ok (.iconst 2, 1) := by decide +kernel
theorem dX1_readStage_7 : decode cX1_readStage 7 = .ok (.invokevirtual 40, 3) := by decide +kernel
theorem dX1_readStage_10 : decode cX1_readStage 10 = .ok (.ifCond .eq 36, 3) := by decide +kernel
theorem dX1_readStage_13 : decode cX1_readStage 13 = .ok (.aload_n 0, 1) := by decide +kernel
theorem dX1_readStage_14 : decode cX1_readStage 14 = .ok (.iconst 1, 1) := by decide +kernel
theorem dX1_readStage_15 : decode cX1_readStage 15 = .ok (.bipush 20, 2) := by decide +kernel
theorem dX1_readStage_17 : decode cX1_readStage 17 = .ok (.sipush (-1000), 3) := by decide +kernel
theorem dX1_readStage_20 : decode cX1_readStage 20 = .ok (.invokevirtual 55, 3) := by decide +kernel
theorem dX1_readStage_23 : decode cX1_readStage 23 = .ok (.ifCond .ne 5, 3) := by decide +kernel
theorem dX1_readStage_26 : decode cX1_readStage 26 = .ok (.iconst 0, 1) := by decide +kernel
theorem dX1_readStage_27 : decode cX1_readStage 27 = .ok (.ireturn, 1) := by decide +kernel
theorem dX1_readStage_28 : decode cX1_readStage 28 = .ok (.aload_n 1, 1) := by decide +kernel
theorem dX1_readStage_29 : decode cX1_readStage 29 = .ok (.aload_n 0, 1) := by decide +kernel
theorem dX1_readStage_30 : decode cX1_readStage 30 = .ok (.getfield 59, 3) := by decide +kernel
theorem dX1_readStage_33 : decode cX1_readStage 33 = .ok (.putfield 50, 3) := by decide +kernel
theorem dX1_readStage_36 : decode cX1_readStage 36 = .ok (.aload_n 0, 1) := by decide +kernel
theorem dX1_readStage_37 : decode cX1_readStage 37 = .ok (.iconst 3, 1) := by decide +kernel
theorem dX1_readStage_38 : decode cX1_readStage 38 = .ok (.invokevirtual 44, 3) := by decide +kernel
theorem dX1_readStage_41 : decode cX1_readStage 41 = .ok (.ifCond .ne 5, 3) := by decide +kernel
theorem dX1_readStage_44 : decode cX1_readStage 44 = .ok (.iconst 0, 1) := by decide +kernel
theorem dX1_readStage_45 : decode cX1_readStage 45 = .ok (.ireturn, 1) := by decide +kernel
theorem dX1_readStage_46 : decode cX1_readStage 46 = .ok (.aload_n 0, 1) := by decide +kernel
theorem dX1_readStage_47 : decode cX1_readStage 47 = .ok (.invokevirtual 62, 3) := by decide +kernel
theorem dX1_readStage_50 : decode cX1_readStage 50 = .ok (.ifCond .eq 9, 3) := by decide +kernel
theorem dX1_readStage_53 : decode cX1_readStage 53 = .ok (.aload_n 0, 1) := by decide +kernel
theorem dX1_readStage_54 : decode cX1_readStage 54 = .ok (.iconst 2, 1) := by decide +kernel
theorem dX1_readStage_55 : decode cX1_readStage 55 = .ok (.invokevirtual 47, 3) := by decide +kernel
theorem dX1_readStage_58 : decode cX1_readStage 58 = .ok (.ireturn, 1) := by decide +kernel
theorem dX1_readStage_59 : decode cX1_readStage 59 = .ok (.aload_n 0, 1) := by decide +kernel
theorem dX1_readStage_60 : decode cX1_readStage 60 = .ok (.iconst 1, 1) := by decide +kernel
theorem dX1_readStage_61 : decode cX1_readStage 61 = .ok (.invokevirtual 44, 3) := by decide +kernel
theorem dX1_readStage_64 : decode cX1_readStage 64 = .ok (.ifCond .ne 5, 3) := by decide +kernel
theorem dX1_readStage_67 : decode cX1_readStage 67 = .ok (.iconst 0, 1) := by decide +kernel
theorem dX1_readStage_68 : decode cX1_readStage 68 = .ok (.ireturn, 1) := by decide +kernel
theorem dX1_readStage_69 : decode cX1_readStage 69 = .ok (.aload_n 1, 1) := by decide +kernel
theorem dX1_readStage_70 : decode cX1_readStage 70 = .ok (.aload_n 0, 1) := by decide +kernel
theorem dX1_readStage_71 : decode cX1_readStage 71 = .ok (.getfield 59, 3) := by decide +kernel
theorem dX1_readStage_74 : decode cX1_readStage 74 = .ok (.putfield 66, 3) := by decide +kernel
theorem dX1_readStage_77 : decode cX1_readStage 77 = .ok (.aload_n 0, 1) := by decide +kernel
theorem dX1_readStage_78 : decode cX1_readStage 78 = .ok (.aload_n 1, 1) := by decide +kernel
theorem dX1_readStage_79 : decode cX1_readStage 79 = .ok (.invokevirtual 69, 3) := by decide +kernel
theorem dX1_readStage_82 : decode cX1_readStage 82 = .ok (.ifCond .eq 15, 3) := by decide +kernel
theorem dX1_readStage_85 : decode cX1_readStage 85 = .ok (.aload_n 0, 1) := by decide +kernel
theorem dX1_readStage_86 : decode cX1_readStage 86 = .ok (.aload_n 1, 1) := by decide +kernel
theorem dX1_readStage_87 : decode cX1_readStage 87 = .ok (.invokevirtual 72, 3) := by decide +kernel
theorem dX1_readStage_90 : decode cX1_readStage 90 = .ok (.ifCond .eq 7, 3) := by decide +kernel
theorem dX1_readStage_93 : decode cX1_readStage 93 = .ok (.iconst 1, 1) := by decide +kernel
theorem dX1_readStage_94 : decode cX1_readStage 94 = .ok (.goto 4, 3) := by decide +kernel
theorem dX1_readStage_97 : decode cX1_readStage 97 = .ok (.iconst 0, 1) := by decide +kernel
theorem dX1_readStage_98 : decode cX1_readStage 98 = .ok (.ireturn, 1) := by decide +kernel
theorem dX1_readOperands_0 : decode cX1_readOperands 0 = .ok (.aload_n 0, 1) := by decide +kernel
theorem dX1_readOperands_1 : decode cX1_readOperands 1 = .ok (.iconst 0, 1) := by decide +kernel
theorem dX1_readOperands_2 : decode cX1_readOperands 2 = .ok (.iconst 3, 1) := by decide +kernel
theorem dX1_readOperands_3 : decode cX1_readOperands 3 = .ok (.sipush (-1000), 3) := by decide +kernel
theorem dX1_readOperands_6 : decode cX1_readOperands 6 = .ok (.invokevirtual 55, 3) := by decide +kernel
theorem dX1_readOperands_9 : decode cX1_readOperands 9 = .ok (.ifCond .ne 5, 3) := by decide +kernel
theorem dX1_readOperands_12 : decode cX1_readOperands 12 = .ok (.iconst 0, 1) := by decide +kernel
theorem dX1_readOperands_13 : decode cX1_readOperands 13 = .ok (.ireturn, 1) := by decide +kernel
theorem dX1_readOperands_14 : decode cX1_readOperands 14 = .ok (.aload_n 1, 1) := by decide +kernel
theorem dX1_readOperands_15 : decode cX1_readOperands 15 = .ok (.aload_n 0, 1) := by decide +kernel
theorem dX1_readOperands_16 : decode cX1_readOperands 16 = .ok (.getfield 59, 3) := by decide +kernel
theorem dX1_readOperands_19 : decode cX1_readOperands 19 = .ok (.putfield 75, 3) := by decide +kernel
theorem dX1_readOperands_22 : decode cX1_readOperands 22 = .ok (.aload_n 1, 1) := by decide +kernel
theorem dX1_readOperands_23 : decode cX1_readOperands 23 = .ok (.getfield 66, 3) := by decide +kernel
theorem dX1_readOperands_26 : decode cX1_readOperands 26 = .ok (.bipush 7, 2) := by decide +kernel
theorem dX1_readOperands_28 : decode cX1_readOperands 28 = .ok (.if_icmp .ne 15, 3) := by decide +kernel
theorem dX1_readOperands_31 : decode cX1_readOperands 31 = .ok (.aload_n 0, 1) := by decide +kernel
theorem dX1_readOperands_32 : decode cX1_readOperands 32 = .ok (.iconst 0, 1) := by decide +kernel
theorem dX1_readOperands_33 : decode cX1_readOperands 33 = .ok (.iconst 3, 1) := by decide +kernel
theorem dX1_readOperands_34 : decode cX1_readOperands 34 = .ok (.sipush (-1000), 3) := by decide +kernel
theorem dX1_readOperands_37 : decode cX1_readOperands 37 = .ok (.invokevirtual 55, 3) := by decide +kernel
theorem dX1_readOperands_40 : decode cX1_readOperands 40 = .ok (.goto 14, 3) := by decide +kernel
theorem dX1_readOperands_43 : decode cX1_readOperands 43 = .ok (.aload_n 0, 1) := by decide +kernel
theorem dX1_readOperands_44 : decode cX1_readOperands 44 = .ok (.bipush (-128), 2) := by decide +kernel
theorem dX1_readOperands_46 : decode cX1_readOperands 46 = .ok (.bipush 127, 2) := by decide +kernel
theorem dX1_readOperands_48 : decode cX1_readOperands 48 = .ok (.sipush (-1000), 3) := by decide +kernel
theorem dX1_readOperands_51 : decode cX1_readOperands 51 = .ok (.invokevirtual 55, 3) := by decide +kernel
theorem dX1_readOperands_54 : decode cX1_readOperands 54 = .ok (.istore_n 2, 1) := by decide +kernel
theorem dX1_readOperands_55 : decode cX1_readOperands 55 = .ok (.aload_n 1, 1) := by decide +kernel
theorem dX1_readOperands_56 : decode cX1_readOperands 56 = .ok (.aload_n 0, 1) := by decide +kernel
theorem dX1_readOperands_57 : decode cX1_readOperands 57 = .ok (.getfield 59, 3) := by decide +kernel
theorem dX1_readOperands_60 : decode cX1_readOperands 60 = .ok (.putfield 78, 3) := by decide +kernel
theorem dX1_readOperands_63 : decode cX1_readOperands 63 = .ok (.aload_n 1, 1) := by decide +kernel
theorem dX1_readOperands_64 : decode cX1_readOperands 64 = .ok (.aload_n 0, 1) := by decide +kernel
theorem dX1_readOperands_65 : decode cX1_readOperands 65 = .ok (.getfield 59, 3) := by decide +kernel
theorem dX1_readOperands_68 : decode cX1_readOperands 68 = .ok (.putfield 81, 3) := by decide +kernel
theorem dX1_readOperands_71 : decode cX1_readOperands 71 = .ok (.iload_n 2, 1) := by decide +kernel
theorem dX1_readOperands_72 : decode cX1_readOperands 72 = .ok (.ifCond .eq 15, 3) := by decide +kernel
theorem dX1_readOperands_75 : decode cX1_readOperands 75 = .ok (.aload_n 0, 1) := by decide +kernel
theorem dX1_readOperands_76 : decode cX1_readOperands 76 = .ok (.aload_n 1, 1) := by decide +kernel
theorem dX1_readOperands_77 : decode cX1_readOperands 77 = .ok (.invokevirtual 84, 3) := by decide +kernel
theorem dX1_readOperands_80 : decode cX1_readOperands 80 = .ok (.ifCond .eq 7, 3) := by decide +kernel
theorem dX1_readOperands_83 : decode cX1_readOperands 83 = .ok (.iconst 1, 1) := by decide +kernel
theorem dX1_readOperands_84 : decode cX1_readOperands 84 = .ok (.goto 4, 3) := by decide +kernel
theorem dX1_readOperands_87 : decode cX1_readOperands 87 = .ok (.iconst 0, 1) := by decide +kernel
theorem dX1_readOperands_88 : decode cX1_readOperands 88 = .ok (.ireturn, 1) := by decide +kernel
theorem dX1_readThird_0 : decode cX1_readThird 0 = .ok (.iconst 1, 1) := by decide +kernel
theorem dX1_readThird_1 : decode cX1_readThird 1 = .ok (.istore_n 2, 1) := by decide +kernel
theorem dX1_readThird_2 : decode cX1_readThird 2 = .ok (.aload_n 1, 1) := by decide +kernel
theorem dX1_readThird_3 : decode cX1_readThird 3 = .ok (.getfield 66, 3) := by decide +kernel
theorem dX1_readThird_6 : decode cX1_readThird 6 = .ok (.tableswitch 81 2 6 #[34, 34, 57, 57, 57], 34) := by decide +kernel
theorem dX1_readThird_40 : decode cX1_readThird 40 = .ok (.aload_n 0, 1) := by decide +kernel
theorem dX1_readThird_41 : decode cX1_readThird 41 = .ok (.iconst 1, 1) := by decide +kernel
theorem dX1_readThird_42 : decode cX1_readThird 42 = .ok (.sipush 200, 3) := by decide +kernel
theorem dX1_readThird_45 : decode cX1_readThird 45 = .ok (.sipush (-1000), 3) := by decide +kernel
theorem dX1_readThird_48 : decode cX1_readThird 48 = .ok (.invokevirtual 55, 3) := by decide +kernel
theorem dX1_readThird_51 : decode cX1_readThird 51 = .ok (.istore_n 2, 1) := by decide +kernel
theorem dX1_readThird_52 : decode cX1_readThird 52 = .ok (.aload_n 1, 1) := by decide +kernel
theorem dX1_readThird_53 : decode cX1_readThird 53 = .ok (.aload_n 0, 1) := by decide +kernel
theorem dX1_readThird_54 : decode cX1_readThird 54 = .ok (.getfield 59, 3) := by decide +kernel
theorem dX1_readThird_57 : decode cX1_readThird 57 = .ok (.putfield 87, 3) := by decide +kernel
theorem dX1_readThird_60 : decode cX1_readThird 60 = .ok (.goto 27, 3) := by decide +kernel
theorem dX1_readThird_63 : decode cX1_readThird 63 = .ok (.aload_n 0, 1) := by decide +kernel
theorem dX1_readThird_64 : decode cX1_readThird 64 = .ok (.bipush (-128), 2) := by decide +kernel
theorem dX1_readThird_66 : decode cX1_readThird 66 = .ok (.bipush 127, 2) := by decide +kernel
theorem dX1_readThird_68 : decode cX1_readThird 68 = .ok (.aload_n 1, 1) := by decide +kernel
theorem dX1_readThird_69 : decode cX1_readThird 69 = .ok (.getfield 81, 3) := by decide +kernel
theorem dX1_readThird_72 : decode cX1_readThird 72 = .ok (.invokevirtual 55, 3) := by decide +kernel
theorem dX1_readThird_75 : decode cX1_readThird 75 = .ok (.istore_n 2, 1) := by decide +kernel
theorem dX1_readThird_76 : decode cX1_readThird 76 = .ok (.aload_n 1, 1) := by decide +kernel
theorem dX1_readThird_77 : decode cX1_readThird 77 = .ok (.aload_n 0, 1) := by decide +kernel
theorem dX1_readThird_78 : decode cX1_readThird 78 = .ok (.getfield 59, 3) := by decide +kernel
theorem dX1_readThird_81 : decode cX1_readThird 81 = .ok (.putfield 90, 3) := by decide +kernel
theorem dX1_readThird_84 : decode cX1_readThird 84 = .ok (.goto 3, 3) := by decide +kernel
theorem dX1_readThird_87 : decode cX1_readThird 87 = .ok (.iload_n 2, 1) := by decide +kernel
theorem dX1_readThird_88 : decode cX1_readThird 88 = .ok (.ireturn, 1) := by decide +kernel
theorem dX1_readWithin_0 : decode cX1_readWithin 0 = .ok (.aload_n 1, 1) := by decide +kernel
theorem dX1_readWithin_1 : decode cX1_readWithin 1 = .ok (.iconst 0, 1) := by decide +kernel
theorem dX1_readWithin_2 : decode cX1_readWithin 2 = .ok (.putfield 93, 3) := by decide +kernel
theorem dX1_readWithin_5 : decode cX1_readWithin 5 = .ok (.aload_n 0, 1) := by decide +kernel
theorem dX1_readWithin_6 : decode cX1_readWithin 6 = .ok (.invokevirtual 62, 3) := by decide +kernel
theorem dX1_readWithin_9 : decode cX1_readWithin 9 = .ok (.ifCond .ne 5, 3) := by decide +kernel
theorem dX1_readWithin_12 : decode cX1_readWithin 12 = .ok (.iconst 1, 1) := by decide +kernel
theorem dX1_readWithin_13 : decode cX1_readWithin 13 = .ok (.ireturn, 1) := by decide +kernel
theorem dX1_readWithin_14 : decode cX1_readWithin 14 = .ok (.aload_n 0, 1) := by decide +kernel
theorem dX1_readWithin_15 : decode cX1_readWithin 15 = .ok (.dup, 1) := by decide +kernel
theorem dX1_readWithin_16 : decode cX1_readWithin 16 = .ok (.getfield 22, 3) := by decide +kernel
theorem dX1_readWithin_19 : decode cX1_readWithin 19 = .ok (.iconst 1, 1) := by decide +kernel
theorem dX1_readWithin_20 : decode cX1_readWithin 20 = .ok (.iadd, 1) := by decide +kernel
theorem dX1_readWithin_21 : decode cX1_readWithin 21 = .ok (.putfield 22, 3) := by decide +kernel
theorem dX1_readWithin_24 : decode cX1_readWithin 24 = .ok (.aload_n 0, 1) := by decide +kernel
theorem dX1_readWithin_25 : decode cX1_readWithin 25 = .ok (.iconst 1, 1) := by decide +kernel
theorem dX1_readWithin_26 : decode cX1_readWithin 26 = .ok (.sipush 200, 3) := by decide +kernel
theorem dX1_readWithin_29 : decode cX1_readWithin 29 = .ok (.sipush (-1000), 3) := by decide +kernel
theorem dX1_readWithin_32 : decode cX1_readWithin 32 = .ok (.invokevirtual 55, 3) := by decide +kernel
theorem dX1_readWithin_35 : decode cX1_readWithin 35 = .ok (.istore_n 2, 1) := by decide +kernel
theorem dX1_readWithin_36 : decode cX1_readWithin 36 = .ok (.aload_n 1, 1) := by decide +kernel
theorem dX1_readWithin_37 : decode cX1_readWithin 37 = .ok (.aload_n 0, 1) := by decide +kernel
theorem dX1_readWithin_38 : decode cX1_readWithin 38 = .ok (.getfield 59, 3) := by decide +kernel
theorem dX1_readWithin_41 : decode cX1_readWithin 41 = .ok (.putfield 93, 3) := by decide +kernel
theorem dX1_readWithin_44 : decode cX1_readWithin 44 = .ok (.iload_n 2, 1) := by decide +kernel
theorem dX1_readWithin_45 : decode cX1_readWithin 45 = .ok (.ireturn, 1) := by decide +kernel
theorem dX1_sees_0 : decode cX1_sees 0 = .ok (.aload_n 0, 1) := by decide +kernel
theorem dX1_sees_1 : decode cX1_sees 1 = .ok (.getfield 22, 3) := by decide +kernel
theorem dX1_sees_4 : decode cX1_sees 4 = .ok (.aload_n 0, 1) := by decide +kernel
theorem dX1_sees_5 : decode cX1_sees 5 = .ok (.getfield 9, 3) := by decide +kernel
theorem dX1_sees_8 : decode cX1_sees 8 = .ok (.getfield 96, 3) := by decide +kernel
theorem dX1_sees_11 : decode cX1_sees 11 = .ok (.if_icmp .ge 23, 3) := by decide +kernel
theorem dX1_sees_14 : decode cX1_sees 14 = .ok (.aload_n 0, 1) := by decide +kernel
theorem dX1_sees_15 : decode cX1_sees 15 = .ok (.getfield 9, 3) := by decide +kernel
theorem dX1_sees_18 : decode cX1_sees 18 = .ok (.getfield 99, 3) := by decide +kernel
theorem dX1_sees_21 : decode cX1_sees 21 = .ok (.aload_n 0, 1) := by decide +kernel
theorem dX1_sees_22 : decode cX1_sees 22 = .ok (.getfield 22, 3) := by decide +kernel
theorem dX1_sees_25 : decode cX1_sees 25 = .ok (.iaload, 1) := by decide +kernel
theorem dX1_sees_26 : decode cX1_sees 26 = .ok (.iload_n 1, 1) := by decide +kernel
theorem dX1_sees_27 : decode cX1_sees 27 = .ok (.if_icmp .ne 7, 3) := by decide +kernel
theorem dX1_sees_30 : decode cX1_sees 30 = .ok (.iconst 1, 1) := by decide +kernel
theorem dX1_sees_31 : decode cX1_sees 31 = .ok (.goto 4, 3) := by decide +kernel
theorem dX1_sees_34 : decode cX1_sees 34 = .ok (.iconst 0, 1) := by decide +kernel
theorem dX1_sees_35 : decode cX1_sees 35 = .ok (.ireturn, 1) := by decide +kernel
theorem dX1_seesWithin_0 : decode cX1_seesWithin 0 = .ok (.aload_n 0, 1) := by decide +kernel
theorem dX1_seesWithin_1 : decode cX1_seesWithin 1 = .ok (.iconst 1, 1) := by decide +kernel
theorem dX1_seesWithin_2 : decode cX1_seesWithin 2 = .ok (.invokevirtual 40, 3) := by decide +kernel
theorem dX1_seesWithin_5 : decode cX1_seesWithin 5 = .ok (.ifCond .eq 24, 3) := by decide +kernel
theorem dX1_seesWithin_8 : decode cX1_seesWithin 8 = .ok (.aload_n 0, 1) := by decide +kernel
theorem dX1_seesWithin_9 : decode cX1_seesWithin 9 = .ok (.getfield 9, 3) := by decide +kernel
theorem dX1_seesWithin_12 : decode cX1_seesWithin 12 = .ok (.getfield 103, 3) := by decide +kernel
theorem dX1_seesWithin_15 : decode cX1_seesWithin 15 = .ok (.aload_n 0, 1) := by decide +kernel
theorem dX1_seesWithin_16 : decode cX1_seesWithin 16 = .ok (.getfield 22, 3) := by decide +kernel
theorem dX1_seesWithin_19 : decode cX1_seesWithin 19 = .ok (.iaload, 1) := by decide +kernel
theorem dX1_seesWithin_20 : decode cX1_seesWithin 20 = .ok (.bipush 8, 2) := by decide +kernel
theorem dX1_seesWithin_22 : decode cX1_seesWithin 22 = .ok (.if_icmp .ne 7, 3) := by decide +kernel
theorem dX1_seesWithin_25 : decode cX1_seesWithin 25 = .ok (.iconst 1, 1) := by decide +kernel
theorem dX1_seesWithin_26 : decode cX1_seesWithin 26 = .ok (.goto 4, 3) := by decide +kernel
theorem dX1_seesWithin_29 : decode cX1_seesWithin 29 = .ok (.iconst 0, 1) := by decide +kernel
theorem dX1_seesWithin_30 : decode cX1_seesWithin 30 = .ok (.ireturn, 1) := by decide +kernel
theorem dX1_take_0 : decode cX1_take 0 = .ok (.aload_n 0, 1) := by decide +kernel
theorem dX1_take_1 : decode cX1_take 1 = .ok (.iload_n 1, 1) := by decide +kernel
theorem dX1_take_2 : decode cX1_take 2 = .ok (.invokevirtual 40, 3) := by decide +kernel
theorem dX1_take_5 : decode cX1_take 5 = .ok (.ifCond .ne 9, 3) := by decide +kernel
theorem dX1_take_8 : decode cX1_take 8 = .ok (.aload_n 0, 1) := by decide +kernel
theorem dX1_take_9 : decode cX1_take 9 = .ok (.iconst 2, 1) := by decide +kernel
theorem dX1_take_10 : decode cX1_take 10 = .ok (.invokevirtual 47, 3) := by decide +kernel
theorem dX1_take_13 : decode cX1_take 13 = .ok (.ireturn, 1) := by decide +kernel
theorem dX1_take_14 : decode cX1_take 14 = .ok (.aload_n 0, 1) := by decide +kernel
theorem dX1_take_15 : decode cX1_take 15 = .ok (.aload_n 0, 1) := by decide +kernel
theorem dX1_take_16 : decode cX1_take 16 = .ok (.getfield 9, 3) := by decide +kernel
theorem dX1_take_19 : decode cX1_take 19 = .ok (.getfield 103, 3) := by decide +kernel
theorem dX1_take_22 : decode cX1_take 22 = .ok (.aload_n 0, 1) := by decide +kernel
theorem dX1_take_23 : decode cX1_take 23 = .ok (.getfield 22, 3) := by decide +kernel
theorem dX1_take_26 : decode cX1_take 26 = .ok (.iaload, 1) := by decide +kernel
theorem dX1_take_27 : decode cX1_take 27 = .ok (.putfield 59, 3) := by decide +kernel
theorem dX1_take_30 : decode cX1_take 30 = .ok (.aload_n 0, 1) := by decide +kernel
theorem dX1_take_31 : decode cX1_take 31 = .ok (.dup, 1) := by decide +kernel
theorem dX1_take_32 : decode cX1_take 32 = .ok (.getfield 22, 3) := by decide +kernel
theorem dX1_take_35 : decode cX1_take 35 = .ok (.iconst 1, 1) := by decide +kernel
theorem dX1_take_36 : decode cX1_take 36 = .ok (.iadd, 1) := by decide +kernel
theorem dX1_take_37 : decode cX1_take 37 = .ok (.putfield 22, 3) := by decide +kernel
theorem dX1_take_40 : decode cX1_take 40 = .ok (.iconst 1, 1) := by decide +kernel
theorem dX1_take_41 : decode cX1_take 41 = .ok (.ireturn, 1) := by decide +kernel
theorem dX1_takeNumber_0 : decode cX1_takeNumber 0 = .ok (.aload_n 0, 1) := by decide +kernel
theorem dX1_takeNumber_1 : decode cX1_takeNumber 1 = .ok (.iconst 2, 1) := by decide +kernel
theorem dX1_takeNumber_2 : decode cX1_takeNumber 2 = .ok (.invokevirtual 40, 3) := by decide +kernel
theorem dX1_takeNumber_5 : decode cX1_takeNumber 5 = .ok (.ifCond .ne 9, 3) := by decide +kernel
theorem dX1_takeNumber_8 : decode cX1_takeNumber 8 = .ok (.aload_n 0, 1) := by decide +kernel
theorem dX1_takeNumber_9 : decode cX1_takeNumber 9 = .ok (.iconst 2, 1) := by decide +kernel
theorem dX1_takeNumber_10 : decode cX1_takeNumber 10 = .ok (.invokevirtual 47, 3) := by decide +kernel
theorem dX1_takeNumber_13 : decode cX1_takeNumber 13 = .ok (.ireturn, 1) := by decide +kernel
theorem dX1_takeNumber_14 : decode cX1_takeNumber 14 = .ok (.aload_n 0, 1) := by decide +kernel
theorem dX1_takeNumber_15 : decode cX1_takeNumber 15 = .ok (.getfield 9, 3) := by decide +kernel
theorem dX1_takeNumber_18 : decode cX1_takeNumber 18 = .ok (.getfield 103, 3) := by decide +kernel
theorem dX1_takeNumber_21 : decode cX1_takeNumber 21 = .ok (.aload_n 0, 1) := by decide +kernel
theorem dX1_takeNumber_22 : decode cX1_takeNumber 22 = .ok (.getfield 22, 3) := by decide +kernel
theorem dX1_takeNumber_25 : decode cX1_takeNumber 25 = .ok (.iaload, 1) := by decide +kernel
theorem dX1_takeNumber_26 : decode cX1_takeNumber 26 = .ok (.istore 4, 2) := by decide +kernel
theorem dX1_takeNumber_28 : decode cX1_takeNumber 28 = .ok (.iload 4, 2) := by decide +kernel
theorem dX1_takeNumber_30 : decode cX1_takeNumber 30 = .ok (.iload_n 1, 1) := by decide +kernel
theorem dX1_takeNumber_31 : decode cX1_takeNumber 31 = .ok (.iload_n 2, 1) := by decide +kernel
theorem dX1_takeNumber_32 : decode cX1_takeNumber 32 = .ok (.invokestatic 106, 3) := by decide +kernel
theorem dX1_takeNumber_35 : decode cX1_takeNumber 35 = .ok (.ifCond .ne 9, 3) := by decide +kernel
theorem dX1_takeNumber_38 : decode cX1_takeNumber 38 = .ok (.aload_n 0, 1) := by decide +kernel
theorem dX1_takeNumber_39 : decode cX1_takeNumber 39 = .ok (.iconst 3, 1) := by decide +kernel
theorem dX1_takeNumber_40 : decode cX1_takeNumber 40 = .ok (.invokevirtual 47, 3) := by decide +kernel
theorem dX1_takeNumber_43 : decode cX1_takeNumber 43 = .ok (.ireturn, 1) := by decide +kernel
theorem dX1_takeNumber_44 : decode cX1_takeNumber 44 = .ok (.iload 4, 2) := by decide +kernel
theorem dX1_takeNumber_46 : decode cX1_takeNumber 46 = .ok (.iload_n 3, 1) := by decide +kernel
theorem dX1_takeNumber_47 : decode cX1_takeNumber 47 = .ok (.if_icmp .gt 9, 3) := by decide +kernel
theorem dX1_takeNumber_50 : decode cX1_takeNumber 50 = .ok (.aload_n 0, 1) := by decide +kernel
theorem dX1_takeNumber_51 : decode cX1_takeNumber 51 = .ok (.iconst 5, 1) := by decide +kernel
theorem dX1_takeNumber_52 : decode cX1_takeNumber 52 = .ok (.invokevirtual 47, 3) := by decide +kernel
theorem dX1_takeNumber_55 : decode cX1_takeNumber 55 = .ok (.ireturn, 1) := by decide +kernel
theorem dX1_takeNumber_56 : decode cX1_takeNumber 56 = .ok (.aload_n 0, 1) := by decide +kernel
theorem dX1_takeNumber_57 : decode cX1_takeNumber 57 = .ok (.iload 4, 2) := by decide +kernel
theorem dX1_takeNumber_59 : decode cX1_takeNumber 59 = .ok (.putfield 59, 3) := by decide +kernel
theorem dX1_takeNumber_62 : decode cX1_takeNumber 62 = .ok (.aload_n 0, 1) := by decide +kernel
theorem dX1_takeNumber_63 : decode cX1_takeNumber 63 = .ok (.dup, 1) := by decide +kernel
theorem dX1_takeNumber_64 : decode cX1_takeNumber 64 = .ok (.getfield 22, 3) := by decide +kernel
theorem dX1_takeNumber_67 : decode cX1_takeNumber 67 = .ok (.iconst 1, 1) := by decide +kernel
theorem dX1_takeNumber_68 : decode cX1_takeNumber 68 = .ok (.iadd, 1) := by decide +kernel
theorem dX1_takeNumber_69 : decode cX1_takeNumber 69 = .ok (.putfield 22, 3) := by decide +kernel
theorem dX1_takeNumber_72 : decode cX1_takeNumber 72 = .ok (.iconst 1, 1) := by decide +kernel
theorem dX1_takeNumber_73 : decode cX1_takeNumber 73 = .ok (.ireturn, 1) := by decide +kernel
theorem dX1_refuse_0 : decode cX1_refuse 0 = .ok (.aload_n 0, 1) := by decide +kernel
theorem dX1_refuse_1 : decode cX1_refuse 1 = .ok (.iload_n 1, 1) := by decide +kernel
theorem dX1_refuse_2 : decode cX1_refuse 2 = .ok (.putfield 15, 3) := by decide +kernel
theorem dX1_refuse_5 : decode cX1_refuse 5 = .ok (.aload_n 0, 1) := by decide +kernel
theorem dX1_refuse_6 : decode cX1_refuse 6 = .ok (.getfield 22, 3) := by decide +kernel
theorem dX1_refuse_9 : decode cX1_refuse 9 = .ok (.aload_n 0, 1) := by decide +kernel
theorem dX1_refuse_10 : decode cX1_refuse 10 = .ok (.getfield 9, 3) := by decide +kernel
theorem dX1_refuse_13 : decode cX1_refuse 13 = .ok (.getfield 96, 3) := by decide +kernel
theorem dX1_refuse_16 : decode cX1_refuse 16 = .ok (.if_icmp .ge 40, 3) := by decide +kernel
theorem dX1_refuse_19 : decode cX1_refuse 19 = .ok (.aload_n 0, 1) := by decide +kernel
theorem dX1_refuse_20 : decode cX1_refuse 20 = .ok (.aload_n 0, 1) := by decide +kernel
theorem dX1_refuse_21 : decode cX1_refuse 21 = .ok (.getfield 9, 3) := by decide +kernel
theorem dX1_refuse_24 : decode cX1_refuse 24 = .ok (.getfield 109, 3) := by decide +kernel
theorem dX1_refuse_27 : decode cX1_refuse 27 = .ok (.aload_n 0, 1) := by decide +kernel
theorem dX1_refuse_28 : decode cX1_refuse 28 = .ok (.getfield 22, 3) := by decide +kernel
theorem dX1_refuse_31 : decode cX1_refuse 31 = .ok (.iaload, 1) := by decide +kernel
theorem dX1_refuse_32 : decode cX1_refuse 32 = .ok (.putfield 19, 3) := by decide +kernel
theorem dX1_refuse_35 : decode cX1_refuse 35 = .ok (.aload_n 0, 1) := by decide +kernel
theorem dX1_refuse_36 : decode cX1_refuse 36 = .ok (.getfield 9, 3) := by decide +kernel
theorem dX1_refuse_39 : decode cX1_refuse 39 = .ok (.getfield 99, 3) := by decide +kernel
theorem dX1_refuse_42 : decode cX1_refuse 42 = .ok (.aload_n 0, 1) := by decide +kernel
theorem dX1_refuse_43 : decode cX1_refuse 43 = .ok (.getfield 22, 3) := by decide +kernel
theorem dX1_refuse_46 : decode cX1_refuse 46 = .ok (.iaload, 1) := by decide +kernel
theorem dX1_refuse_47 : decode cX1_refuse 47 = .ok (.iconst 5, 1) := by decide +kernel
theorem dX1_refuse_48 : decode cX1_refuse 48 = .ok (.if_icmp .ne 8, 3) := by decide +kernel
theorem dX1_refuse_51 : decode cX1_refuse 51 = .ok (.aload_n 0, 1) := by decide +kernel
theorem dX1_refuse_52 : decode cX1_refuse 52 = .ok (.iconst 1, 1) := by decide +kernel
theorem dX1_refuse_53 : decode cX1_refuse 53 = .ok (.putfield 15, 3) := by decide +kernel
theorem dX1_refuse_56 : decode cX1_refuse 56 = .ok (.iconst 0, 1) := by decide +kernel
theorem dX1_refuse_57 : decode cX1_refuse 57 = .ok (.ireturn, 1) := by decide +kernel
theorem dX2_init_0 : decode cX2_init 0 = .ok (.aload_n 0, 1) := by decide +kernel
theorem dX2_init_1 : decode cX2_init 1 = .ok (.invokespecial 3, 3) := by decide +kernel
theorem dX2_init_4 : decode cX2_init 4 = .ok (.aload_n 0, 1) := by decide +kernel
theorem dX2_init_5 : decode cX2_init 5 = .ok (.sipush 256, 3) := by decide +kernel
theorem dX2_init_8 : decode cX2_init 8 = .ok (.newarray .int, 2) := by decide +kernel
theorem dX2_init_10 : decode cX2_init 10 = .ok (.putfield 9, 3) := by decide +kernel
theorem dX2_init_13 : decode cX2_init 13 = .ok (.return_, 1) := by decide +kernel
theorem dX2_add_0 : decode cX2_add 0 = .ok (.aload_n 0, 1) := by decide +kernel
theorem dX2_add_1 : decode cX2_add 1 = .ok (.getfield 9, 3) := by decide +kernel
theorem dX2_add_4 : decode cX2_add 4 = .ok (.aload_n 0, 1) := by decide +kernel
theorem dX2_add_5 : decode cX2_add 5 = .ok (.getfield 15, 3) := by decide +kernel
theorem dX2_add_8 : decode cX2_add 8 = .ok (.sipush 256, 3) := by decide +kernel
theorem dX2_add_11 : decode cX2_add 11 = .ok (.irem, 1) := by decide +kernel
theorem dX2_add_12 : decode cX2_add 12 = .ok (.iload_n 1, 1) := by decide +kernel
theorem dX2_add_13 : decode cX2_add 13 = .ok (.iastore, 1) := by decide +kernel
theorem dX2_add_14 : decode cX2_add 14 = .ok (.aload_n 0, 1) := by decide +kernel
theorem dX2_add_15 : decode cX2_add 15 = .ok (.dup, 1) := by decide +kernel
theorem dX2_add_16 : decode cX2_add 16 = .ok (.getfield 15, 3) := by decide +kernel
theorem dX2_add_19 : decode cX2_add 19 = .ok (.iconst 1, 1) := by decide +kernel
theorem dX2_add_20 : decode cX2_add 20 = .ok (.iadd, 1) := by decide +kernel
theorem dX2_add_21 : decode cX2_add 21 = .ok (.putfield 15, 3) := by decide +kernel
theorem dX2_add_24 : decode cX2_add 24 = .ok (.return_, 1) := by decide +kernel
theorem dX2_oldest_0 : decode cX2_oldest 0 = .ok (.iconst 0, 1) := by decide +kernel
theorem dX2_oldest_1 : decode cX2_oldest 1 = .ok (.aload_n 0, 1) := by decide +kernel
theorem dX2_oldest_2 : decode cX2_oldest 2 = .ok (.getfield 15, 3) := by decide +kernel
theorem dX2_oldest_5 : decode cX2_oldest 5 = .ok (.sipush 256, 3) := by decide +kernel
theorem dX2_oldest_8 : decode cX2_oldest 8 = .ok (.isub, 1) := by decide +kernel
theorem dX2_oldest_9 : decode cX2_oldest 9 = .ok (.invokestatic 19, 3) := by decide +kernel
theorem dX2_oldest_12 : decode cX2_oldest 12 = .ok (.ireturn, 1) := by decide +kernel
theorem dX2_has_0 : decode cX2_has 0 = .ok (.iload_n 1, 1) := by decide +kernel
theorem dX2_has_1 : decode cX2_has 1 = .ok (.aload_n 0, 1) := by decide +kernel
theorem dX2_has_2 : decode cX2_has 2 = .ok (.invokevirtual 25, 3) := by decide +kernel
theorem dX2_has_5 : decode cX2_has 5 = .ok (.aload_n 0, 1) := by decide +kernel
theorem dX2_has_6 : decode cX2_has 6 = .ok (.getfield 15, 3) := by decide +kernel
theorem dX2_has_9 : decode cX2_has 9 = .ok (.iconst 1, 1) := by decide +kernel
theorem dX2_has_10 : decode cX2_has 10 = .ok (.isub, 1) := by decide +kernel
theorem dX2_has_11 : decode cX2_has 11 = .ok (.invokestatic 29, 3) := by decide +kernel
theorem dX2_has_14 : decode cX2_has 14 = .ok (.ireturn, 1) := by decide +kernel
theorem dX2_get_0 : decode cX2_get 0 = .ok (.aload_n 0, 1) := by decide +kernel
theorem dX2_get_1 : decode cX2_get 1 = .ok (.getfield 9, 3) := by decide +kernel
theorem dX2_get_4 : decode cX2_get 4 = .ok (.iload_n 1, 1) := by decide +kernel
theorem dX2_get_5 : decode cX2_get 5 = .ok (.sipush 256, 3) := by decide +kernel
theorem dX2_get_8 : decode cX2_get 8 = .ok (.invokestatic 33, 3) := by decide +kernel
theorem dX2_get_11 : decode cX2_get 11 = .ok (.iaload, 1) := by decide +kernel
theorem dX2_get_12 : decode cX2_get 12 = .ok (.ireturn, 1) := by decide +kernel
theorem dX3_init_0 : decode cX3_init 0 = .ok (.aload_n 0, 1) := by decide +kernel
theorem dX3_init_1 : decode cX3_init 1 = .ok (.invokespecial 3, 3) := by decide +kernel
theorem dX3_init_4 : decode cX3_init 4 = .ok (.aload_n 0, 1) := by decide +kernel
theorem dX3_init_5 : decode cX3_init 5 = .ok (.sipush 201, 3) := by decide +kernel
theorem dX3_init_8 : decode cX3_init 8 = .ok (.newarray .long, 2) := by decide +kernel
theorem dX3_init_10 : decode cX3_init 10 = .ok (.putfield 9, 3) := by decide +kernel
theorem dX3_init_13 : decode cX3_init 13 = .ok (.aload_n 0, 1) := by decide +kernel
theorem dX3_init_14 : decode cX3_init 14 = .ok (.sipush 201, 3) := by decide +kernel
theorem dX3_init_17 : decode cX3_init 17 = .ok (.newarray .boolean, 2) := by decide +kernel
theorem dX3_init_19 : decode cX3_init 19 = .ok (.putfield 15, 3) := by decide +kernel
theorem dX3_init_22 : decode cX3_init 22 = .ok (.return_, 1) := by decide +kernel
theorem dX3_copyOf_0 : decode cX3_copyOf 0 = .ok (.aload_n 0, 1) := by decide +kernel
theorem dX3_copyOf_1 : decode cX3_copyOf 1 = .ok (.aload_n 1, 1) := by decide +kernel
theorem dX3_copyOf_2 : decode cX3_copyOf 2 = .ok (.getfield 19, 3) := by decide +kernel
theorem dX3_copyOf_5 : decode cX3_copyOf 5 = .ok (.putfield 25, 3) := by decide +kernel
theorem dX3_copyOf_8 : decode cX3_copyOf 8 = .ok (.iconst 0, 1) := by decide +kernel
theorem dX3_copyOf_9 : decode cX3_copyOf 9 = .ok (.istore_n 3, 1) := by decide +kernel
theorem dX3_copyOf_10 : decode cX3_copyOf 10 = .ok (.iload_n 3, 1) := by decide +kernel
theorem dX3_copyOf_11 : decode cX3_copyOf 11 = .ok (.aload_n 0, 1) := by decide +kernel
theorem dX3_copyOf_12 : decode cX3_copyOf 12 = .ok (.getfield 25, 3) := by decide +kernel
theorem dX3_copyOf_15 : decode cX3_copyOf 15 = .ok (.if_icmp .ge 21, 3) := by decide +kernel
theorem dX3_copyOf_18 : decode cX3_copyOf 18 = .ok (.aload_n 0, 1) := by decide +kernel
theorem dX3_copyOf_19 : decode cX3_copyOf 19 = .ok (.iload_n 3, 1) := by decide +kernel
theorem dX3_copyOf_20 : decode cX3_copyOf 20 = .ok (.aload_n 1, 1) := by decide +kernel
theorem dX3_copyOf_21 : decode cX3_copyOf 21 = .ok (.iload_n 2, 1) := by decide +kernel
theorem dX3_copyOf_22 : decode cX3_copyOf 22 = .ok (.iload_n 3, 1) := by decide +kernel
theorem dX3_copyOf_23 : decode cX3_copyOf 23 = .ok (.invokevirtual 26, 3) := by decide +kernel
theorem dX3_copyOf_26 : decode cX3_copyOf 26 = .ok (.i2l, 1) := by decide +kernel
theorem dX3_copyOf_27 : decode cX3_copyOf 27 = .ok (.invokevirtual 30, 3) := by decide +kernel
theorem dX3_copyOf_30 : decode cX3_copyOf 30 = .ok (.iinc 3 1, 3) := by decide +kernel
theorem dX3_copyOf_33 : decode cX3_copyOf 33 = .ok (.goto (-23), 3) := by decide +kernel
theorem dX3_copyOf_36 : decode cX3_copyOf 36 = .ok (.return_, 1) := by decide +kernel
theorem dX3_put_0 : decode cX3_put 0 = .ok (.aload_n 0, 1) := by decide +kernel
theorem dX3_put_1 : decode cX3_put 1 = .ok (.getfield 9, 3) := by decide +kernel
theorem dX3_put_4 : decode cX3_put 4 = .ok (.iload_n 1, 1) := by decide +kernel
theorem dX3_put_5 : decode cX3_put 5 = .ok (.lload_n 2, 1) := by decide +kernel
theorem dX3_put_6 : decode cX3_put 6 = .ok (.lastore, 1) := by decide +kernel
theorem dX3_put_7 : decode cX3_put 7 = .ok (.aload_n 0, 1) := by decide +kernel
theorem dX3_put_8 : decode cX3_put 8 = .ok (.getfield 15, 3) := by decide +kernel
theorem dX3_put_11 : decode cX3_put 11 = .ok (.iload_n 1, 1) := by decide +kernel
theorem dX3_put_12 : decode cX3_put 12 = .ok (.iconst 0, 1) := by decide +kernel
theorem dX3_put_13 : decode cX3_put 13 = .ok (.bastore, 1) := by decide +kernel
theorem dX3_put_14 : decode cX3_put 14 = .ok (.return_, 1) := by decide +kernel
theorem dX3_putGap_0 : decode cX3_putGap 0 = .ok (.aload_n 0, 1) := by decide +kernel
theorem dX3_putGap_1 : decode cX3_putGap 1 = .ok (.getfield 9, 3) := by decide +kernel
theorem dX3_putGap_4 : decode cX3_putGap 4 = .ok (.iload_n 1, 1) := by decide +kernel
theorem dX3_putGap_5 : decode cX3_putGap 5 = .ok (.lconst 0, 1) := by decide +kernel
theorem dX3_putGap_6 : decode cX3_putGap 6 = .ok (.lastore, 1) := by decide +kernel
theorem dX3_putGap_7 : decode cX3_putGap 7 = .ok (.aload_n 0, 1) := by decide +kernel
theorem dX3_putGap_8 : decode cX3_putGap 8 = .ok (.getfield 15, 3) := by decide +kernel
theorem dX3_putGap_11 : decode cX3_putGap 11 = .ok (.iload_n 1, 1) := by decide +kernel
theorem dX3_putGap_12 : decode cX3_putGap 12 = .ok (.iconst 1, 1) := by decide +kernel
theorem dX3_putGap_13 : decode cX3_putGap 13 = .ok (.bastore, 1) := by decide +kernel
theorem dX3_putGap_14 : decode cX3_putGap 14 = .ok (.return_, 1) := by decide +kernel
theorem dX3_valueAt_0 : decode cX3_valueAt 0 = .ok (.iload_n 1, 1) := by decide +kernel
theorem dX3_valueAt_1 : decode cX3_valueAt 1 = .ok (.iconst 0, 1) := by decide +kernel
theorem dX3_valueAt_2 : decode cX3_valueAt 2 = .ok (.aload_n 0, 1) := by decide +kernel
theorem dX3_valueAt_3 : decode cX3_valueAt 3 = .ok (.getfield 25, 3) := by decide +kernel
theorem dX3_valueAt_6 : decode cX3_valueAt 6 = .ok (.iconst 1, 1) := by decide +kernel
theorem dX3_valueAt_7 : decode cX3_valueAt 7 = .ok (.isub, 1) := by decide +kernel
theorem dX3_valueAt_8 : decode cX3_valueAt 8 = .ok (.invokestatic 34, 3) := by decide +kernel
theorem dX3_valueAt_11 : decode cX3_valueAt 11 = .ok (.ifCond .eq 12, 3) := by decide +kernel
theorem dX3_valueAt_14 : decode cX3_valueAt 14 = .ok (.aload_n 0, 1) := by decide +kernel
theorem dX3_valueAt_15 : decode cX3_valueAt 15 = .ok (.getfield 9, 3) := by decide +kernel
theorem dX3_valueAt_18 : decode cX3_valueAt 18 = .ok (.iload_n 1, 1) := by decide +kernel
theorem dX3_valueAt_19 : decode cX3_valueAt 19 = .ok (.laload, 1) := by decide +kernel
theorem dX3_valueAt_20 : decode cX3_valueAt 20 = .ok (.goto 4, 3) := by decide +kernel
theorem dX3_valueAt_23 : decode cX3_valueAt 23 = .ok (.lconst 0, 1) := by decide +kernel
theorem dX3_valueAt_24 : decode cX3_valueAt 24 = .ok (.lreturn, 1) := by decide +kernel
theorem dX3_reckonTwo_0 : decode cX3_reckonTwo 0 = .ok (.aload_n 2, 1) := by decide +kernel
theorem dX3_reckonTwo_1 : decode cX3_reckonTwo 1 = .ok (.getfield 25, 3) := by decide +kernel
theorem dX3_reckonTwo_4 : decode cX3_reckonTwo 4 = .ok (.aload_n 3, 1) := by decide +kernel
theorem dX3_reckonTwo_5 : decode cX3_reckonTwo 5 = .ok (.getfield 25, 3) := by decide +kernel
theorem dX3_reckonTwo_8 : decode cX3_reckonTwo 8 = .ok (.invokestatic 38, 3) := by decide +kernel
theorem dX3_reckonTwo_11 : decode cX3_reckonTwo 11 = .ok (.istore 4, 2) := by decide +kernel
theorem dX3_reckonTwo_13 : decode cX3_reckonTwo 13 = .ok (.iconst 0, 1) := by decide +kernel
theorem dX3_reckonTwo_14 : decode cX3_reckonTwo 14 = .ok (.istore 5, 2) := by decide +kernel
theorem dX3_reckonTwo_16 : decode cX3_reckonTwo 16 = .ok (.iload 5, 2) := by decide +kernel
theorem dX3_reckonTwo_18 : decode cX3_reckonTwo 18 = .ok (.iload 4, 2) := by decide +kernel
theorem dX3_reckonTwo_20 : decode cX3_reckonTwo 20 = .ok (.if_icmp .ge 62, 3) := by decide +kernel
theorem dX3_reckonTwo_23 : decode cX3_reckonTwo 23 = .ok (.aload_n 2, 1) := by decide +kernel
theorem dX3_reckonTwo_24 : decode cX3_reckonTwo 24 = .ok (.getfield 15, 3) := by decide +kernel
theorem dX3_reckonTwo_27 : decode cX3_reckonTwo 27 = .ok (.iload 5, 2) := by decide +kernel
theorem dX3_reckonTwo_29 : decode cX3_reckonTwo 29 = .ok (.baload, 1) := by decide +kernel
theorem dX3_reckonTwo_30 : decode cX3_reckonTwo 30 = .ok (.ifCond .ne 13, 3) := by decide +kernel
theorem dX3_reckonTwo_33 : decode cX3_reckonTwo 33 = .ok (.aload_n 3, 1) := by decide +kernel
theorem dX3_reckonTwo_34 : decode cX3_reckonTwo 34 = .ok (.getfield 15, 3) := by decide +kernel
theorem dX3_reckonTwo_37 : decode cX3_reckonTwo 37 = .ok (.iload 5, 2) := by decide +kernel
theorem dX3_reckonTwo_39 : decode cX3_reckonTwo 39 = .ok (.baload, 1) := by decide +kernel
theorem dX3_reckonTwo_40 : decode cX3_reckonTwo 40 = .ok (.ifCond .eq 12, 3) := by decide +kernel
theorem dX3_reckonTwo_43 : decode cX3_reckonTwo 43 = .ok (.aload_n 0, 1) := by decide +kernel
theorem dX3_reckonTwo_44 : decode cX3_reckonTwo 44 = .ok (.iload 5, 2) := by decide +kernel
theorem dX3_reckonTwo_46 : decode cX3_reckonTwo 46 = .ok (.invokevirtual 43, 3) := by decide +kernel
theorem dX3_reckonTwo_49 : decode cX3_reckonTwo 49 = .ok (.goto 27, 3) := by decide +kernel
theorem dX3_reckonTwo_52 : decode cX3_reckonTwo 52 = .ok (.aload_n 0, 1) := by decide +kernel
theorem dX3_reckonTwo_53 : decode cX3_reckonTwo 53 = .ok (.iload 5, 2) := by decide +kernel
theorem dX3_reckonTwo_55 : decode cX3_reckonTwo 55 = .ok (.iload_n 1, 1) := by decide +kernel
theorem dX3_reckonTwo_56 : decode cX3_reckonTwo 56 = .ok (.aload_n 2, 1) := by decide +kernel
theorem dX3_reckonTwo_57 : decode cX3_reckonTwo 57 = .ok (.getfield 9, 3) := by decide +kernel
theorem dX3_reckonTwo_60 : decode cX3_reckonTwo 60 = .ok (.iload 5, 2) := by decide +kernel
theorem dX3_reckonTwo_62 : decode cX3_reckonTwo 62 = .ok (.laload, 1) := by decide +kernel
theorem dX3_reckonTwo_63 : decode cX3_reckonTwo 63 = .ok (.aload_n 3, 1) := by decide +kernel
theorem dX3_reckonTwo_64 : decode cX3_reckonTwo 64 = .ok (.getfield 9, 3) := by decide +kernel
theorem dX3_reckonTwo_67 : decode cX3_reckonTwo 67 = .ok (.iload 5, 2) := by decide +kernel
theorem dX3_reckonTwo_69 : decode cX3_reckonTwo 69 = .ok (.laload, 1) := by decide +kernel
theorem dX3_reckonTwo_70 : decode cX3_reckonTwo 70 = .ok (.invokestatic 47, 3) := by decide +kernel
theorem dX3_reckonTwo_73 : decode cX3_reckonTwo 73 = .ok (.invokevirtual 30, 3) := by decide +kernel
theorem dX3_reckonTwo_76 : decode cX3_reckonTwo 76 = .ok (.iinc 5 1, 3) := by decide +kernel
theorem dX3_reckonTwo_79 : decode cX3_reckonTwo 79 = .ok (.goto (-63), 3) := by decide +kernel
theorem dX3_reckonTwo_82 : decode cX3_reckonTwo 82 = .ok (.aload_n 0, 1) := by decide +kernel
theorem dX3_reckonTwo_83 : decode cX3_reckonTwo 83 = .ok (.iload 4, 2) := by decide +kernel
theorem dX3_reckonTwo_85 : decode cX3_reckonTwo 85 = .ok (.putfield 25, 3) := by decide +kernel
theorem dX3_reckonTwo_88 : decode cX3_reckonTwo 88 = .ok (.return_, 1) := by decide +kernel
theorem dX3_joined_0 : decode cX3_joined 0 = .ok (.iload_n 0, 1) := by decide +kernel
theorem dX3_joined_1 : decode cX3_joined 1 = .ok (.lookupswitch 35 #[(0, 27), (1, 31)], 27) := by decide +kernel
theorem dX3_joined_28 : decode cX3_joined 28 = .ok (.lload_n 1, 1) := by decide +kernel
theorem dX3_joined_29 : decode cX3_joined 29 = .ok (.lload_n 3, 1) := by decide +kernel
theorem dX3_joined_30 : decode cX3_joined 30 = .ok (.ladd, 1) := by decide +kernel
theorem dX3_joined_31 : decode cX3_joined 31 = .ok (.lreturn, 1) := by decide +kernel
theorem dX3_joined_32 : decode cX3_joined 32 = .ok (.lload_n 1, 1) := by decide +kernel
theorem dX3_joined_33 : decode cX3_joined 33 = .ok (.lload_n 3, 1) := by decide +kernel
theorem dX3_joined_34 : decode cX3_joined 34 = .ok (.lsub, 1) := by decide +kernel
theorem dX3_joined_35 : decode cX3_joined 35 = .ok (.lreturn, 1) := by decide +kernel
theorem dX3_joined_36 : decode cX3_joined 36 = .ok (.lload_n 1, 1) := by decide +kernel
theorem dX3_joined_37 : decode cX3_joined 37 = .ok (.lload_n 3, 1) := by decide +kernel
theorem dX3_joined_38 : decode cX3_joined 38 = .ok (.lmul, 1) := by decide +kernel
theorem dX3_joined_39 : decode cX3_joined 39 = .ok (.lreturn, 1) := by decide +kernel
theorem dX3_reckonOne_0 : decode cX3_reckonOne 0 = .ok (.iload_n 1, 1) := by decide +kernel
theorem dX3_reckonOne_1 : decode cX3_reckonOne 1 = .ok (.bipush 6, 2) := by decide +kernel
theorem dX3_reckonOne_3 : decode cX3_reckonOne 3 = .ok (.if_icmp .ne 9, 3) := by decide +kernel
theorem dX3_reckonOne_6 : decode cX3_reckonOne 6 = .ok (.aload_n 0, 1) := by decide +kernel
theorem dX3_reckonOne_7 : decode cX3_reckonOne 7 = .ok (.aload_n 2, 1) := by decide +kernel
theorem dX3_reckonOne_8 : decode cX3_reckonOne 8 = .ok (.invokevirtual 51, 3) := by decide +kernel
theorem dX3_reckonOne_11 : decode cX3_reckonOne 11 = .ok (.return_, 1) := by decide +kernel
theorem dX3_reckonOne_12 : decode cX3_reckonOne 12 = .ok (.aload_n 0, 1) := by decide +kernel
theorem dX3_reckonOne_13 : decode cX3_reckonOne 13 = .ok (.aload_n 2, 1) := by decide +kernel
theorem dX3_reckonOne_14 : decode cX3_reckonOne 14 = .ok (.getfield 25, 3) := by decide +kernel
theorem dX3_reckonOne_17 : decode cX3_reckonOne 17 = .ok (.putfield 25, 3) := by decide +kernel
theorem dX3_reckonOne_20 : decode cX3_reckonOne 20 = .ok (.aload_n 0, 1) := by decide +kernel
theorem dX3_reckonOne_21 : decode cX3_reckonOne 21 = .ok (.getfield 25, 3) := by decide +kernel
theorem dX3_reckonOne_24 : decode cX3_reckonOne 24 = .ok (.iconst 1, 1) := by decide +kernel
theorem dX3_reckonOne_25 : decode cX3_reckonOne 25 = .ok (.isub, 1) := by decide +kernel
theorem dX3_reckonOne_26 : decode cX3_reckonOne 26 = .ok (.istore 4, 2) := by decide +kernel
theorem dX3_reckonOne_28 : decode cX3_reckonOne 28 = .ok (.iload 4, 2) := by decide +kernel
theorem dX3_reckonOne_30 : decode cX3_reckonOne 30 = .ok (.ifCond .lt 43, 3) := by decide +kernel
theorem dX3_reckonOne_33 : decode cX3_reckonOne 33 = .ok (.aload_n 2, 1) := by decide +kernel
theorem dX3_reckonOne_34 : decode cX3_reckonOne 34 = .ok (.iload_n 1, 1) := by decide +kernel
theorem dX3_reckonOne_35 : decode cX3_reckonOne 35 = .ok (.iload 4, 2) := by decide +kernel
theorem dX3_reckonOne_37 : decode cX3_reckonOne 37 = .ok (.iload_n 3, 1) := by decide +kernel
theorem dX3_reckonOne_38 : decode cX3_reckonOne 38 = .ok (.invokevirtual 55, 3) := by decide +kernel
theorem dX3_reckonOne_41 : decode cX3_reckonOne 41 = .ok (.ifCond .eq 12, 3) := by decide +kernel
theorem dX3_reckonOne_44 : decode cX3_reckonOne 44 = .ok (.aload_n 0, 1) := by decide +kernel
theorem dX3_reckonOne_45 : decode cX3_reckonOne 45 = .ok (.iload 4, 2) := by decide +kernel
theorem dX3_reckonOne_47 : decode cX3_reckonOne 47 = .ok (.invokevirtual 43, 3) := by decide +kernel
theorem dX3_reckonOne_50 : decode cX3_reckonOne 50 = .ok (.goto 17, 3) := by decide +kernel
theorem dX3_reckonOne_53 : decode cX3_reckonOne 53 = .ok (.aload_n 0, 1) := by decide +kernel
theorem dX3_reckonOne_54 : decode cX3_reckonOne 54 = .ok (.iload 4, 2) := by decide +kernel
theorem dX3_reckonOne_56 : decode cX3_reckonOne 56 = .ok (.aload_n 2, 1) := by decide +kernel
theorem dX3_reckonOne_57 : decode cX3_reckonOne 57 = .ok (.iload_n 1, 1) := by decide +kernel
theorem dX3_reckonOne_58 : decode cX3_reckonOne 58 = .ok (.iload 4, 2) := by decide +kernel
theorem dX3_reckonOne_60 : decode cX3_reckonOne 60 = .ok (.iload_n 3, 1) := by decide +kernel
theorem dX3_reckonOne_61 : decode cX3_reckonOne 61 = .ok (.invokevirtual 58, 3) := by decide +kernel
theorem dX3_reckonOne_64 : decode cX3_reckonOne 64 = .ok (.invokevirtual 30, 3) := by decide +kernel
theorem dX3_reckonOne_67 : decode cX3_reckonOne 67 = .ok (.iinc 4 (-1), 3) := by decide +kernel
theorem dX3_reckonOne_70 : decode cX3_reckonOne 70 = .ok (.goto (-42), 3) := by decide +kernel
theorem dX3_reckonOne_73 : decode cX3_reckonOne 73 = .ok (.return_, 1) := by decide +kernel
theorem dX3_leavesGap_0 : decode cX3_leavesGap 0 = .ok (.iload_n 1, 1) := by decide +kernel
theorem dX3_leavesGap_1 : decode cX3_leavesGap 1 = .ok (.tableswitch 113 3 5 #[27, 54, 86], 27) := by decide +kernel
theorem dX3_leavesGap_28 : decode cX3_leavesGap 28 = .ok (.iload_n 2, 1) := by decide +kernel
theorem dX3_leavesGap_29 : decode cX3_leavesGap 29 = .ok (.iload_n 3, 1) := by decide +kernel
theorem dX3_leavesGap_30 : decode cX3_leavesGap 30 = .ok (.isub, 1) := by decide +kernel
theorem dX3_leavesGap_31 : decode cX3_leavesGap 31 = .ok (.iconst 1, 1) := by decide +kernel
theorem dX3_leavesGap_32 : decode cX3_leavesGap 32 = .ok (.iadd, 1) := by decide +kernel
theorem dX3_leavesGap_33 : decode cX3_leavesGap 33 = .ok (.ifCond .lt 16, 3) := by decide +kernel
theorem dX3_leavesGap_36 : decode cX3_leavesGap 36 = .ok (.aload_n 0, 1) := by decide +kernel
theorem dX3_leavesGap_37 : decode cX3_leavesGap 37 = .ok (.iload_n 2, 1) := by decide +kernel
theorem dX3_leavesGap_38 : decode cX3_leavesGap 38 = .ok (.iload_n 3, 1) := by decide +kernel
theorem dX3_leavesGap_39 : decode cX3_leavesGap 39 = .ok (.isub, 1) := by decide +kernel
theorem dX3_leavesGap_40 : decode cX3_leavesGap 40 = .ok (.iconst 1, 1) := by decide +kernel
theorem dX3_leavesGap_41 : decode cX3_leavesGap 41 = .ok (.iadd, 1) := by decide +kernel
theorem dX3_leavesGap_42 : decode cX3_leavesGap 42 = .ok (.iload_n 2, 1) := by decide +kernel
theorem dX3_leavesGap_43 : decode cX3_leavesGap 43 = .ok (.invokevirtual 62, 3) := by decide +kernel
theorem dX3_leavesGap_46 : decode cX3_leavesGap 46 = .ok (.ifCond .eq 7, 3) := by decide +kernel
theorem dX3_leavesGap_49 : decode cX3_leavesGap 49 = .ok (.iconst 1, 1) := by decide +kernel
theorem dX3_leavesGap_50 : decode cX3_leavesGap 50 = .ok (.goto 4, 3) := by decide +kernel
theorem dX3_leavesGap_53 : decode cX3_leavesGap 53 = .ok (.iconst 0, 1) := by decide +kernel
theorem dX3_leavesGap_54 : decode cX3_leavesGap 54 = .ok (.ireturn, 1) := by decide +kernel
theorem dX3_leavesGap_55 : decode cX3_leavesGap 55 = .ok (.iload_n 2, 1) := by decide +kernel
theorem dX3_leavesGap_56 : decode cX3_leavesGap 56 = .ok (.iload_n 3, 1) := by decide +kernel
theorem dX3_leavesGap_57 : decode cX3_leavesGap 57 = .ok (.isub, 1) := by decide +kernel
theorem dX3_leavesGap_58 : decode cX3_leavesGap 58 = .ok (.ifCond .lt 23, 3) := by decide +kernel
theorem dX3_leavesGap_61 : decode cX3_leavesGap 61 = .ok (.aload_n 0, 1) := by decide +kernel
theorem dX3_leavesGap_62 : decode cX3_leavesGap 62 = .ok (.getfield 15, 3) := by decide +kernel
theorem dX3_leavesGap_65 : decode cX3_leavesGap 65 = .ok (.iload_n 2, 1) := by decide +kernel
theorem dX3_leavesGap_66 : decode cX3_leavesGap 66 = .ok (.baload, 1) := by decide +kernel
theorem dX3_leavesGap_67 : decode cX3_leavesGap 67 = .ok (.ifCond .ne 14, 3) := by decide +kernel
theorem dX3_leavesGap_70 : decode cX3_leavesGap 70 = .ok (.aload_n 0, 1) := by decide +kernel
theorem dX3_leavesGap_71 : decode cX3_leavesGap 71 = .ok (.getfield 15, 3) := by decide +kernel
theorem dX3_leavesGap_74 : decode cX3_leavesGap 74 = .ok (.iload_n 2, 1) := by decide +kernel
theorem dX3_leavesGap_75 : decode cX3_leavesGap 75 = .ok (.iload_n 3, 1) := by decide +kernel
theorem dX3_leavesGap_76 : decode cX3_leavesGap 76 = .ok (.isub, 1) := by decide +kernel
theorem dX3_leavesGap_77 : decode cX3_leavesGap 77 = .ok (.baload, 1) := by decide +kernel
theorem dX3_leavesGap_78 : decode cX3_leavesGap 78 = .ok (.ifCond .eq 7, 3) := by decide +kernel
theorem dX3_leavesGap_81 : decode cX3_leavesGap 81 = .ok (.iconst 1, 1) := by decide +kernel
theorem dX3_leavesGap_82 : decode cX3_leavesGap 82 = .ok (.goto 4, 3) := by decide +kernel
theorem dX3_leavesGap_85 : decode cX3_leavesGap 85 = .ok (.iconst 0, 1) := by decide +kernel
theorem dX3_leavesGap_86 : decode cX3_leavesGap 86 = .ok (.ireturn, 1) := by decide +kernel
theorem dX3_leavesGap_87 : decode cX3_leavesGap 87 = .ok (.aload_n 0, 1) := by decide +kernel
theorem dX3_leavesGap_88 : decode cX3_leavesGap 88 = .ok (.getfield 15, 3) := by decide +kernel
theorem dX3_leavesGap_91 : decode cX3_leavesGap 91 = .ok (.iload_n 2, 1) := by decide +kernel
theorem dX3_leavesGap_92 : decode cX3_leavesGap 92 = .ok (.baload, 1) := by decide +kernel
theorem dX3_leavesGap_93 : decode cX3_leavesGap 93 = .ok (.ifCond .ne 15, 3) := by decide +kernel
theorem dX3_leavesGap_96 : decode cX3_leavesGap 96 = .ok (.aload_n 0, 1) := by decide +kernel
theorem dX3_leavesGap_97 : decode cX3_leavesGap 97 = .ok (.getfield 9, 3) := by decide +kernel
theorem dX3_leavesGap_100 : decode cX3_leavesGap 100 = .ok (.iload_n 2, 1) := by decide +kernel
theorem dX3_leavesGap_101 : decode cX3_leavesGap 101 = .ok (.laload, 1) := by decide +kernel
theorem dX3_leavesGap_102 : decode cX3_leavesGap 102 = .ok (.iload_n 3, 1) := by decide +kernel
theorem dX3_leavesGap_103 : decode cX3_leavesGap 103 = .ok (.i2l, 1) := by decide +kernel
theorem dX3_leavesGap_104 : decode cX3_leavesGap 104 = .ok (.lcmp, 1) := by decide +kernel
theorem dX3_leavesGap_105 : decode cX3_leavesGap 105 = .ok (.ifCond .ge 7, 3) := by decide +kernel
theorem dX3_leavesGap_108 : decode cX3_leavesGap 108 = .ok (.iconst 1, 1) := by decide +kernel
theorem dX3_leavesGap_109 : decode cX3_leavesGap 109 = .ok (.goto 4, 3) := by decide +kernel
theorem dX3_leavesGap_112 : decode cX3_leavesGap 112 = .ok (.iconst 0, 1) := by decide +kernel
theorem dX3_leavesGap_113 : decode cX3_leavesGap 113 = .ok (.ireturn, 1) := by decide +kernel
theorem dX3_leavesGap_114 : decode cX3_leavesGap 114 = .ok (.aload_n 0, 1) := by decide +kernel
theorem dX3_leavesGap_115 : decode cX3_leavesGap 115 = .ok (.getfield 15, 3) := by decide +kernel
theorem dX3_leavesGap_118 : decode cX3_leavesGap 118 = .ok (.iload_n 2, 1) := by decide +kernel
theorem dX3_leavesGap_119 : decode cX3_leavesGap 119 = .ok (.baload, 1) := by decide +kernel
theorem dX3_leavesGap_120 : decode cX3_leavesGap 120 = .ok (.ireturn, 1) := by decide +kernel
theorem dX3_reckoned_0 : decode cX3_reckoned 0 = .ok (.iload_n 1, 1) := by decide +kernel
theorem dX3_reckoned_1 : decode cX3_reckoned 1 = .ok (.tableswitch 60 3 5 #[27, 38, 53], 27) := by decide +kernel
theorem dX3_reckoned_28 : decode cX3_reckoned 28 = .ok (.aload_n 0, 1) := by decide +kernel
theorem dX3_reckoned_29 : decode cX3_reckoned 29 = .ok (.iload_n 2, 1) := by decide +kernel
theorem dX3_reckoned_30 : decode cX3_reckoned 30 = .ok (.iload_n 3, 1) := by decide +kernel
theorem dX3_reckoned_31 : decode cX3_reckoned 31 = .ok (.isub, 1) := by decide +kernel
theorem dX3_reckoned_32 : decode cX3_reckoned 32 = .ok (.iconst 1, 1) := by decide +kernel
theorem dX3_reckoned_33 : decode cX3_reckoned 33 = .ok (.iadd, 1) := by decide +kernel
theorem dX3_reckoned_34 : decode cX3_reckoned 34 = .ok (.iload_n 2, 1) := by decide +kernel
theorem dX3_reckoned_35 : decode cX3_reckoned 35 = .ok (.invokevirtual 66, 3) := by decide +kernel
theorem dX3_reckoned_38 : decode cX3_reckoned 38 = .ok (.lreturn, 1) := by decide +kernel
theorem dX3_reckoned_39 : decode cX3_reckoned 39 = .ok (.aload_n 0, 1) := by decide +kernel
theorem dX3_reckoned_40 : decode cX3_reckoned 40 = .ok (.getfield 9, 3) := by decide +kernel
theorem dX3_reckoned_43 : decode cX3_reckoned 43 = .ok (.iload_n 2, 1) := by decide +kernel
theorem dX3_reckoned_44 : decode cX3_reckoned 44 = .ok (.laload, 1) := by decide +kernel
theorem dX3_reckoned_45 : decode cX3_reckoned 45 = .ok (.aload_n 0, 1) := by decide +kernel
theorem dX3_reckoned_46 : decode cX3_reckoned 46 = .ok (.iload_n 2, 1) := by decide +kernel
theorem dX3_reckoned_47 : decode cX3_reckoned 47 = .ok (.iload_n 3, 1) := by decide +kernel
theorem dX3_reckoned_48 : decode cX3_reckoned 48 = .ok (.isub, 1) := by decide +kernel
theorem dX3_reckoned_49 : decode cX3_reckoned 49 = .ok (.invokevirtual 70, 3) := by decide +kernel
theorem dX3_reckoned_52 : decode cX3_reckoned 52 = .ok (.lsub, 1) := by decide +kernel
theorem dX3_reckoned_53 : decode cX3_reckoned 53 = .ok (.lreturn, 1) := by decide +kernel
theorem dX3_reckoned_54 : decode cX3_reckoned 54 = .ok (.aload_n 0, 1) := by decide +kernel
theorem dX3_reckoned_55 : decode cX3_reckoned 55 = .ok (.getfield 9, 3) := by decide +kernel
theorem dX3_reckoned_58 : decode cX3_reckoned 58 = .ok (.iload_n 2, 1) := by decide +kernel
theorem dX3_reckoned_59 : decode cX3_reckoned 59 = .ok (.laload, 1) := by decide +kernel
theorem dX3_reckoned_60 : decode cX3_reckoned 60 = .ok (.lreturn, 1) := by decide +kernel
theorem dX3_reckoned_61 : decode cX3_reckoned 61 = .ok (.iload_n 3, 1) := by decide +kernel
theorem dX3_reckoned_62 : decode cX3_reckoned 62 = .ok (.i2l, 1) := by decide +kernel
theorem dX3_reckoned_63 : decode cX3_reckoned 63 = .ok (.aload_n 0, 1) := by decide +kernel
theorem dX3_reckoned_64 : decode cX3_reckoned 64 = .ok (.getfield 9, 3) := by decide +kernel
theorem dX3_reckoned_67 : decode cX3_reckoned 67 = .ok (.iload_n 2, 1) := by decide +kernel
theorem dX3_reckoned_68 : decode cX3_reckoned 68 = .ok (.laload, 1) := by decide +kernel
theorem dX3_reckoned_69 : decode cX3_reckoned 69 = .ok (.lmul, 1) := by decide +kernel
theorem dX3_reckoned_70 : decode cX3_reckoned 70 = .ok (.lreturn, 1) := by decide +kernel
theorem dX3_fillFrom_0 : decode cX3_fillFrom 0 = .ok (.iconst 0, 1) := by decide +kernel
theorem dX3_fillFrom_1 : decode cX3_fillFrom 1 = .ok (.istore_n 2, 1) := by decide +kernel
theorem dX3_fillFrom_2 : decode cX3_fillFrom 2 = .ok (.lconst 0, 1) := by decide +kernel
theorem dX3_fillFrom_3 : decode cX3_fillFrom 3 = .ok (.lstore_n 3, 1) := by decide +kernel
theorem dX3_fillFrom_4 : decode cX3_fillFrom 4 = .ok (.aload_n 0, 1) := by decide +kernel
theorem dX3_fillFrom_5 : decode cX3_fillFrom 5 = .ok (.aload_n 1, 1) := by decide +kernel
theorem dX3_fillFrom_6 : decode cX3_fillFrom 6 = .ok (.getfield 25, 3) := by decide +kernel
theorem dX3_fillFrom_9 : decode cX3_fillFrom 9 = .ok (.putfield 25, 3) := by decide +kernel
theorem dX3_fillFrom_12 : decode cX3_fillFrom 12 = .ok (.iconst 0, 1) := by decide +kernel
theorem dX3_fillFrom_13 : decode cX3_fillFrom 13 = .ok (.istore 5, 2) := by decide +kernel
theorem dX3_fillFrom_15 : decode cX3_fillFrom 15 = .ok (.iload 5, 2) := by decide +kernel
theorem dX3_fillFrom_17 : decode cX3_fillFrom 17 = .ok (.aload_n 0, 1) := by decide +kernel
theorem dX3_fillFrom_18 : decode cX3_fillFrom 18 = .ok (.getfield 25, 3) := by decide +kernel
theorem dX3_fillFrom_21 : decode cX3_fillFrom 21 = .ok (.if_icmp .ge 49, 3) := by decide +kernel
theorem dX3_fillFrom_24 : decode cX3_fillFrom 24 = .ok (.aload_n 1, 1) := by decide +kernel
theorem dX3_fillFrom_25 : decode cX3_fillFrom 25 = .ok (.getfield 15, 3) := by decide +kernel
theorem dX3_fillFrom_28 : decode cX3_fillFrom 28 = .ok (.iload 5, 2) := by decide +kernel
theorem dX3_fillFrom_30 : decode cX3_fillFrom 30 = .ok (.baload, 1) := by decide +kernel
theorem dX3_fillFrom_31 : decode cX3_fillFrom 31 = .ok (.ifCond .ne 13, 3) := by decide +kernel
theorem dX3_fillFrom_34 : decode cX3_fillFrom 34 = .ok (.iconst 1, 1) := by decide +kernel
theorem dX3_fillFrom_35 : decode cX3_fillFrom 35 = .ok (.istore_n 2, 1) := by decide +kernel
theorem dX3_fillFrom_36 : decode cX3_fillFrom 36 = .ok (.aload_n 1, 1) := by decide +kernel
theorem dX3_fillFrom_37 : decode cX3_fillFrom 37 = .ok (.getfield 9, 3) := by decide +kernel
theorem dX3_fillFrom_40 : decode cX3_fillFrom 40 = .ok (.iload 5, 2) := by decide +kernel
theorem dX3_fillFrom_42 : decode cX3_fillFrom 42 = .ok (.laload, 1) := by decide +kernel
theorem dX3_fillFrom_43 : decode cX3_fillFrom 43 = .ok (.lstore_n 3, 1) := by decide +kernel
theorem dX3_fillFrom_44 : decode cX3_fillFrom 44 = .ok (.iload_n 2, 1) := by decide +kernel
theorem dX3_fillFrom_45 : decode cX3_fillFrom 45 = .ok (.ifCond .eq 13, 3) := by decide +kernel
theorem dX3_fillFrom_48 : decode cX3_fillFrom 48 = .ok (.aload_n 0, 1) := by decide +kernel
theorem dX3_fillFrom_49 : decode cX3_fillFrom 49 = .ok (.iload 5, 2) := by decide +kernel
theorem dX3_fillFrom_51 : decode cX3_fillFrom 51 = .ok (.lload_n 3, 1) := by decide +kernel
theorem dX3_fillFrom_52 : decode cX3_fillFrom 52 = .ok (.invokevirtual 30, 3) := by decide +kernel
theorem dX3_fillFrom_55 : decode cX3_fillFrom 55 = .ok (.goto 9, 3) := by decide +kernel
theorem dX3_fillFrom_58 : decode cX3_fillFrom 58 = .ok (.aload_n 0, 1) := by decide +kernel
theorem dX3_fillFrom_59 : decode cX3_fillFrom 59 = .ok (.iload 5, 2) := by decide +kernel
theorem dX3_fillFrom_61 : decode cX3_fillFrom 61 = .ok (.invokevirtual 43, 3) := by decide +kernel
theorem dX3_fillFrom_64 : decode cX3_fillFrom 64 = .ok (.iinc 5 1, 3) := by decide +kernel
theorem dX3_fillFrom_67 : decode cX3_fillFrom 67 = .ok (.goto (-52), 3) := by decide +kernel
theorem dX3_fillFrom_70 : decode cX3_fillFrom 70 = .ok (.return_, 1) := by decide +kernel
theorem dX3_hasGap_0 : decode cX3_hasGap 0 = .ok (.iload_n 1, 1) := by decide +kernel
theorem dX3_hasGap_1 : decode cX3_hasGap 1 = .ok (.iconst 0, 1) := by decide +kernel
theorem dX3_hasGap_2 : decode cX3_hasGap 2 = .ok (.invokestatic 74, 3) := by decide +kernel
theorem dX3_hasGap_5 : decode cX3_hasGap 5 = .ok (.istore_n 3, 1) := by decide +kernel
theorem dX3_hasGap_6 : decode cX3_hasGap 6 = .ok (.iload_n 3, 1) := by decide +kernel
theorem dX3_hasGap_7 : decode cX3_hasGap 7 = .ok (.iload_n 2, 1) := by decide +kernel
theorem dX3_hasGap_8 : decode cX3_hasGap 8 = .ok (.if_icmp .gt 28, 3) := by decide +kernel
theorem dX3_hasGap_11 : decode cX3_hasGap 11 = .ok (.iload_n 3, 1) := by decide +kernel
theorem dX3_hasGap_12 : decode cX3_hasGap 12 = .ok (.aload_n 0, 1) := by decide +kernel
theorem dX3_hasGap_13 : decode cX3_hasGap 13 = .ok (.getfield 25, 3) := by decide +kernel
theorem dX3_hasGap_16 : decode cX3_hasGap 16 = .ok (.if_icmp .ge 20, 3) := by decide +kernel
theorem dX3_hasGap_19 : decode cX3_hasGap 19 = .ok (.aload_n 0, 1) := by decide +kernel
theorem dX3_hasGap_20 : decode cX3_hasGap 20 = .ok (.getfield 15, 3) := by decide +kernel
theorem dX3_hasGap_23 : decode cX3_hasGap 23 = .ok (.iload_n 3, 1) := by decide +kernel
theorem dX3_hasGap_24 : decode cX3_hasGap 24 = .ok (.baload, 1) := by decide +kernel
theorem dX3_hasGap_25 : decode cX3_hasGap 25 = .ok (.ifCond .eq 5, 3) := by decide +kernel
theorem dX3_hasGap_28 : decode cX3_hasGap 28 = .ok (.iconst 1, 1) := by decide +kernel
theorem dX3_hasGap_29 : decode cX3_hasGap 29 = .ok (.ireturn, 1) := by decide +kernel
theorem dX3_hasGap_30 : decode cX3_hasGap 30 = .ok (.iinc 3 1, 3) := by decide +kernel
theorem dX3_hasGap_33 : decode cX3_hasGap 33 = .ok (.goto (-27), 3) := by decide +kernel
theorem dX3_hasGap_36 : decode cX3_hasGap 36 = .ok (.iconst 0, 1) := by decide +kernel
theorem dX3_hasGap_37 : decode cX3_hasGap 37 = .ok (.ireturn, 1) := by decide +kernel
theorem dX3_sum_0 : decode cX3_sum 0 = .ok (.lconst 0, 1) := by decide +kernel
theorem dX3_sum_1 : decode cX3_sum 1 = .ok (.lstore_n 3, 1) := by decide +kernel
theorem dX3_sum_2 : decode cX3_sum 2 = .ok (.iload_n 1, 1) := by decide +kernel
theorem dX3_sum_3 : decode cX3_sum 3 = .ok (.iconst 0, 1) := by decide +kernel
theorem dX3_sum_4 : decode cX3_sum 4 = .ok (.invokestatic 74, 3) := by decide +kernel
theorem dX3_sum_7 : decode cX3_sum 7 = .ok (.istore 5, 2) := by decide +kernel
theorem dX3_sum_9 : decode cX3_sum 9 = .ok (.iload 5, 2) := by decide +kernel
theorem dX3_sum_11 : decode cX3_sum 11 = .ok (.iload_n 2, 1) := by decide +kernel
theorem dX3_sum_12 : decode cX3_sum 12 = .ok (.if_icmp .gt 28, 3) := by decide +kernel
theorem dX3_sum_15 : decode cX3_sum 15 = .ok (.iload 5, 2) := by decide +kernel
theorem dX3_sum_17 : decode cX3_sum 17 = .ok (.aload_n 0, 1) := by decide +kernel
theorem dX3_sum_18 : decode cX3_sum 18 = .ok (.getfield 25, 3) := by decide +kernel
theorem dX3_sum_21 : decode cX3_sum 21 = .ok (.if_icmp .ge 19, 3) := by decide +kernel
theorem dX3_sum_24 : decode cX3_sum 24 = .ok (.lload_n 3, 1) := by decide +kernel
theorem dX3_sum_25 : decode cX3_sum 25 = .ok (.aload_n 0, 1) := by decide +kernel
theorem dX3_sum_26 : decode cX3_sum 26 = .ok (.getfield 9, 3) := by decide +kernel
theorem dX3_sum_29 : decode cX3_sum 29 = .ok (.iload 5, 2) := by decide +kernel
theorem dX3_sum_31 : decode cX3_sum 31 = .ok (.laload, 1) := by decide +kernel
theorem dX3_sum_32 : decode cX3_sum 32 = .ok (.ladd, 1) := by decide +kernel
theorem dX3_sum_33 : decode cX3_sum 33 = .ok (.lstore_n 3, 1) := by decide +kernel
theorem dX3_sum_34 : decode cX3_sum 34 = .ok (.iinc 5 1, 3) := by decide +kernel
theorem dX3_sum_37 : decode cX3_sum 37 = .ok (.goto (-28), 3) := by decide +kernel
theorem dX3_sum_40 : decode cX3_sum 40 = .ok (.lload_n 3, 1) := by decide +kernel
theorem dX3_sum_41 : decode cX3_sum 41 = .ok (.lreturn, 1) := by decide +kernel
theorem dX3_countGaps_0 : decode cX3_countGaps 0 = .ok (.iconst 0, 1) := by decide +kernel
theorem dX3_countGaps_1 : decode cX3_countGaps 1 = .ok (.istore_n 1, 1) := by decide +kernel
theorem dX3_countGaps_2 : decode cX3_countGaps 2 = .ok (.iconst 0, 1) := by decide +kernel
theorem dX3_countGaps_3 : decode cX3_countGaps 3 = .ok (.istore_n 2, 1) := by decide +kernel
theorem dX3_countGaps_4 : decode cX3_countGaps 4 = .ok (.iload_n 2, 1) := by decide +kernel
theorem dX3_countGaps_5 : decode cX3_countGaps 5 = .ok (.aload_n 0, 1) := by decide +kernel
theorem dX3_countGaps_6 : decode cX3_countGaps 6 = .ok (.getfield 25, 3) := by decide +kernel
theorem dX3_countGaps_9 : decode cX3_countGaps 9 = .ok (.if_icmp .ge 21, 3) := by decide +kernel
theorem dX3_countGaps_12 : decode cX3_countGaps 12 = .ok (.aload_n 0, 1) := by decide +kernel
theorem dX3_countGaps_13 : decode cX3_countGaps 13 = .ok (.getfield 15, 3) := by decide +kernel
theorem dX3_countGaps_16 : decode cX3_countGaps 16 = .ok (.iload_n 2, 1) := by decide +kernel
theorem dX3_countGaps_17 : decode cX3_countGaps 17 = .ok (.baload, 1) := by decide +kernel
theorem dX3_countGaps_18 : decode cX3_countGaps 18 = .ok (.ifCond .eq 6, 3) := by decide +kernel
theorem dX3_countGaps_21 : decode cX3_countGaps 21 = .ok (.iinc 1 1, 3) := by decide +kernel
theorem dX3_countGaps_24 : decode cX3_countGaps 24 = .ok (.iinc 2 1, 3) := by decide +kernel
theorem dX3_countGaps_27 : decode cX3_countGaps 27 = .ok (.goto (-23), 3) := by decide +kernel
theorem dX3_countGaps_30 : decode cX3_countGaps 30 = .ok (.iload_n 1, 1) := by decide +kernel
theorem dX3_countGaps_31 : decode cX3_countGaps 31 = .ok (.ireturn, 1) := by decide +kernel
theorem dX3_placeOfLeast_0 : decode cX3_placeOfLeast 0 = .ok (.bipush (-4), 2) := by decide +kernel
theorem dX3_placeOfLeast_2 : decode cX3_placeOfLeast 2 = .ok (.istore_n 1, 1) := by decide +kernel
theorem dX3_placeOfLeast_3 : decode cX3_placeOfLeast 3 = .ok (.iconst 0, 1) := by decide +kernel
theorem dX3_placeOfLeast_4 : decode cX3_placeOfLeast 4 = .ok (.istore_n 2, 1) := by decide +kernel
theorem dX3_placeOfLeast_5 : decode cX3_placeOfLeast 5 = .ok (.iload_n 2, 1) := by decide +kernel
theorem dX3_placeOfLeast_6 : decode cX3_placeOfLeast 6 = .ok (.aload_n 0, 1) := by decide +kernel
theorem dX3_placeOfLeast_7 : decode cX3_placeOfLeast 7 = .ok (.getfield 25, 3) := by decide +kernel
theorem dX3_placeOfLeast_10 : decode cX3_placeOfLeast 10 = .ok (.if_icmp .ge 40, 3) := by decide +kernel
theorem dX3_placeOfLeast_13 : decode cX3_placeOfLeast 13 = .ok (.aload_n 0, 1) := by decide +kernel
theorem dX3_placeOfLeast_14 : decode cX3_placeOfLeast 14 = .ok (.getfield 15, 3) := by decide +kernel
theorem dX3_placeOfLeast_17 : decode cX3_placeOfLeast 17 = .ok (.iload_n 2, 1) := by decide +kernel
theorem dX3_placeOfLeast_18 : decode cX3_placeOfLeast 18 = .ok (.baload, 1) := by decide +kernel
theorem dX3_placeOfLeast_19 : decode cX3_placeOfLeast 19 = .ok (.ifCond .ne 25, 3) := by decide +kernel
theorem dX3_placeOfLeast_22 : decode cX3_placeOfLeast 22 = .ok (.iload_n 1, 1) := by decide +kernel
theorem dX3_placeOfLeast_23 : decode cX3_placeOfLeast 23 = .ok (.ifCond .lt 19, 3) := by decide +kernel
theorem dX3_placeOfLeast_26 : decode cX3_placeOfLeast 26 = .ok (.aload_n 0, 1) := by decide +kernel
theorem dX3_placeOfLeast_27 : decode cX3_placeOfLeast 27 = .ok (.getfield 9, 3) := by decide +kernel
theorem dX3_placeOfLeast_30 : decode cX3_placeOfLeast 30 = .ok (.iload_n 2, 1) := by decide +kernel
theorem dX3_placeOfLeast_31 : decode cX3_placeOfLeast 31 = .ok (.laload, 1) := by decide +kernel
theorem dX3_placeOfLeast_32 : decode cX3_placeOfLeast 32 = .ok (.aload_n 0, 1) := by decide +kernel
theorem dX3_placeOfLeast_33 : decode cX3_placeOfLeast 33 = .ok (.getfield 9, 3) := by decide +kernel
theorem dX3_placeOfLeast_36 : decode cX3_placeOfLeast 36 = .ok (.iload_n 1, 1) := by decide +kernel
theorem dX3_placeOfLeast_37 : decode cX3_placeOfLeast 37 = .ok (.laload, 1) := by decide +kernel
theorem dX3_placeOfLeast_38 : decode cX3_placeOfLeast 38 = .ok (.lcmp, 1) := by decide +kernel
theorem dX3_placeOfLeast_39 : decode cX3_placeOfLeast 39 = .ok (.ifCond .ge 5, 3) := by decide +kernel
theorem dX3_placeOfLeast_42 : decode cX3_placeOfLeast 42 = .ok (.iload_n 2, 1) := by decide +kernel
theorem dX3_placeOfLeast_43 : decode cX3_placeOfLeast 43 = .ok (.istore_n 1, 1) := by decide +kernel
theorem dX3_placeOfLeast_44 : decode cX3_placeOfLeast 44 = .ok (.iinc 2 1, 3) := by decide +kernel
theorem dX3_placeOfLeast_47 : decode cX3_placeOfLeast 47 = .ok (.goto (-42), 3) := by decide +kernel
theorem dX3_placeOfLeast_50 : decode cX3_placeOfLeast 50 = .ok (.iload_n 1, 1) := by decide +kernel
theorem dX3_placeOfLeast_51 : decode cX3_placeOfLeast 51 = .ok (.ireturn, 1) := by decide +kernel
theorem dX3_placeOfGreatest_0 : decode cX3_placeOfGreatest 0 = .ok (.bipush (-4), 2) := by decide +kernel
theorem dX3_placeOfGreatest_2 : decode cX3_placeOfGreatest 2 = .ok (.istore_n 1, 1) := by decide +kernel
theorem dX3_placeOfGreatest_3 : decode cX3_placeOfGreatest 3 = .ok (.iconst 0, 1) := by decide +kernel
theorem dX3_placeOfGreatest_4 : decode cX3_placeOfGreatest 4 = .ok (.istore_n 2, 1) := by decide +kernel
theorem dX3_placeOfGreatest_5 : decode cX3_placeOfGreatest 5 = .ok (.iload_n 2, 1) := by decide +kernel
theorem dX3_placeOfGreatest_6 : decode cX3_placeOfGreatest 6 = .ok (.aload_n 0, 1) := by decide +kernel
theorem dX3_placeOfGreatest_7 : decode cX3_placeOfGreatest 7 = .ok (.getfield 25, 3) := by decide +kernel
theorem dX3_placeOfGreatest_10 : decode cX3_placeOfGreatest 10 = .ok (.if_icmp .ge 40, 3) := by decide +kernel
theorem dX3_placeOfGreatest_13 : decode cX3_placeOfGreatest 13 = .ok (.aload_n 0, 1) := by decide +kernel
theorem dX3_placeOfGreatest_14 : decode cX3_placeOfGreatest 14 = .ok (.getfield 15, 3) := by decide +kernel
theorem dX3_placeOfGreatest_17 : decode cX3_placeOfGreatest 17 = .ok (.iload_n 2, 1) := by decide +kernel
theorem dX3_placeOfGreatest_18 : decode cX3_placeOfGreatest 18 = .ok (.baload, 1) := by decide +kernel
theorem dX3_placeOfGreatest_19 : decode cX3_placeOfGreatest 19 = .ok (.ifCond .ne 25, 3) := by decide +kernel
theorem dX3_placeOfGreatest_22 : decode cX3_placeOfGreatest 22 = .ok (.iload_n 1, 1) := by decide +kernel
theorem dX3_placeOfGreatest_23 : decode cX3_placeOfGreatest 23 = .ok (.ifCond .lt 19, 3) := by decide +kernel
theorem dX3_placeOfGreatest_26 : decode cX3_placeOfGreatest 26 = .ok (.aload_n 0, 1) := by decide +kernel
theorem dX3_placeOfGreatest_27 : decode cX3_placeOfGreatest 27 = .ok (.getfield 9, 3) := by decide +kernel
theorem dX3_placeOfGreatest_30 : decode cX3_placeOfGreatest 30 = .ok (.iload_n 2, 1) := by decide +kernel
theorem dX3_placeOfGreatest_31 : decode cX3_placeOfGreatest 31 = .ok (.laload, 1) := by decide +kernel
theorem dX3_placeOfGreatest_32 : decode cX3_placeOfGreatest 32 = .ok (.aload_n 0, 1) := by decide +kernel
theorem dX3_placeOfGreatest_33 : decode cX3_placeOfGreatest 33 = .ok (.getfield 9, 3) := by decide +kernel
theorem dX3_placeOfGreatest_36 : decode cX3_placeOfGreatest 36 = .ok (.iload_n 1, 1) := by decide +kernel
theorem dX3_placeOfGreatest_37 : decode cX3_placeOfGreatest 37 = .ok (.laload, 1) := by decide +kernel
theorem dX3_placeOfGreatest_38 : decode cX3_placeOfGreatest 38 = .ok (.lcmp, 1) := by decide +kernel
theorem dX3_placeOfGreatest_39 : decode cX3_placeOfGreatest 39 = .ok (.ifCond .le 5, 3) := by decide +kernel
theorem dX3_placeOfGreatest_42 : decode cX3_placeOfGreatest 42 = .ok (.iload_n 2, 1) := by decide +kernel
theorem dX3_placeOfGreatest_43 : decode cX3_placeOfGreatest 43 = .ok (.istore_n 1, 1) := by decide +kernel
theorem dX3_placeOfGreatest_44 : decode cX3_placeOfGreatest 44 = .ok (.iinc 2 1, 3) := by decide +kernel
theorem dX3_placeOfGreatest_47 : decode cX3_placeOfGreatest 47 = .ok (.goto (-42), 3) := by decide +kernel
theorem dX3_placeOfGreatest_50 : decode cX3_placeOfGreatest 50 = .ok (.iload_n 1, 1) := by decide +kernel
theorem dX3_placeOfGreatest_51 : decode cX3_placeOfGreatest 51 = .ok (.ireturn, 1) := by decide +kernel
theorem dX3_firstGap_0 : decode cX3_firstGap 0 = .ok (.iconst 0, 1) := by decide +kernel
theorem dX3_firstGap_1 : decode cX3_firstGap 1 = .ok (.istore_n 1, 1) := by decide +kernel
theorem dX3_firstGap_2 : decode cX3_firstGap 2 = .ok (.iload_n 1, 1) := by decide +kernel
theorem dX3_firstGap_3 : decode cX3_firstGap 3 = .ok (.aload_n 0, 1) := by decide +kernel
theorem dX3_firstGap_4 : decode cX3_firstGap 4 = .ok (.getfield 25, 3) := by decide +kernel
theorem dX3_firstGap_7 : decode cX3_firstGap 7 = .ok (.if_icmp .ge 20, 3) := by decide +kernel
theorem dX3_firstGap_10 : decode cX3_firstGap 10 = .ok (.aload_n 0, 1) := by decide +kernel
theorem dX3_firstGap_11 : decode cX3_firstGap 11 = .ok (.getfield 15, 3) := by decide +kernel
theorem dX3_firstGap_14 : decode cX3_firstGap 14 = .ok (.iload_n 1, 1) := by decide +kernel
theorem dX3_firstGap_15 : decode cX3_firstGap 15 = .ok (.baload, 1) := by decide +kernel
theorem dX3_firstGap_16 : decode cX3_firstGap 16 = .ok (.ifCond .eq 5, 3) := by decide +kernel
theorem dX3_firstGap_19 : decode cX3_firstGap 19 = .ok (.iload_n 1, 1) := by decide +kernel
theorem dX3_firstGap_20 : decode cX3_firstGap 20 = .ok (.ireturn, 1) := by decide +kernel
theorem dX3_firstGap_21 : decode cX3_firstGap 21 = .ok (.iinc 1 1, 3) := by decide +kernel
theorem dX3_firstGap_24 : decode cX3_firstGap 24 = .ok (.goto (-22), 3) := by decide +kernel
theorem dX3_firstGap_27 : decode cX3_firstGap 27 = .ok (.bipush (-4), 2) := by decide +kernel
theorem dX3_firstGap_29 : decode cX3_firstGap 29 = .ok (.ireturn, 1) := by decide +kernel
theorem dX3_comesTo_0 : decode cX3_comesTo 0 = .ok (.iload_n 3, 1) := by decide +kernel
theorem dX3_comesTo_1 : decode cX3_comesTo 1 = .ok (.ifCond .le 51, 3) := by decide +kernel
theorem dX3_comesTo_4 : decode cX3_comesTo 4 = .ok (.aload_n 0, 1) := by decide +kernel
theorem dX3_comesTo_5 : decode cX3_comesTo 5 = .ok (.getfield 15, 3) := by decide +kernel
theorem dX3_comesTo_8 : decode cX3_comesTo 8 = .ok (.iload_n 3, 1) := by decide +kernel
theorem dX3_comesTo_9 : decode cX3_comesTo 9 = .ok (.iconst 1, 1) := by decide +kernel
theorem dX3_comesTo_10 : decode cX3_comesTo 10 = .ok (.isub, 1) := by decide +kernel
theorem dX3_comesTo_11 : decode cX3_comesTo 11 = .ok (.baload, 1) := by decide +kernel
theorem dX3_comesTo_12 : decode cX3_comesTo 12 = .ok (.ifCond .ne 40, 3) := by decide +kernel
theorem dX3_comesTo_15 : decode cX3_comesTo 15 = .ok (.aload_n 0, 1) := by decide +kernel
theorem dX3_comesTo_16 : decode cX3_comesTo 16 = .ok (.getfield 15, 3) := by decide +kernel
theorem dX3_comesTo_19 : decode cX3_comesTo 19 = .ok (.iload_n 3, 1) := by decide +kernel
theorem dX3_comesTo_20 : decode cX3_comesTo 20 = .ok (.baload, 1) := by decide +kernel
theorem dX3_comesTo_21 : decode cX3_comesTo 21 = .ok (.ifCond .ne 31, 3) := by decide +kernel
theorem dX3_comesTo_24 : decode cX3_comesTo 24 = .ok (.aload_n 0, 1) := by decide +kernel
theorem dX3_comesTo_25 : decode cX3_comesTo 25 = .ok (.getfield 9, 3) := by decide +kernel
theorem dX3_comesTo_28 : decode cX3_comesTo 28 = .ok (.iload_n 3, 1) := by decide +kernel
theorem dX3_comesTo_29 : decode cX3_comesTo 29 = .ok (.iconst 1, 1) := by decide +kernel
theorem dX3_comesTo_30 : decode cX3_comesTo 30 = .ok (.isub, 1) := by decide +kernel
theorem dX3_comesTo_31 : decode cX3_comesTo 31 = .ok (.laload, 1) := by decide +kernel
theorem dX3_comesTo_32 : decode cX3_comesTo 32 = .ok (.lload_n 1, 1) := by decide +kernel
theorem dX3_comesTo_33 : decode cX3_comesTo 33 = .ok (.lcmp, 1) := by decide +kernel
theorem dX3_comesTo_34 : decode cX3_comesTo 34 = .ok (.ifCond .ge 18, 3) := by decide +kernel
theorem dX3_comesTo_37 : decode cX3_comesTo 37 = .ok (.aload_n 0, 1) := by decide +kernel
theorem dX3_comesTo_38 : decode cX3_comesTo 38 = .ok (.getfield 9, 3) := by decide +kernel
theorem dX3_comesTo_41 : decode cX3_comesTo 41 = .ok (.iload_n 3, 1) := by decide +kernel
theorem dX3_comesTo_42 : decode cX3_comesTo 42 = .ok (.laload, 1) := by decide +kernel
theorem dX3_comesTo_43 : decode cX3_comesTo 43 = .ok (.lload_n 1, 1) := by decide +kernel
theorem dX3_comesTo_44 : decode cX3_comesTo 44 = .ok (.lcmp, 1) := by decide +kernel
theorem dX3_comesTo_45 : decode cX3_comesTo 45 = .ok (.ifCond .lt 7, 3) := by decide +kernel
theorem dX3_comesTo_48 : decode cX3_comesTo 48 = .ok (.iconst 1, 1) := by decide +kernel
theorem dX3_comesTo_49 : decode cX3_comesTo 49 = .ok (.goto 4, 3) := by decide +kernel
theorem dX3_comesTo_52 : decode cX3_comesTo 52 = .ok (.iconst 0, 1) := by decide +kernel
theorem dX3_comesTo_53 : decode cX3_comesTo 53 = .ok (.ireturn, 1) := by decide +kernel
theorem dX3_measureTurns_0 : decode cX3_measureTurns 0 = .ok (.iconst 0, 1) := by decide +kernel
theorem dX3_measureTurns_1 : decode cX3_measureTurns 1 = .ok (.istore 4, 2) := by decide +kernel
theorem dX3_measureTurns_3 : decode cX3_measureTurns 3 = .ok (.iconst 0, 1) := by decide +kernel
theorem dX3_measureTurns_4 : decode cX3_measureTurns 4 = .ok (.istore 5, 2) := by decide +kernel
theorem dX3_measureTurns_6 : decode cX3_measureTurns 6 = .ok (.iconst 0, 1) := by decide +kernel
theorem dX3_measureTurns_7 : decode cX3_measureTurns 7 = .ok (.istore 6, 2) := by decide +kernel
theorem dX3_measureTurns_9 : decode cX3_measureTurns 9 = .ok (.iconst 0, 1) := by decide +kernel
theorem dX3_measureTurns_10 : decode cX3_measureTurns 10 = .ok (.istore 7, 2) := by decide +kernel
theorem dX3_measureTurns_12 : decode cX3_measureTurns 12 = .ok (.iconst 0, 1) := by decide +kernel
theorem dX3_measureTurns_13 : decode cX3_measureTurns 13 = .ok (.istore 8, 2) := by decide +kernel
theorem dX3_measureTurns_15 : decode cX3_measureTurns 15 = .ok (.bipush (-4), 2) := by decide +kernel
theorem dX3_measureTurns_17 : decode cX3_measureTurns 17 = .ok (.istore 9, 2) := by decide +kernel
theorem dX3_measureTurns_19 : decode cX3_measureTurns 19 = .ok (.iconst 0, 1) := by decide +kernel
theorem dX3_measureTurns_20 : decode cX3_measureTurns 20 = .ok (.istore 10, 2) := by decide +kernel
theorem dX3_measureTurns_22 : decode cX3_measureTurns 22 = .ok (.iconst 0, 1) := by decide +kernel
theorem dX3_measureTurns_23 : decode cX3_measureTurns 23 = .ok (.istore 11, 2) := by decide +kernel
theorem dX3_measureTurns_25 : decode cX3_measureTurns 25 = .ok (.iload 11, 2) := by decide +kernel
theorem dX3_measureTurns_27 : decode cX3_measureTurns 27 = .ok (.aload_n 0, 1) := by decide +kernel
theorem dX3_measureTurns_28 : decode cX3_measureTurns 28 = .ok (.getfield 25, 3) := by decide +kernel
theorem dX3_measureTurns_31 : decode cX3_measureTurns 31 = .ok (.if_icmp .ge 127, 3) := by decide +kernel
theorem dX3_measureTurns_34 : decode cX3_measureTurns 34 = .ok (.aload_n 0, 1) := by decide +kernel
theorem dX3_measureTurns_35 : decode cX3_measureTurns 35 = .ok (.getfield 15, 3) := by decide +kernel
theorem dX3_measureTurns_38 : decode cX3_measureTurns 38 = .ok (.iload 11, 2) := by decide +kernel
theorem dX3_measureTurns_40 : decode cX3_measureTurns 40 = .ok (.baload, 1) := by decide +kernel
theorem dX3_measureTurns_41 : decode cX3_measureTurns 41 = .ok (.ifCond .eq 10, 3) := by decide +kernel
theorem dX3_measureTurns_44 : decode cX3_measureTurns 44 = .ok (.bipush (-4), 2) := by decide +kernel
theorem dX3_measureTurns_46 : decode cX3_measureTurns 46 = .ok (.istore 9, 2) := by decide +kernel
theorem dX3_measureTurns_48 : decode cX3_measureTurns 48 = .ok (.goto 79, 3) := by decide +kernel
theorem dX3_measureTurns_51 : decode cX3_measureTurns 51 = .ok (.aload_n 0, 1) := by decide +kernel
theorem dX3_measureTurns_52 : decode cX3_measureTurns 52 = .ok (.lload_n 1, 1) := by decide +kernel
theorem dX3_measureTurns_53 : decode cX3_measureTurns 53 = .ok (.iload 11, 2) := by decide +kernel
theorem dX3_measureTurns_55 : decode cX3_measureTurns 55 = .ok (.invokevirtual 77, 3) := by decide +kernel
theorem dX3_measureTurns_58 : decode cX3_measureTurns 58 = .ok (.ifCond .eq 69, 3) := by decide +kernel
theorem dX3_measureTurns_61 : decode cX3_measureTurns 61 = .ok (.iload 9, 2) := by decide +kernel
theorem dX3_measureTurns_63 : decode cX3_measureTurns 63 = .ok (.bipush (-4), 2) := by decide +kernel
theorem dX3_measureTurns_65 : decode cX3_measureTurns 65 = .ok (.if_icmp .eq 55, 3) := by decide +kernel
theorem dX3_measureTurns_68 : decode cX3_measureTurns 68 = .ok (.iload 11, 2) := by decide +kernel
theorem dX3_measureTurns_70 : decode cX3_measureTurns 70 = .ok (.iload 9, 2) := by decide +kernel
theorem dX3_measureTurns_72 : decode cX3_measureTurns 72 = .ok (.isub, 1) := by decide +kernel
theorem dX3_measureTurns_73 : decode cX3_measureTurns 73 = .ok (.istore 12, 2) := by decide +kernel
theorem dX3_measureTurns_75 : decode cX3_measureTurns 75 = .ok (.iload 4, 2) := by decide +kernel
theorem dX3_measureTurns_77 : decode cX3_measureTurns 77 = .ok (.ifCond .ne 8, 3) := by decide +kernel
theorem dX3_measureTurns_80 : decode cX3_measureTurns 80 = .ok (.iload 12, 2) := by decide +kernel
theorem dX3_measureTurns_82 : decode cX3_measureTurns 82 = .ok (.goto 10, 3) := by decide +kernel
theorem dX3_measureTurns_85 : decode cX3_measureTurns 85 = .ok (.iload 5, 2) := by decide +kernel
theorem dX3_measureTurns_87 : decode cX3_measureTurns 87 = .ok (.iload 12, 2) := by decide +kernel
theorem dX3_measureTurns_89 : decode cX3_measureTurns 89 = .ok (.invokestatic 38, 3) := by decide +kernel
theorem dX3_measureTurns_92 : decode cX3_measureTurns 92 = .ok (.istore 5, 2) := by decide +kernel
theorem dX3_measureTurns_94 : decode cX3_measureTurns 94 = .ok (.iload 6, 2) := by decide +kernel
theorem dX3_measureTurns_96 : decode cX3_measureTurns 96 = .ok (.iload 12, 2) := by decide +kernel
theorem dX3_measureTurns_98 : decode cX3_measureTurns 98 = .ok (.invokestatic 74, 3) := by decide +kernel
theorem dX3_measureTurns_101 : decode cX3_measureTurns 101 = .ok (.istore 6, 2) := by decide +kernel
theorem dX3_measureTurns_103 : decode cX3_measureTurns 103 = .ok (.iload 7, 2) := by decide +kernel
theorem dX3_measureTurns_105 : decode cX3_measureTurns 105 = .ok (.iload 12, 2) := by decide +kernel
theorem dX3_measureTurns_107 : decode cX3_measureTurns 107 = .ok (.iadd, 1) := by decide +kernel
theorem dX3_measureTurns_108 : decode cX3_measureTurns 108 = .ok (.istore 7, 2) := by decide +kernel
theorem dX3_measureTurns_110 : decode cX3_measureTurns 110 = .ok (.iload 8, 2) := by decide +kernel
theorem dX3_measureTurns_112 : decode cX3_measureTurns 112 = .ok (.iload 10, 2) := by decide +kernel
theorem dX3_measureTurns_114 : decode cX3_measureTurns 114 = .ok (.iadd, 1) := by decide +kernel
theorem dX3_measureTurns_115 : decode cX3_measureTurns 115 = .ok (.istore 8, 2) := by decide +kernel
theorem dX3_measureTurns_117 : decode cX3_measureTurns 117 = .ok (.iinc 4 1, 3) := by decide +kernel
theorem dX3_measureTurns_120 : decode cX3_measureTurns 120 = .ok (.iload 11, 2) := by decide +kernel
theorem dX3_measureTurns_122 : decode cX3_measureTurns 122 = .ok (.istore 9, 2) := by decide +kernel
theorem dX3_measureTurns_124 : decode cX3_measureTurns 124 = .ok (.iconst 0, 1) := by decide +kernel
theorem dX3_measureTurns_125 : decode cX3_measureTurns 125 = .ok (.istore 10, 2) := by decide +kernel
theorem dX3_measureTurns_127 : decode cX3_measureTurns 127 = .ok (.aload_n 0, 1) := by decide +kernel
theorem dX3_measureTurns_128 : decode cX3_measureTurns 128 = .ok (.getfield 15, 3) := by decide +kernel
theorem dX3_measureTurns_131 : decode cX3_measureTurns 131 = .ok (.iload 11, 2) := by decide +kernel
theorem dX3_measureTurns_133 : decode cX3_measureTurns 133 = .ok (.baload, 1) := by decide +kernel
theorem dX3_measureTurns_134 : decode cX3_measureTurns 134 = .ok (.ifCond .ne 18, 3) := by decide +kernel
theorem dX3_measureTurns_137 : decode cX3_measureTurns 137 = .ok (.aload_n 0, 1) := by decide +kernel
theorem dX3_measureTurns_138 : decode cX3_measureTurns 138 = .ok (.getfield 9, 3) := by decide +kernel
theorem dX3_measureTurns_141 : decode cX3_measureTurns 141 = .ok (.iload 11, 2) := by decide +kernel
theorem dX3_measureTurns_143 : decode cX3_measureTurns 143 = .ok (.laload, 1) := by decide +kernel
theorem dX3_measureTurns_144 : decode cX3_measureTurns 144 = .ok (.lload_n 1, 1) := by decide +kernel
theorem dX3_measureTurns_145 : decode cX3_measureTurns 145 = .ok (.lcmp, 1) := by decide +kernel
theorem dX3_measureTurns_146 : decode cX3_measureTurns 146 = .ok (.ifCond .lt 6, 3) := by decide +kernel
theorem dX3_measureTurns_149 : decode cX3_measureTurns 149 = .ok (.iinc 10 1, 3) := by decide +kernel
theorem dX3_measureTurns_152 : decode cX3_measureTurns 152 = .ok (.iinc 11 1, 3) := by decide +kernel
theorem dX3_measureTurns_155 : decode cX3_measureTurns 155 = .ok (.goto (-130), 3) := by decide +kernel
theorem dX3_measureTurns_158 : decode cX3_measureTurns 158 = .ok (.iload_n 3, 1) := by decide +kernel
theorem dX3_measureTurns_159 : decode cX3_measureTurns 159 = .ok (.tableswitch 41 0 3 #[29, 32, 35, 38], 29) := by decide +kernel
theorem dX3_measureTurns_188 : decode cX3_measureTurns 188 = .ok (.iload 4, 2) := by decide +kernel
theorem dX3_measureTurns_190 : decode cX3_measureTurns 190 = .ok (.ireturn, 1) := by decide +kernel
theorem dX3_measureTurns_191 : decode cX3_measureTurns 191 = .ok (.iload 5, 2) := by decide +kernel
theorem dX3_measureTurns_193 : decode cX3_measureTurns 193 = .ok (.ireturn, 1) := by decide +kernel
theorem dX3_measureTurns_194 : decode cX3_measureTurns 194 = .ok (.iload 6, 2) := by decide +kernel
theorem dX3_measureTurns_196 : decode cX3_measureTurns 196 = .ok (.ireturn, 1) := by decide +kernel
theorem dX3_measureTurns_197 : decode cX3_measureTurns 197 = .ok (.iload 7, 2) := by decide +kernel
theorem dX3_measureTurns_199 : decode cX3_measureTurns 199 = .ok (.ireturn, 1) := by decide +kernel
theorem dX3_measureTurns_200 : decode cX3_measureTurns 200 = .ok (.iload 8, 2) := by decide +kernel
theorem dX3_measureTurns_202 : decode cX3_measureTurns 202 = .ok (.ireturn, 1) := by decide +kernel
theorem dX3_isInBand_0 : decode cX3_isInBand 0 = .ok (.iload_n 1, 1) := by decide +kernel
theorem dX3_isInBand_1 : decode cX3_isInBand 1 = .ok (.iconst 0, 1) := by decide +kernel
theorem dX3_isInBand_2 : decode cX3_isInBand 2 = .ok (.aload_n 0, 1) := by decide +kernel
theorem dX3_isInBand_3 : decode cX3_isInBand 3 = .ok (.getfield 25, 3) := by decide +kernel
theorem dX3_isInBand_6 : decode cX3_isInBand 6 = .ok (.iconst 1, 1) := by decide +kernel
theorem dX3_isInBand_7 : decode cX3_isInBand 7 = .ok (.isub, 1) := by decide +kernel
theorem dX3_isInBand_8 : decode cX3_isInBand 8 = .ok (.invokestatic 34, 3) := by decide +kernel
theorem dX3_isInBand_11 : decode cX3_isInBand 11 = .ok (.ifCond .eq 18, 3) := by decide +kernel
theorem dX3_isInBand_14 : decode cX3_isInBand 14 = .ok (.aload_n 0, 1) := by decide +kernel
theorem dX3_isInBand_15 : decode cX3_isInBand 15 = .ok (.getfield 15, 3) := by decide +kernel
theorem dX3_isInBand_18 : decode cX3_isInBand 18 = .ok (.iload_n 1, 1) := by decide +kernel
theorem dX3_isInBand_19 : decode cX3_isInBand 19 = .ok (.baload, 1) := by decide +kernel
theorem dX3_isInBand_20 : decode cX3_isInBand 20 = .ok (.ifCond .ne 9, 3) := by decide +kernel
theorem dX3_isInBand_23 : decode cX3_isInBand 23 = .ok (.iload 4, 2) := by decide +kernel
theorem dX3_isInBand_25 : decode cX3_isInBand 25 = .ok (.iconst 1, 1) := by decide +kernel
theorem dX3_isInBand_26 : decode cX3_isInBand 26 = .ok (.if_icmp .ge 5, 3) := by decide +kernel
theorem dX3_isInBand_29 : decode cX3_isInBand 29 = .ok (.iconst 0, 1) := by decide +kernel
theorem dX3_isInBand_30 : decode cX3_isInBand 30 = .ok (.ireturn, 1) := by decide +kernel
theorem dX3_isInBand_31 : decode cX3_isInBand 31 = .ok (.aload_n 0, 1) := by decide +kernel
theorem dX3_isInBand_32 : decode cX3_isInBand 32 = .ok (.getfield 9, 3) := by decide +kernel
theorem dX3_isInBand_35 : decode cX3_isInBand 35 = .ok (.iload_n 1, 1) := by decide +kernel
theorem dX3_isInBand_36 : decode cX3_isInBand 36 = .ok (.laload, 1) := by decide +kernel
theorem dX3_isInBand_37 : decode cX3_isInBand 37 = .ok (.lload_n 2, 1) := by decide +kernel
theorem dX3_isInBand_38 : decode cX3_isInBand 38 = .ok (.lsub, 1) := by decide +kernel
theorem dX3_isInBand_39 : decode cX3_isInBand 39 = .ok (.iload 4, 2) := by decide +kernel
theorem dX3_isInBand_41 : decode cX3_isInBand 41 = .ok (.i2l, 1) := by decide +kernel
theorem dX3_isInBand_42 : decode cX3_isInBand 42 = .ok (.invokestatic 81, 3) := by decide +kernel
theorem dX3_isInBand_45 : decode cX3_isInBand 45 = .ok (.iload 5, 2) := by decide +kernel
theorem dX3_isInBand_47 : decode cX3_isInBand 47 = .ok (.i2l, 1) := by decide +kernel
theorem dX3_isInBand_48 : decode cX3_isInBand 48 = .ok (.lcmp, 1) := by decide +kernel
theorem dX3_isInBand_49 : decode cX3_isInBand 49 = .ok (.ifCond .ne 7, 3) := by decide +kernel
theorem dX3_isInBand_52 : decode cX3_isInBand 52 = .ok (.iconst 1, 1) := by decide +kernel
theorem dX3_isInBand_53 : decode cX3_isInBand 53 = .ok (.goto 4, 3) := by decide +kernel
theorem dX3_isInBand_56 : decode cX3_isInBand 56 = .ok (.iconst 0, 1) := by decide +kernel
theorem dX3_isInBand_57 : decode cX3_isInBand 57 = .ok (.ireturn, 1) := by decide +kernel
theorem dX4_init_0 : decode cX4_init 0 = .ok (.aload_n 0, 1) := by decide +kernel
theorem dX4_init_1 : decode cX4_init 1 = .ok (.invokespecial 3, 3) := by decide +kernel
theorem dX4_init_4 : decode cX4_init 4 = .ok (.aload_n 0, 1) := by decide +kernel
theorem dX4_init_5 : decode cX4_init 5 = .ok (.new 9, 3) := by decide +kernel
theorem dX4_init_8 : decode cX4_init 8 = .ok (.dup, 1) := by decide +kernel
theorem dX4_init_9 : decode cX4_init 9 = .ok (.invokespecial 11, 3) := by decide +kernel
theorem dX4_init_12 : decode cX4_init 12 = .ok (.putfield 12, 3) := by decide +kernel
theorem dX4_init_15 : decode cX4_init 15 = .ok (.aload_n 0, 1) := by decide +kernel
theorem dX4_init_16 : decode cX4_init 16 = .ok (.new 18, 3) := by decide +kernel
theorem dX4_init_19 : decode cX4_init 19 = .ok (.dup, 1) := by decide +kernel
theorem dX4_init_20 : decode cX4_init 20 = .ok (.invokespecial 20, 3) := by decide +kernel
theorem dX4_init_23 : decode cX4_init 23 = .ok (.putfield 21, 3) := by decide +kernel
theorem dX4_init_26 : decode cX4_init 26 = .ok (.aload_n 0, 1) := by decide +kernel
theorem dX4_init_27 : decode cX4_init 27 = .ok (.new 25, 3) := by decide +kernel
theorem dX4_init_30 : decode cX4_init 30 = .ok (.dup, 1) := by decide +kernel
theorem dX4_init_31 : decode cX4_init 31 = .ok (.invokespecial 27, 3) := by decide +kernel
theorem dX4_init_34 : decode cX4_init 34 = .ok (.putfield 28, 3) := by decide +kernel
theorem dX4_init_37 : decode cX4_init 37 = .ok (.aload_n 0, 1) := by decide +kernel
theorem dX4_init_38 : decode cX4_init 38 = .ok (.new 25, 3) := by decide +kernel
theorem dX4_init_41 : decode cX4_init 41 = .ok (.dup, 1) := by decide +kernel
theorem dX4_init_42 : decode cX4_init 42 = .ok (.invokespecial 27, 3) := by decide +kernel
theorem dX4_init_45 : decode cX4_init 45 = .ok (.putfield 32, 3) := by decide +kernel
theorem dX4_init_48 : decode cX4_init 48 = .ok (.aload_n 0, 1) := by decide +kernel
theorem dX4_init_49 : decode cX4_init 49 = .ok (.bipush 8, 2) := by decide +kernel
theorem dX4_init_51 : decode cX4_init 51 = .ok (.putfield 35, 3) := by decide +kernel
theorem dX4_init_54 : decode cX4_init 54 = .ok (.aload_n 0, 1) := by decide +kernel
theorem dX4_init_55 : decode cX4_init 55 = .ok (.bipush 8, 2) := by decide +kernel
theorem dX4_init_57 : decode cX4_init 57 = .ok (.putfield 39, 3) := by decide +kernel
theorem dX4_init_60 : decode cX4_init 60 = .ok (.aload_n 0, 1) := by decide +kernel
theorem dX4_init_61 : decode cX4_init 61 = .ok (.iconst 0, 1) := by decide +kernel
theorem dX4_init_62 : decode cX4_init 62 = .ok (.putfield 42, 3) := by decide +kernel
theorem dX4_init_65 : decode cX4_init 65 = .ok (.return_, 1) := by decide +kernel
theorem dX4_takeDraft_0 : decode cX4_takeDraft 0 = .ok (.aload_n 0, 1) := by decide +kernel
theorem dX4_takeDraft_1 : decode cX4_takeDraft 1 = .ok (.getfield 28, 3) := by decide +kernel
theorem dX4_takeDraft_4 : decode cX4_takeDraft 4 = .ok (.astore_n 1, 1) := by decide +kernel
theorem dX4_takeDraft_5 : decode cX4_takeDraft 5 = .ok (.aload_n 0, 1) := by decide +kernel
theorem dX4_takeDraft_6 : decode cX4_takeDraft 6 = .ok (.aload_n 0, 1) := by decide +kernel
theorem dX4_takeDraft_7 : decode cX4_takeDraft 7 = .ok (.getfield 32, 3) := by decide +kernel
theorem dX4_takeDraft_10 : decode cX4_takeDraft 10 = .ok (.putfield 28, 3) := by decide +kernel
theorem dX4_takeDraft_13 : decode cX4_takeDraft 13 = .ok (.aload_n 0, 1) := by decide +kernel
theorem dX4_takeDraft_14 : decode cX4_takeDraft 14 = .ok (.aload_n 1, 1) := by decide +kernel
theorem dX4_takeDraft_15 : decode cX4_takeDraft 15 = .ok (.putfield 32, 3) := by decide +kernel
theorem dX4_takeDraft_18 : decode cX4_takeDraft 18 = .ok (.aload_n 0, 1) := by decide +kernel
theorem dX4_takeDraft_19 : decode cX4_takeDraft 19 = .ok (.iconst 0, 1) := by decide +kernel
theorem dX4_takeDraft_20 : decode cX4_takeDraft 20 = .ok (.putfield 42, 3) := by decide +kernel
theorem dX4_takeDraft_23 : decode cX4_takeDraft 23 = .ok (.return_, 1) := by decide +kernel
theorem dX4_beginAnew_0 : decode cX4_beginAnew 0 = .ok (.aload_n 0, 1) := by decide +kernel
theorem dX4_beginAnew_1 : decode cX4_beginAnew 1 = .ok (.iconst 1, 1) := by decide +kernel
theorem dX4_beginAnew_2 : decode cX4_beginAnew 2 = .ok (.putfield 42, 3) := by decide +kernel
theorem dX4_beginAnew_5 : decode cX4_beginAnew 5 = .ok (.aload_n 0, 1) := by decide +kernel
theorem dX4_beginAnew_6 : decode cX4_beginAnew 6 = .ok (.aload_n 0, 1) := by decide +kernel
theorem dX4_beginAnew_7 : decode cX4_beginAnew 7 = .ok (.getfield 12, 3) := by decide +kernel
theorem dX4_beginAnew_10 : decode cX4_beginAnew 10 = .ok (.getfield 45, 3) := by decide +kernel
theorem dX4_beginAnew_13 : decode cX4_beginAnew 13 = .ok (.putfield 48, 3) := by decide +kernel
theorem dX4_beginAnew_16 : decode cX4_beginAnew 16 = .ok (.aload_n 0, 1) := by decide +kernel
theorem dX4_beginAnew_17 : decode cX4_beginAnew 17 = .ok (.iconst 0, 1) := by decide +kernel
theorem dX4_beginAnew_18 : decode cX4_beginAnew 18 = .ok (.putfield 51, 3) := by decide +kernel
theorem dX4_beginAnew_21 : decode cX4_beginAnew 21 = .ok (.aload_n 0, 1) := by decide +kernel
theorem dX4_beginAnew_22 : decode cX4_beginAnew 22 = .ok (.getfield 28, 3) := by decide +kernel
theorem dX4_beginAnew_25 : decode cX4_beginAnew 25 = .ok (.invokevirtual 54, 3) := by decide +kernel
theorem dX4_beginAnew_28 : decode cX4_beginAnew 28 = .ok (.aload_n 0, 1) := by decide +kernel
theorem dX4_beginAnew_29 : decode cX4_beginAnew 29 = .ok (.aload_n 0, 1) := by decide +kernel
theorem dX4_beginAnew_30 : decode cX4_beginAnew 30 = .ok (.getfield 12, 3) := by decide +kernel
theorem dX4_beginAnew_33 : decode cX4_beginAnew 33 = .ok (.getfield 45, 3) := by decide +kernel
theorem dX4_beginAnew_36 : decode cX4_beginAnew 36 = .ok (.invokevirtual 57, 3) := by decide +kernel
theorem dX4_beginAnew_39 : decode cX4_beginAnew 39 = .ok (.return_, 1) := by decide +kernel
theorem dX4_beginFirstStage_0 : decode cX4_beginFirstStage 0 = .ok (.aload_n 0, 1) := by decide +kernel
theorem dX4_beginFirstStage_1 : decode cX4_beginFirstStage 1 = .ok (.iconst 0, 1) := by decide +kernel
theorem dX4_beginFirstStage_2 : decode cX4_beginFirstStage 2 = .ok (.putfield 61, 3) := by decide +kernel
theorem dX4_beginFirstStage_5 : decode cX4_beginFirstStage 5 = .ok (.aload_n 0, 1) := by decide +kernel
theorem dX4_beginFirstStage_6 : decode cX4_beginFirstStage 6 = .ok (.iconst 0, 1) := by decide +kernel
theorem dX4_beginFirstStage_7 : decode cX4_beginFirstStage 7 = .ok (.putfield 64, 3) := by decide +kernel
theorem dX4_beginFirstStage_10 : decode cX4_beginFirstStage 10 = .ok (.aload_n 0, 1) := by decide +kernel
theorem dX4_beginFirstStage_11 : decode cX4_beginFirstStage 11 = .ok (.iload_n 1, 1) := by decide +kernel
theorem dX4_beginFirstStage_12 : decode cX4_beginFirstStage 12 = .ok (.putfield 67, 3) := by decide +kernel
theorem dX4_beginFirstStage_15 : decode cX4_beginFirstStage 15 = .ok (.return_, 1) := by decide +kernel
theorem dX4_take_0 : decode cX4_take 0 = .ok (.aload_n 0, 1) := by decide +kernel
theorem dX4_take_1 : decode cX4_take 1 = .ok (.getfield 12, 3) := by decide +kernel
theorem dX4_take_4 : decode cX4_take 4 = .ok (.getfield 45, 3) := by decide +kernel
theorem dX4_take_7 : decode cX4_take 7 = .ok (.istore_n 2, 1) := by decide +kernel
theorem dX4_take_8 : decode cX4_take 8 = .ok (.aload_n 0, 1) := by decide +kernel
theorem dX4_take_9 : decode cX4_take 9 = .ok (.getfield 12, 3) := by decide +kernel
theorem dX4_take_12 : decode cX4_take 12 = .ok (.iload_n 2, 1) := by decide +kernel
theorem dX4_take_13 : decode cX4_take 13 = .ok (.iconst 1, 1) := by decide +kernel
theorem dX4_take_14 : decode cX4_take 14 = .ok (.isub, 1) := by decide +kernel
theorem dX4_take_15 : decode cX4_take 15 = .ok (.invokevirtual 70, 3) := by decide +kernel
theorem dX4_take_18 : decode cX4_take 18 = .ok (.istore_n 3, 1) := by decide +kernel
theorem dX4_take_19 : decode cX4_take 19 = .ok (.aload_n 0, 1) := by decide +kernel
theorem dX4_take_20 : decode cX4_take 20 = .ok (.getfield 12, 3) := by decide +kernel
theorem dX4_take_23 : decode cX4_take 23 = .ok (.iload_n 1, 1) := by decide +kernel
theorem dX4_take_24 : decode cX4_take 24 = .ok (.invokevirtual 74, 3) := by decide +kernel
theorem dX4_take_27 : decode cX4_take 27 = .ok (.aload_n 0, 1) := by decide +kernel
theorem dX4_take_28 : decode cX4_take 28 = .ok (.getfield 42, 3) := by decide +kernel
theorem dX4_take_31 : decode cX4_take 31 = .ok (.iconst 1, 1) := by decide +kernel
theorem dX4_take_32 : decode cX4_take 32 = .ok (.if_icmp .ne 18, 3) := by decide +kernel
theorem dX4_take_35 : decode cX4_take 35 = .ok (.iload_n 2, 1) := by decide +kernel
theorem dX4_take_36 : decode cX4_take 36 = .ok (.aload_n 0, 1) := by decide +kernel
theorem dX4_take_37 : decode cX4_take 37 = .ok (.getfield 48, 3) := by decide +kernel
theorem dX4_take_40 : decode cX4_take 40 = .ok (.if_icmp .le 10, 3) := by decide +kernel
theorem dX4_take_43 : decode cX4_take 43 = .ok (.aload_n 0, 1) := by decide +kernel
theorem dX4_take_44 : decode cX4_take 44 = .ok (.iload_n 2, 1) := by decide +kernel
theorem dX4_take_45 : decode cX4_take 45 = .ok (.iload_n 3, 1) := by decide +kernel
theorem dX4_take_46 : decode cX4_take 46 = .ok (.iload_n 1, 1) := by decide +kernel
theorem dX4_take_47 : decode cX4_take 47 = .ok (.invokevirtual 77, 3) := by decide +kernel
theorem dX4_take_50 : decode cX4_take 50 = .ok (.aload_n 0, 1) := by decide +kernel
theorem dX4_take_51 : decode cX4_take 51 = .ok (.getfield 42, 3) := by decide +kernel
theorem dX4_take_54 : decode cX4_take 54 = .ok (.iconst 2, 1) := by decide +kernel
theorem dX4_take_55 : decode cX4_take 55 = .ok (.if_icmp .ne 21, 3) := by decide +kernel
theorem dX4_take_58 : decode cX4_take 58 = .ok (.iload_n 2, 1) := by decide +kernel
theorem dX4_take_59 : decode cX4_take 59 = .ok (.aload_n 0, 1) := by decide +kernel
theorem dX4_take_60 : decode cX4_take 60 = .ok (.getfield 81, 3) := by decide +kernel
theorem dX4_take_63 : decode cX4_take 63 = .ok (.isub, 1) := by decide +kernel
theorem dX4_take_64 : decode cX4_take 64 = .ok (.aload_n 0, 1) := by decide +kernel
theorem dX4_take_65 : decode cX4_take 65 = .ok (.getfield 39, 3) := by decide +kernel
theorem dX4_take_68 : decode cX4_take 68 = .ok (.if_icmp .lt 8, 3) := by decide +kernel
theorem dX4_take_71 : decode cX4_take 71 = .ok (.aload_n 0, 1) := by decide +kernel
theorem dX4_take_72 : decode cX4_take 72 = .ok (.iload_n 2, 1) := by decide +kernel
theorem dX4_take_73 : decode cX4_take 73 = .ok (.invokevirtual 84, 3) := by decide +kernel
theorem dX4_take_76 : decode cX4_take 76 = .ok (.return_, 1) := by decide +kernel
theorem dX4_follow_0 : decode cX4_follow 0 = .ok (.aload_n 0, 1) := by decide +kernel
theorem dX4_follow_1 : decode cX4_follow 1 = .ok (.getfield 61, 3) := by decide +kernel
theorem dX4_follow_4 : decode cX4_follow 4 = .ok (.iconst 0, 1) := by decide +kernel
theorem dX4_follow_5 : decode cX4_follow 5 = .ok (.aload_n 0, 1) := by decide +kernel
theorem dX4_follow_6 : decode cX4_follow 6 = .ok (.getfield 28, 3) := by decide +kernel
theorem dX4_follow_9 : decode cX4_follow 9 = .ok (.getfield 87, 3) := by decide +kernel
theorem dX4_follow_12 : decode cX4_follow 12 = .ok (.iconst 1, 1) := by decide +kernel
theorem dX4_follow_13 : decode cX4_follow 13 = .ok (.isub, 1) := by decide +kernel
theorem dX4_follow_14 : decode cX4_follow 14 = .ok (.invokestatic 88, 3) := by decide +kernel
theorem dX4_follow_17 : decode cX4_follow 17 = .ok (.ifCond .ne 4, 3) := by decide +kernel
theorem dX4_follow_20 : decode cX4_follow 20 = .ok (.return_, 1) := by decide +kernel
theorem dX4_follow_21 : decode cX4_follow 21 = .ok (.aload_n 0, 1) := by decide +kernel
theorem dX4_follow_22 : decode cX4_follow 22 = .ok (.getfield 28, 3) := by decide +kernel
theorem dX4_follow_25 : decode cX4_follow 25 = .ok (.getfield 92, 3) := by decide +kernel
theorem dX4_follow_28 : decode cX4_follow 28 = .ok (.aload_n 0, 1) := by decide +kernel
theorem dX4_follow_29 : decode cX4_follow 29 = .ok (.getfield 61, 3) := by decide +kernel
theorem dX4_follow_32 : decode cX4_follow 32 = .ok (.aaload, 1) := by decide +kernel
theorem dX4_follow_33 : decode cX4_follow 33 = .ok (.astore 4, 2) := by decide +kernel
theorem dX4_follow_35 : decode cX4_follow 35 = .ok (.aload 4, 2) := by decide +kernel
theorem dX4_follow_37 : decode cX4_follow 37 = .ok (.iload_n 2, 1) := by decide +kernel
theorem dX4_follow_38 : decode cX4_follow 38 = .ok (.iload_n 3, 1) := by decide +kernel
theorem dX4_follow_39 : decode cX4_follow 39 = .ok (.invokevirtual 96, 3) := by decide +kernel
theorem dX4_follow_42 : decode cX4_follow 42 = .ok (.istore 5, 2) := by decide +kernel
theorem dX4_follow_44 : decode cX4_follow 44 = .ok (.aload_n 0, 1) := by decide +kernel
theorem dX4_follow_45 : decode cX4_follow 45 = .ok (.getfield 28, 3) := by decide +kernel
theorem dX4_follow_48 : decode cX4_follow 48 = .ok (.iload_n 2, 1) := by decide +kernel
theorem dX4_follow_49 : decode cX4_follow 49 = .ok (.iload_n 3, 1) := by decide +kernel
theorem dX4_follow_50 : decode cX4_follow 50 = .ok (.invokevirtual 102, 3) := by decide +kernel
theorem dX4_follow_53 : decode cX4_follow 53 = .ok (.aload 4, 2) := by decide +kernel
theorem dX4_follow_55 : decode cX4_follow 55 = .ok (.getfield 106, 3) := by decide +kernel
theorem dX4_follow_58 : decode cX4_follow 58 = .ok (.ifCond .le 35, 3) := by decide +kernel
theorem dX4_follow_61 : decode cX4_follow 61 = .ok (.iload_n 1, 1) := by decide +kernel
theorem dX4_follow_62 : decode cX4_follow 62 = .ok (.aload_n 0, 1) := by decide +kernel
theorem dX4_follow_63 : decode cX4_follow 63 = .ok (.getfield 67, 3) := by decide +kernel
theorem dX4_follow_66 : decode cX4_follow 66 = .ok (.isub, 1) := by decide +kernel
theorem dX4_follow_67 : decode cX4_follow 67 = .ok (.aload 4, 2) := by decide +kernel
theorem dX4_follow_69 : decode cX4_follow 69 = .ok (.getfield 106, 3) := by decide +kernel
theorem dX4_follow_72 : decode cX4_follow 72 = .ok (.if_icmp .lt 21, 3) := by decide +kernel
theorem dX4_follow_75 : decode cX4_follow 75 = .ok (.aload_n 0, 1) := by decide +kernel
theorem dX4_follow_76 : decode cX4_follow 76 = .ok (.dup, 1) := by decide +kernel
theorem dX4_follow_77 : decode cX4_follow 77 = .ok (.getfield 51, 3) := by decide +kernel
theorem dX4_follow_80 : decode cX4_follow 80 = .ok (.iconst 1, 1) := by decide +kernel
theorem dX4_follow_81 : decode cX4_follow 81 = .ok (.iadd, 1) := by decide +kernel
theorem dX4_follow_82 : decode cX4_follow 82 = .ok (.putfield 51, 3) := by decide +kernel
theorem dX4_follow_85 : decode cX4_follow 85 = .ok (.aload_n 0, 1) := by decide +kernel
theorem dX4_follow_86 : decode cX4_follow 86 = .ok (.iload_n 1, 1) := by decide +kernel
theorem dX4_follow_87 : decode cX4_follow 87 = .ok (.invokevirtual 57, 3) := by decide +kernel
theorem dX4_follow_90 : decode cX4_follow 90 = .ok (.goto 18, 3) := by decide +kernel
theorem dX4_follow_93 : decode cX4_follow 93 = .ok (.iload 5, 2) := by decide +kernel
theorem dX4_follow_95 : decode cX4_follow 95 = .ok (.ifCond .eq 13, 3) := by decide +kernel
theorem dX4_follow_98 : decode cX4_follow 98 = .ok (.aload_n 0, 1) := by decide +kernel
theorem dX4_follow_99 : decode cX4_follow 99 = .ok (.aload 4, 2) := by decide +kernel
theorem dX4_follow_101 : decode cX4_follow 101 = .ok (.getfield 109, 3) := by decide +kernel
theorem dX4_follow_104 : decode cX4_follow 104 = .ok (.iload_n 1, 1) := by decide +kernel
theorem dX4_follow_105 : decode cX4_follow 105 = .ok (.invokevirtual 112, 3) := by decide +kernel
theorem dX4_follow_108 : decode cX4_follow 108 = .ok (.return_, 1) := by decide +kernel
theorem dX4_countEvent_0 : decode cX4_countEvent 0 = .ok (.aload_n 0, 1) := by decide +kernel
theorem dX4_countEvent_1 : decode cX4_countEvent 1 = .ok (.dup, 1) := by decide +kernel
theorem dX4_countEvent_2 : decode cX4_countEvent 2 = .ok (.getfield 64, 3) := by decide +kernel
theorem dX4_countEvent_5 : decode cX4_countEvent 5 = .ok (.iconst 1, 1) := by decide +kernel
theorem dX4_countEvent_6 : decode cX4_countEvent 6 = .ok (.iadd, 1) := by decide +kernel
theorem dX4_countEvent_7 : decode cX4_countEvent 7 = .ok (.putfield 64, 3) := by decide +kernel
theorem dX4_countEvent_10 : decode cX4_countEvent 10 = .ok (.aload_n 0, 1) := by decide +kernel
theorem dX4_countEvent_11 : decode cX4_countEvent 11 = .ok (.getfield 64, 3) := by decide +kernel
theorem dX4_countEvent_14 : decode cX4_countEvent 14 = .ok (.iload_n 1, 1) := by decide +kernel
theorem dX4_countEvent_15 : decode cX4_countEvent 15 = .ok (.if_icmp .ge 4, 3) := by decide +kernel
theorem dX4_countEvent_18 : decode cX4_countEvent 18 = .ok (.return_, 1) := by decide +kernel
theorem dX4_countEvent_19 : decode cX4_countEvent 19 = .ok (.aload_n 0, 1) := by decide +kernel
theorem dX4_countEvent_20 : decode cX4_countEvent 20 = .ok (.dup, 1) := by decide +kernel
theorem dX4_countEvent_21 : decode cX4_countEvent 21 = .ok (.getfield 61, 3) := by decide +kernel
theorem dX4_countEvent_24 : decode cX4_countEvent 24 = .ok (.iconst 1, 1) := by decide +kernel
theorem dX4_countEvent_25 : decode cX4_countEvent 25 = .ok (.iadd, 1) := by decide +kernel
theorem dX4_countEvent_26 : decode cX4_countEvent 26 = .ok (.putfield 61, 3) := by decide +kernel
theorem dX4_countEvent_29 : decode cX4_countEvent 29 = .ok (.aload_n 0, 1) := by decide +kernel
theorem dX4_countEvent_30 : decode cX4_countEvent 30 = .ok (.iconst 0, 1) := by decide +kernel
theorem dX4_countEvent_31 : decode cX4_countEvent 31 = .ok (.putfield 64, 3) := by decide +kernel
theorem dX4_countEvent_34 : decode cX4_countEvent 34 = .ok (.aload_n 0, 1) := by decide +kernel
theorem dX4_countEvent_35 : decode cX4_countEvent 35 = .ok (.iload_n 2, 1) := by decide +kernel
theorem dX4_countEvent_36 : decode cX4_countEvent 36 = .ok (.putfield 67, 3) := by decide +kernel
theorem dX4_countEvent_39 : decode cX4_countEvent 39 = .ok (.aload_n 0, 1) := by decide +kernel
theorem dX4_countEvent_40 : decode cX4_countEvent 40 = .ok (.getfield 61, 3) := by decide +kernel
theorem dX4_countEvent_43 : decode cX4_countEvent 43 = .ok (.aload_n 0, 1) := by decide +kernel
theorem dX4_countEvent_44 : decode cX4_countEvent 44 = .ok (.getfield 28, 3) := by decide +kernel
theorem dX4_countEvent_47 : decode cX4_countEvent 47 = .ok (.getfield 87, 3) := by decide +kernel
theorem dX4_countEvent_50 : decode cX4_countEvent 50 = .ok (.if_icmp .ne 13, 3) := by decide +kernel
theorem dX4_countEvent_53 : decode cX4_countEvent 53 = .ok (.aload_n 0, 1) := by decide +kernel
theorem dX4_countEvent_54 : decode cX4_countEvent 54 = .ok (.iconst 2, 1) := by decide +kernel
theorem dX4_countEvent_55 : decode cX4_countEvent 55 = .ok (.putfield 42, 3) := by decide +kernel
theorem dX4_countEvent_58 : decode cX4_countEvent 58 = .ok (.aload_n 0, 1) := by decide +kernel
theorem dX4_countEvent_59 : decode cX4_countEvent 59 = .ok (.iload_n 2, 1) := by decide +kernel
theorem dX4_countEvent_60 : decode cX4_countEvent 60 = .ok (.putfield 81, 3) := by decide +kernel
theorem dX4_countEvent_63 : decode cX4_countEvent 63 = .ok (.return_, 1) := by decide +kernel
theorem dX4_keepSegment_0 : decode cX4_keepSegment 0 = .ok (.aload_n 0, 1) := by decide +kernel
theorem dX4_keepSegment_1 : decode cX4_keepSegment 1 = .ok (.getfield 81, 3) := by decide +kernel
theorem dX4_keepSegment_4 : decode cX4_keepSegment 4 = .ok (.aload_n 0, 1) := by decide +kernel
theorem dX4_keepSegment_5 : decode cX4_keepSegment 5 = .ok (.getfield 35, 3) := by decide +kernel
theorem dX4_keepSegment_8 : decode cX4_keepSegment 8 = .ok (.isub, 1) := by decide +kernel
theorem dX4_keepSegment_9 : decode cX4_keepSegment 9 = .ok (.aload_n 0, 1) := by decide +kernel
theorem dX4_keepSegment_10 : decode cX4_keepSegment 10 = .ok (.getfield 48, 3) := by decide +kernel
theorem dX4_keepSegment_13 : decode cX4_keepSegment 13 = .ok (.aload_n 0, 1) := by decide +kernel
theorem dX4_keepSegment_14 : decode cX4_keepSegment 14 = .ok (.getfield 12, 3) := by decide +kernel
theorem dX4_keepSegment_17 : decode cX4_keepSegment 17 = .ok (.invokevirtual 115, 3) := by decide +kernel
theorem dX4_keepSegment_20 : decode cX4_keepSegment 20 = .ok (.invokestatic 119, 3) := by decide +kernel
theorem dX4_keepSegment_23 : decode cX4_keepSegment 23 = .ok (.invokestatic 119, 3) := by decide +kernel
theorem dX4_keepSegment_26 : decode cX4_keepSegment 26 = .ok (.istore_n 2, 1) := by decide +kernel
theorem dX4_keepSegment_27 : decode cX4_keepSegment 27 = .ok (.aload_n 0, 1) := by decide +kernel
theorem dX4_keepSegment_28 : decode cX4_keepSegment 28 = .ok (.getfield 21, 3) := by decide +kernel
theorem dX4_keepSegment_31 : decode cX4_keepSegment 31 = .ok (.aload_n 0, 1) := by decide +kernel
theorem dX4_keepSegment_32 : decode cX4_keepSegment 32 = .ok (.getfield 12, 3) := by decide +kernel
theorem dX4_keepSegment_35 : decode cX4_keepSegment 35 = .ok (.iload_n 2, 1) := by decide +kernel
theorem dX4_keepSegment_36 : decode cX4_keepSegment 36 = .ok (.iload_n 1, 1) := by decide +kernel
theorem dX4_keepSegment_37 : decode cX4_keepSegment 37 = .ok (.aload_n 0, 1) := by decide +kernel
theorem dX4_keepSegment_38 : decode cX4_keepSegment 38 = .ok (.getfield 81, 3) := by decide +kernel
theorem dX4_keepSegment_41 : decode cX4_keepSegment 41 = .ok (.invokevirtual 125, 3) := by decide +kernel
theorem dX4_keepSegment_44 : decode cX4_keepSegment 44 = .ok (.aload_n 0, 1) := by decide +kernel
theorem dX4_keepSegment_45 : decode cX4_keepSegment 45 = .ok (.getfield 21, 3) := by decide +kernel
theorem dX4_keepSegment_48 : decode cX4_keepSegment 48 = .ok (.invokevirtual 128, 3) := by decide +kernel
theorem dX4_keepSegment_51 : decode cX4_keepSegment 51 = .ok (.ifCond .eq 11, 3) := by decide +kernel
theorem dX4_keepSegment_54 : decode cX4_keepSegment 54 = .ok (.aload_n 0, 1) := by decide +kernel
theorem dX4_keepSegment_55 : decode cX4_keepSegment 55 = .ok (.iconst 3, 1) := by decide +kernel
theorem dX4_keepSegment_56 : decode cX4_keepSegment 56 = .ok (.putfield 42, 3) := by decide +kernel
theorem dX4_keepSegment_59 : decode cX4_keepSegment 59 = .ok (.goto 7, 3) := by decide +kernel
theorem dX4_keepSegment_62 : decode cX4_keepSegment 62 = .ok (.aload_n 0, 1) := by decide +kernel
theorem dX4_keepSegment_63 : decode cX4_keepSegment 63 = .ok (.invokevirtual 132, 3) := by decide +kernel
theorem dX4_keepSegment_66 : decode cX4_keepSegment 66 = .ok (.return_, 1) := by decide +kernel
theorem dX5_init_0 : decode cX5_init 0 = .ok (.aload_n 0, 1) := by decide +kernel
theorem dX5_init_1 : decode cX5_init 1 = .ok (.invokespecial 3, 3) := by decide +kernel
theorem dX5_init_4 : decode cX5_init 4 = .ok (.aload_n 0, 1) := by decide +kernel
theorem dX5_init_5 : decode cX5_init 5 = .ok (.sipush 201, 3) := by decide +kernel
theorem dX5_init_8 : decode cX5_init 8 = .ok (.newarray .int, 2) := by decide +kernel
theorem dX5_init_10 : decode cX5_init 10 = .ok (.putfield 9, 3) := by decide +kernel
theorem dX5_init_13 : decode cX5_init 13 = .ok (.return_, 1) := by decide +kernel
theorem dX5_copyOf_0 : decode cX5_copyOf 0 = .ok (.aload_n 0, 1) := by decide +kernel
theorem dX5_copyOf_1 : decode cX5_copyOf 1 = .ok (.iload_n 2, 1) := by decide +kernel
theorem dX5_copyOf_2 : decode cX5_copyOf 2 = .ok (.putfield 15, 3) := by decide +kernel
theorem dX5_copyOf_5 : decode cX5_copyOf 5 = .ok (.aload_n 0, 1) := by decide +kernel
theorem dX5_copyOf_6 : decode cX5_copyOf 6 = .ok (.iload_n 3, 1) := by decide +kernel
theorem dX5_copyOf_7 : decode cX5_copyOf 7 = .ok (.iload_n 2, 1) := by decide +kernel
theorem dX5_copyOf_8 : decode cX5_copyOf 8 = .ok (.isub, 1) := by decide +kernel
theorem dX5_copyOf_9 : decode cX5_copyOf 9 = .ok (.iconst 1, 1) := by decide +kernel
theorem dX5_copyOf_10 : decode cX5_copyOf 10 = .ok (.iadd, 1) := by decide +kernel
theorem dX5_copyOf_11 : decode cX5_copyOf 11 = .ok (.sipush 201, 3) := by decide +kernel
theorem dX5_copyOf_14 : decode cX5_copyOf 14 = .ok (.invokestatic 19, 3) := by decide +kernel
theorem dX5_copyOf_17 : decode cX5_copyOf 17 = .ok (.putfield 25, 3) := by decide +kernel
theorem dX5_copyOf_20 : decode cX5_copyOf 20 = .ok (.aload_n 0, 1) := by decide +kernel
theorem dX5_copyOf_21 : decode cX5_copyOf 21 = .ok (.iload 4, 2) := by decide +kernel
theorem dX5_copyOf_23 : decode cX5_copyOf 23 = .ok (.putfield 28, 3) := by decide +kernel
theorem dX5_copyOf_26 : decode cX5_copyOf 26 = .ok (.iconst 0, 1) := by decide +kernel
theorem dX5_copyOf_27 : decode cX5_copyOf 27 = .ok (.istore 5, 2) := by decide +kernel
theorem dX5_copyOf_29 : decode cX5_copyOf 29 = .ok (.iload 5, 2) := by decide +kernel
theorem dX5_copyOf_31 : decode cX5_copyOf 31 = .ok (.aload_n 0, 1) := by decide +kernel
theorem dX5_copyOf_32 : decode cX5_copyOf 32 = .ok (.getfield 25, 3) := by decide +kernel
theorem dX5_copyOf_35 : decode cX5_copyOf 35 = .ok (.if_icmp .ge 24, 3) := by decide +kernel
theorem dX5_copyOf_38 : decode cX5_copyOf 38 = .ok (.aload_n 0, 1) := by decide +kernel
theorem dX5_copyOf_39 : decode cX5_copyOf 39 = .ok (.getfield 9, 3) := by decide +kernel
theorem dX5_copyOf_42 : decode cX5_copyOf 42 = .ok (.iload 5, 2) := by decide +kernel
theorem dX5_copyOf_44 : decode cX5_copyOf 44 = .ok (.aload_n 1, 1) := by decide +kernel
theorem dX5_copyOf_45 : decode cX5_copyOf 45 = .ok (.iload_n 2, 1) := by decide +kernel
theorem dX5_copyOf_46 : decode cX5_copyOf 46 = .ok (.iload 5, 2) := by decide +kernel
theorem dX5_copyOf_48 : decode cX5_copyOf 48 = .ok (.iadd, 1) := by decide +kernel
theorem dX5_copyOf_49 : decode cX5_copyOf 49 = .ok (.invokevirtual 31, 3) := by decide +kernel
theorem dX5_copyOf_52 : decode cX5_copyOf 52 = .ok (.iastore, 1) := by decide +kernel
theorem dX5_copyOf_53 : decode cX5_copyOf 53 = .ok (.iinc 5 1, 3) := by decide +kernel
theorem dX5_copyOf_56 : decode cX5_copyOf 56 = .ok (.goto (-27), 3) := by decide +kernel
theorem dX5_copyOf_59 : decode cX5_copyOf 59 = .ok (.return_, 1) := by decide +kernel
theorem dX5_has_0 : decode cX5_has 0 = .ok (.iload_n 1, 1) := by decide +kernel
theorem dX5_has_1 : decode cX5_has 1 = .ok (.iconst 0, 1) := by decide +kernel
theorem dX5_has_2 : decode cX5_has 2 = .ok (.aload_n 0, 1) := by decide +kernel
theorem dX5_has_3 : decode cX5_has 3 = .ok (.getfield 25, 3) := by decide +kernel
theorem dX5_has_6 : decode cX5_has 6 = .ok (.iconst 1, 1) := by decide +kernel
theorem dX5_has_7 : decode cX5_has 7 = .ok (.isub, 1) := by decide +kernel
theorem dX5_has_8 : decode cX5_has 8 = .ok (.invokestatic 37, 3) := by decide +kernel
theorem dX5_has_11 : decode cX5_has 11 = .ok (.ireturn, 1) := by decide +kernel
theorem dX5_numberAt_0 : decode cX5_numberAt 0 = .ok (.aload_n 0, 1) := by decide +kernel
theorem dX5_numberAt_1 : decode cX5_numberAt 1 = .ok (.iload_n 2, 1) := by decide +kernel
theorem dX5_numberAt_2 : decode cX5_numberAt 2 = .ok (.invokevirtual 41, 3) := by decide +kernel
theorem dX5_numberAt_5 : decode cX5_numberAt 5 = .ok (.ifCond .eq 16, 3) := by decide +kernel
theorem dX5_numberAt_8 : decode cX5_numberAt 8 = .ok (.iload_n 1, 1) := by decide +kernel
theorem dX5_numberAt_9 : decode cX5_numberAt 9 = .ok (.aload_n 0, 1) := by decide +kernel
theorem dX5_numberAt_10 : decode cX5_numberAt 10 = .ok (.getfield 9, 3) := by decide +kernel
theorem dX5_numberAt_13 : decode cX5_numberAt 13 = .ok (.iload_n 2, 1) := by decide +kernel
theorem dX5_numberAt_14 : decode cX5_numberAt 14 = .ok (.iaload, 1) := by decide +kernel
theorem dX5_numberAt_15 : decode cX5_numberAt 15 = .ok (.invokestatic 45, 3) := by decide +kernel
theorem dX5_numberAt_18 : decode cX5_numberAt 18 = .ok (.goto 4, 3) := by decide +kernel
theorem dX5_numberAt_21 : decode cX5_numberAt 21 = .ok (.iconst 0, 1) := by decide +kernel
theorem dX5_numberAt_22 : decode cX5_numberAt 22 = .ok (.ireturn, 1) := by decide +kernel
theorem dX5_isOne_0 : decode cX5_isOne 0 = .ok (.aload_n 0, 1) := by decide +kernel
theorem dX5_isOne_1 : decode cX5_isOne 1 = .ok (.iload_n 1, 1) := by decide +kernel
theorem dX5_isOne_2 : decode cX5_isOne 2 = .ok (.iload_n 2, 1) := by decide +kernel
theorem dX5_isOne_3 : decode cX5_isOne 3 = .ok (.invokevirtual 48, 3) := by decide +kernel
theorem dX5_isOne_6 : decode cX5_isOne 6 = .ok (.ifCond .lt 7, 3) := by decide +kernel
theorem dX5_isOne_9 : decode cX5_isOne 9 = .ok (.iconst 1, 1) := by decide +kernel
theorem dX5_isOne_10 : decode cX5_isOne 10 = .ok (.goto 4, 3) := by decide +kernel
theorem dX5_isOne_13 : decode cX5_isOne 13 = .ok (.iconst 0, 1) := by decide +kernel
theorem dX5_isOne_14 : decode cX5_isOne 14 = .ok (.ireturn, 1) := by decide +kernel
theorem dX6_init_0 : decode cX6_init 0 = .ok (.aload_n 0, 1) := by decide +kernel
theorem dX6_init_1 : decode cX6_init 1 = .ok (.invokespecial 3, 3) := by decide +kernel
theorem dX6_init_4 : decode cX6_init 4 = .ok (.aload_n 0, 1) := by decide +kernel
theorem dX6_init_5 : decode cX6_init 5 = .ok (.bipush 64, 2) := by decide +kernel
theorem dX6_init_7 : decode cX6_init 7 = .ok (.newarray .int, 2) := by decide +kernel
theorem dX6_init_9 : decode cX6_init 9 = .ok (.putfield 9, 3) := by decide +kernel
theorem dX6_init_12 : decode cX6_init 12 = .ok (.aload_n 0, 1) := by decide +kernel
theorem dX6_init_13 : decode cX6_init 13 = .ok (.iconst (-1), 1) := by decide +kernel
theorem dX6_init_14 : decode cX6_init 14 = .ok (.putfield 15, 3) := by decide +kernel
theorem dX6_init_17 : decode cX6_init 17 = .ok (.return_, 1) := by decide +kernel
theorem dX6_renew_0 : decode cX6_renew 0 = .ok (.aload_n 0, 1) := by decide +kernel
theorem dX6_renew_1 : decode cX6_renew 1 = .ok (.iload_n 1, 1) := by decide +kernel
theorem dX6_renew_2 : decode cX6_renew 2 = .ok (.putfield 15, 3) := by decide +kernel
theorem dX6_renew_5 : decode cX6_renew 5 = .ok (.aload_n 0, 1) := by decide +kernel
theorem dX6_renew_6 : decode cX6_renew 6 = .ok (.iload_n 2, 1) := by decide +kernel
theorem dX6_renew_7 : decode cX6_renew 7 = .ok (.bipush 64, 2) := by decide +kernel
theorem dX6_renew_9 : decode cX6_renew 9 = .ok (.invokestatic 19, 3) := by decide +kernel
theorem dX6_renew_12 : decode cX6_renew 12 = .ok (.putfield 25, 3) := by decide +kernel
theorem dX6_renew_15 : decode cX6_renew 15 = .ok (.iconst 0, 1) := by decide +kernel
theorem dX6_renew_16 : decode cX6_renew 16 = .ok (.istore_n 3, 1) := by decide +kernel
theorem dX6_renew_17 : decode cX6_renew 17 = .ok (.iload_n 3, 1) := by decide +kernel
theorem dX6_renew_18 : decode cX6_renew 18 = .ok (.aload_n 0, 1) := by decide +kernel
theorem dX6_renew_19 : decode cX6_renew 19 = .ok (.getfield 25, 3) := by decide +kernel
theorem dX6_renew_22 : decode cX6_renew 22 = .ok (.if_icmp .ge 16, 3) := by decide +kernel
theorem dX6_renew_25 : decode cX6_renew 25 = .ok (.aload_n 0, 1) := by decide +kernel
theorem dX6_renew_26 : decode cX6_renew 26 = .ok (.getfield 9, 3) := by decide +kernel
theorem dX6_renew_29 : decode cX6_renew 29 = .ok (.iload_n 3, 1) := by decide +kernel
theorem dX6_renew_30 : decode cX6_renew 30 = .ok (.iconst 0, 1) := by decide +kernel
theorem dX6_renew_31 : decode cX6_renew 31 = .ok (.iastore, 1) := by decide +kernel
theorem dX6_renew_32 : decode cX6_renew 32 = .ok (.iinc 3 1, 3) := by decide +kernel
theorem dX6_renew_35 : decode cX6_renew 35 = .ok (.goto (-18), 3) := by decide +kernel
theorem dX6_renew_38 : decode cX6_renew 38 = .ok (.return_, 1) := by decide +kernel
theorem dX6_isNothing_0 : decode cX6_isNothing 0 = .ok (.aload_n 0, 1) := by decide +kernel
theorem dX6_isNothing_1 : decode cX6_isNothing 1 = .ok (.getfield 15, 3) := by decide +kernel
theorem dX6_isNothing_4 : decode cX6_isNothing 4 = .ok (.iconst (-1), 1) := by decide +kernel
theorem dX6_isNothing_5 : decode cX6_isNothing 5 = .ok (.if_icmp .ne 7, 3) := by decide +kernel
theorem dX6_isNothing_8 : decode cX6_isNothing 8 = .ok (.iconst 1, 1) := by decide +kernel
theorem dX6_isNothing_9 : decode cX6_isNothing 9 = .ok (.goto 4, 3) := by decide +kernel
theorem dX6_isNothing_12 : decode cX6_isNothing 12 = .ok (.iconst 0, 1) := by decide +kernel
theorem dX6_isNothing_13 : decode cX6_isNothing 13 = .ok (.ireturn, 1) := by decide +kernel
theorem dX6_has_0 : decode cX6_has 0 = .ok (.iload_n 1, 1) := by decide +kernel
theorem dX6_has_1 : decode cX6_has 1 = .ok (.iconst 0, 1) := by decide +kernel
theorem dX6_has_2 : decode cX6_has 2 = .ok (.aload_n 0, 1) := by decide +kernel
theorem dX6_has_3 : decode cX6_has 3 = .ok (.getfield 25, 3) := by decide +kernel
theorem dX6_has_6 : decode cX6_has 6 = .ok (.iconst 1, 1) := by decide +kernel
theorem dX6_has_7 : decode cX6_has 7 = .ok (.isub, 1) := by decide +kernel
theorem dX6_has_8 : decode cX6_has 8 = .ok (.invokestatic 28, 3) := by decide +kernel
theorem dX6_has_11 : decode cX6_has 11 = .ok (.ireturn, 1) := by decide +kernel
theorem dX6_put_0 : decode cX6_put 0 = .ok (.aload_n 0, 1) := by decide +kernel
theorem dX6_put_1 : decode cX6_put 1 = .ok (.iload_n 1, 1) := by decide +kernel
theorem dX6_put_2 : decode cX6_put 2 = .ok (.invokevirtual 32, 3) := by decide +kernel
theorem dX6_put_5 : decode cX6_put 5 = .ok (.ifCond .eq 35, 3) := by decide +kernel
theorem dX6_put_8 : decode cX6_put 8 = .ok (.aload_n 0, 1) := by decide +kernel
theorem dX6_put_9 : decode cX6_put 9 = .ok (.getfield 9, 3) := by decide +kernel
theorem dX6_put_12 : decode cX6_put 12 = .ok (.iload_n 1, 1) := by decide +kernel
theorem dX6_put_13 : decode cX6_put 13 = .ok (.aload_n 0, 1) := by decide +kernel
theorem dX6_put_14 : decode cX6_put 14 = .ok (.getfield 15, 3) := by decide +kernel
theorem dX6_put_17 : decode cX6_put 17 = .ok (.ifCond .ne 8, 3) := by decide +kernel
theorem dX6_put_20 : decode cX6_put 20 = .ok (.iload_n 2, 1) := by decide +kernel
theorem dX6_put_21 : decode cX6_put 21 = .ok (.i2b, 1) := by decide +kernel
theorem dX6_put_22 : decode cX6_put 22 = .ok (.goto 17, 3) := by decide +kernel
theorem dX6_put_25 : decode cX6_put 25 = .ok (.aload_n 0, 1) := by decide +kernel
theorem dX6_put_26 : decode cX6_put 26 = .ok (.getfield 15, 3) := by decide +kernel
theorem dX6_put_29 : decode cX6_put 29 = .ok (.iconst 1, 1) := by decide +kernel
theorem dX6_put_30 : decode cX6_put 30 = .ok (.if_icmp .ne 8, 3) := by decide +kernel
theorem dX6_put_33 : decode cX6_put 33 = .ok (.iload_n 2, 1) := by decide +kernel
theorem dX6_put_34 : decode cX6_put 34 = .ok (.i2s, 1) := by decide +kernel
theorem dX6_put_35 : decode cX6_put 35 = .ok (.goto 4, 3) := by decide +kernel
theorem dX6_put_38 : decode cX6_put 38 = .ok (.iload_n 2, 1) := by decide +kernel
theorem dX6_put_39 : decode cX6_put 39 = .ok (.iastore, 1) := by decide +kernel
theorem dX6_put_40 : decode cX6_put 40 = .ok (.return_, 1) := by decide +kernel
theorem dX6_faultAs_0 : decode cX6_faultAs 0 = .ok (.aload_n 0, 1) := by decide +kernel
theorem dX6_faultAs_1 : decode cX6_faultAs 1 = .ok (.invokevirtual 36, 3) := by decide +kernel
theorem dX6_faultAs_4 : decode cX6_faultAs 4 = .ok (.ifCond .eq 5, 3) := by decide +kernel
theorem dX6_faultAs_7 : decode cX6_faultAs 7 = .ok (.iconst 1, 1) := by decide +kernel
theorem dX6_faultAs_8 : decode cX6_faultAs 8 = .ok (.ireturn, 1) := by decide +kernel
theorem dX6_faultAs_9 : decode cX6_faultAs 9 = .ok (.aload_n 0, 1) := by decide +kernel
theorem dX6_faultAs_10 : decode cX6_faultAs 10 = .ok (.getfield 15, 3) := by decide +kernel
theorem dX6_faultAs_13 : decode cX6_faultAs 13 = .ok (.iload_n 1, 1) := by decide +kernel
theorem dX6_faultAs_14 : decode cX6_faultAs 14 = .ok (.if_icmp .eq 5, 3) := by decide +kernel
theorem dX6_faultAs_17 : decode cX6_faultAs 17 = .ok (.iconst 3, 1) := by decide +kernel
theorem dX6_faultAs_18 : decode cX6_faultAs 18 = .ok (.ireturn, 1) := by decide +kernel
theorem dX6_faultAs_19 : decode cX6_faultAs 19 = .ok (.iload_n 2, 1) := by decide +kernel
theorem dX6_faultAs_20 : decode cX6_faultAs 20 = .ok (.aload_n 0, 1) := by decide +kernel
theorem dX6_faultAs_21 : decode cX6_faultAs 21 = .ok (.getfield 25, 3) := by decide +kernel
theorem dX6_faultAs_24 : decode cX6_faultAs 24 = .ok (.iconst 2, 1) := by decide +kernel
theorem dX6_faultAs_25 : decode cX6_faultAs 25 = .ok (.idiv, 1) := by decide +kernel
theorem dX6_faultAs_26 : decode cX6_faultAs 26 = .ok (.if_icmp .le 7, 3) := by decide +kernel
theorem dX6_faultAs_29 : decode cX6_faultAs 29 = .ok (.iconst 2, 1) := by decide +kernel
theorem dX6_faultAs_30 : decode cX6_faultAs 30 = .ok (.goto 4, 3) := by decide +kernel
theorem dX6_faultAs_33 : decode cX6_faultAs 33 = .ok (.iconst 0, 1) := by decide +kernel
theorem dX6_faultAs_34 : decode cX6_faultAs 34 = .ok (.ireturn, 1) := by decide +kernel
theorem dX6_allows_0 : decode cX6_allows 0 = .ok (.iconst 2, 1) := by decide +kernel
theorem dX6_allows_1 : decode cX6_allows 1 = .ok (.iload_n 1, 1) := by decide +kernel
theorem dX6_allows_2 : decode cX6_allows 2 = .ok (.imul, 1) := by decide +kernel
theorem dX6_allows_3 : decode cX6_allows 3 = .ok (.istore_n 3, 1) := by decide +kernel
theorem dX6_allows_4 : decode cX6_allows 4 = .ok (.aload_n 0, 1) := by decide +kernel
theorem dX6_allows_5 : decode cX6_allows 5 = .ok (.iload_n 3, 1) := by decide +kernel
theorem dX6_allows_6 : decode cX6_allows 6 = .ok (.invokevirtual 32, 3) := by decide +kernel
theorem dX6_allows_9 : decode cX6_allows 9 = .ok (.ifCond .eq 34, 3) := by decide +kernel
theorem dX6_allows_12 : decode cX6_allows 12 = .ok (.aload_n 0, 1) := by decide +kernel
theorem dX6_allows_13 : decode cX6_allows 13 = .ok (.iload_n 3, 1) := by decide +kernel
theorem dX6_allows_14 : decode cX6_allows 14 = .ok (.iconst 1, 1) := by decide +kernel
theorem dX6_allows_15 : decode cX6_allows 15 = .ok (.iadd, 1) := by decide +kernel
theorem dX6_allows_16 : decode cX6_allows 16 = .ok (.invokevirtual 32, 3) := by decide +kernel
theorem dX6_allows_19 : decode cX6_allows 19 = .ok (.ifCond .eq 24, 3) := by decide +kernel
theorem dX6_allows_22 : decode cX6_allows 22 = .ok (.iload_n 2, 1) := by decide +kernel
theorem dX6_allows_23 : decode cX6_allows 23 = .ok (.aload_n 0, 1) := by decide +kernel
theorem dX6_allows_24 : decode cX6_allows 24 = .ok (.getfield 9, 3) := by decide +kernel
theorem dX6_allows_27 : decode cX6_allows 27 = .ok (.iload_n 3, 1) := by decide +kernel
theorem dX6_allows_28 : decode cX6_allows 28 = .ok (.iaload, 1) := by decide +kernel
theorem dX6_allows_29 : decode cX6_allows 29 = .ok (.aload_n 0, 1) := by decide +kernel
theorem dX6_allows_30 : decode cX6_allows 30 = .ok (.getfield 9, 3) := by decide +kernel
theorem dX6_allows_33 : decode cX6_allows 33 = .ok (.iload_n 3, 1) := by decide +kernel
theorem dX6_allows_34 : decode cX6_allows 34 = .ok (.iconst 1, 1) := by decide +kernel
theorem dX6_allows_35 : decode cX6_allows 35 = .ok (.iadd, 1) := by decide +kernel
theorem dX6_allows_36 : decode cX6_allows 36 = .ok (.iaload, 1) := by decide +kernel
theorem dX6_allows_37 : decode cX6_allows 37 = .ok (.invokestatic 28, 3) := by decide +kernel
theorem dX6_allows_40 : decode cX6_allows 40 = .ok (.ifCond .eq 7, 3) := by decide +kernel
theorem dX6_allows_43 : decode cX6_allows 43 = .ok (.iconst 1, 1) := by decide +kernel
theorem dX6_allows_44 : decode cX6_allows 44 = .ok (.goto 4, 3) := by decide +kernel
theorem dX6_allows_47 : decode cX6_allows 47 = .ok (.iconst 0, 1) := by decide +kernel
theorem dX6_allows_48 : decode cX6_allows 48 = .ok (.ireturn, 1) := by decide +kernel
theorem dX7_init_0 : decode cX7_init 0 = .ok (.aload_n 0, 1) := by decide +kernel
theorem dX7_init_1 : decode cX7_init 1 = .ok (.invokespecial 3, 3) := by decide +kernel
theorem dX7_init_4 : decode cX7_init 4 = .ok (.return_, 1) := by decide +kernel
theorem dX7_happens_0 : decode cX7_happens 0 = .ok (.aload_n 0, 1) := by decide +kernel
theorem dX7_happens_1 : decode cX7_happens 1 = .ok (.getfield 9, 3) := by decide +kernel
theorem dX7_happens_4 : decode cX7_happens 4 = .ok (.iload_n 1, 1) := by decide +kernel
theorem dX7_happens_5 : decode cX7_happens 5 = .ok (.invokestatic 15, 3) := by decide +kernel
theorem dX7_happens_8 : decode cX7_happens 8 = .ok (.istore_n 3, 1) := by decide +kernel
theorem dX7_happens_9 : decode cX7_happens 9 = .ok (.aload_n 0, 1) := by decide +kernel
theorem dX7_happens_10 : decode cX7_happens 10 = .ok (.getfield 9, 3) := by decide +kernel
theorem dX7_happens_13 : decode cX7_happens 13 = .ok (.iload_n 2, 1) := by decide +kernel
theorem dX7_happens_14 : decode cX7_happens 14 = .ok (.invokestatic 15, 3) := by decide +kernel
theorem dX7_happens_17 : decode cX7_happens 17 = .ok (.istore 4, 2) := by decide +kernel
theorem dX7_happens_19 : decode cX7_happens 19 = .ok (.aload_n 0, 1) := by decide +kernel
theorem dX7_happens_20 : decode cX7_happens 20 = .ok (.getfield 19, 3) := by decide +kernel
theorem dX7_happens_23 : decode cX7_happens 23 = .ok (.ifCond .le 16, 3) := by decide +kernel
theorem dX7_happens_26 : decode cX7_happens 26 = .ok (.iload 4, 2) := by decide +kernel
theorem dX7_happens_28 : decode cX7_happens 28 = .ok (.aload_n 0, 1) := by decide +kernel
theorem dX7_happens_29 : decode cX7_happens 29 = .ok (.getfield 22, 3) := by decide +kernel
theorem dX7_happens_32 : decode cX7_happens 32 = .ok (.if_icmp .ge 7, 3) := by decide +kernel
theorem dX7_happens_35 : decode cX7_happens 35 = .ok (.iconst 1, 1) := by decide +kernel
theorem dX7_happens_36 : decode cX7_happens 36 = .ok (.goto 4, 3) := by decide +kernel
theorem dX7_happens_39 : decode cX7_happens 39 = .ok (.iconst 0, 1) := by decide +kernel
theorem dX7_happens_40 : decode cX7_happens 40 = .ok (.istore 5, 2) := by decide +kernel
theorem dX7_happens_42 : decode cX7_happens 42 = .ok (.aload_n 0, 1) := by decide +kernel
theorem dX7_happens_43 : decode cX7_happens 43 = .ok (.getfield 25, 3) := by decide +kernel
theorem dX7_happens_46 : decode cX7_happens 46 = .ok (.tableswitch 259 0 7 #[46, 69, 92, 114, 136, 154, 191, 228], 46) := by decide +kernel
theorem dX7_happens_92 : decode cX7_happens 92 = .ok (.iload_n 3, 1) := by decide +kernel
theorem dX7_happens_93 : decode cX7_happens 93 = .ok (.aload_n 0, 1) := by decide +kernel
theorem dX7_happens_94 : decode cX7_happens 94 = .ok (.getfield 22, 3) := by decide +kernel
theorem dX7_happens_97 : decode cX7_happens 97 = .ok (.if_icmp .ge 16, 3) := by decide +kernel
theorem dX7_happens_100 : decode cX7_happens 100 = .ok (.iload 4, 2) := by decide +kernel
theorem dX7_happens_102 : decode cX7_happens 102 = .ok (.aload_n 0, 1) := by decide +kernel
theorem dX7_happens_103 : decode cX7_happens 103 = .ok (.getfield 22, 3) := by decide +kernel
theorem dX7_happens_106 : decode cX7_happens 106 = .ok (.if_icmp .lt 7, 3) := by decide +kernel
theorem dX7_happens_109 : decode cX7_happens 109 = .ok (.iconst 1, 1) := by decide +kernel
theorem dX7_happens_110 : decode cX7_happens 110 = .ok (.goto 4, 3) := by decide +kernel
theorem dX7_happens_113 : decode cX7_happens 113 = .ok (.iconst 0, 1) := by decide +kernel
theorem dX7_happens_114 : decode cX7_happens 114 = .ok (.ireturn, 1) := by decide +kernel
theorem dX7_happens_115 : decode cX7_happens 115 = .ok (.iload_n 3, 1) := by decide +kernel
theorem dX7_happens_116 : decode cX7_happens 116 = .ok (.aload_n 0, 1) := by decide +kernel
theorem dX7_happens_117 : decode cX7_happens 117 = .ok (.getfield 22, 3) := by decide +kernel
theorem dX7_happens_120 : decode cX7_happens 120 = .ok (.if_icmp .lt 16, 3) := by decide +kernel
theorem dX7_happens_123 : decode cX7_happens 123 = .ok (.iload 4, 2) := by decide +kernel
theorem dX7_happens_125 : decode cX7_happens 125 = .ok (.aload_n 0, 1) := by decide +kernel
theorem dX7_happens_126 : decode cX7_happens 126 = .ok (.getfield 22, 3) := by decide +kernel
theorem dX7_happens_129 : decode cX7_happens 129 = .ok (.if_icmp .ge 7, 3) := by decide +kernel
theorem dX7_happens_132 : decode cX7_happens 132 = .ok (.iconst 1, 1) := by decide +kernel
theorem dX7_happens_133 : decode cX7_happens 133 = .ok (.goto 4, 3) := by decide +kernel
theorem dX7_happens_136 : decode cX7_happens 136 = .ok (.iconst 0, 1) := by decide +kernel
theorem dX7_happens_137 : decode cX7_happens 137 = .ok (.ireturn, 1) := by decide +kernel
theorem dX7_happens_138 : decode cX7_happens 138 = .ok (.iload 5, 2) := by decide +kernel
theorem dX7_happens_140 : decode cX7_happens 140 = .ok (.ifCond .eq 18, 3) := by decide +kernel
theorem dX7_happens_143 : decode cX7_happens 143 = .ok (.aload_n 0, 1) := by decide +kernel
theorem dX7_happens_144 : decode cX7_happens 144 = .ok (.getfield 19, 3) := by decide +kernel
theorem dX7_happens_147 : decode cX7_happens 147 = .ok (.aload_n 0, 1) := by decide +kernel
theorem dX7_happens_148 : decode cX7_happens 148 = .ok (.getfield 28, 3) := by decide +kernel
theorem dX7_happens_151 : decode cX7_happens 151 = .ok (.if_icmp .lt 7, 3) := by decide +kernel
theorem dX7_happens_154 : decode cX7_happens 154 = .ok (.iconst 1, 1) := by decide +kernel
theorem dX7_happens_155 : decode cX7_happens 155 = .ok (.goto 4, 3) := by decide +kernel
theorem dX7_happens_158 : decode cX7_happens 158 = .ok (.iconst 0, 1) := by decide +kernel
theorem dX7_happens_159 : decode cX7_happens 159 = .ok (.ireturn, 1) := by decide +kernel
theorem dX7_happens_160 : decode cX7_happens 160 = .ok (.iload 5, 2) := by decide +kernel
theorem dX7_happens_162 : decode cX7_happens 162 = .ok (.ifCond .eq 18, 3) := by decide +kernel
theorem dX7_happens_165 : decode cX7_happens 165 = .ok (.aload_n 0, 1) := by decide +kernel
theorem dX7_happens_166 : decode cX7_happens 166 = .ok (.getfield 19, 3) := by decide +kernel
theorem dX7_happens_169 : decode cX7_happens 169 = .ok (.aload_n 0, 1) := by decide +kernel
theorem dX7_happens_170 : decode cX7_happens 170 = .ok (.getfield 28, 3) := by decide +kernel
theorem dX7_happens_173 : decode cX7_happens 173 = .ok (.if_icmp .ge 7, 3) := by decide +kernel
theorem dX7_happens_176 : decode cX7_happens 176 = .ok (.iconst 1, 1) := by decide +kernel
theorem dX7_happens_177 : decode cX7_happens 177 = .ok (.goto 4, 3) := by decide +kernel
theorem dX7_happens_180 : decode cX7_happens 180 = .ok (.iconst 0, 1) := by decide +kernel
theorem dX7_happens_181 : decode cX7_happens 181 = .ok (.ireturn, 1) := by decide +kernel
theorem dX7_happens_182 : decode cX7_happens 182 = .ok (.iload 5, 2) := by decide +kernel
theorem dX7_happens_184 : decode cX7_happens 184 = .ok (.ifCond .eq 14, 3) := by decide +kernel
theorem dX7_happens_187 : decode cX7_happens 187 = .ok (.aload_n 0, 1) := by decide +kernel
theorem dX7_happens_188 : decode cX7_happens 188 = .ok (.getfield 31, 3) := by decide +kernel
theorem dX7_happens_191 : decode cX7_happens 191 = .ok (.ifCond .ne 7, 3) := by decide +kernel
theorem dX7_happens_194 : decode cX7_happens 194 = .ok (.iconst 1, 1) := by decide +kernel
theorem dX7_happens_195 : decode cX7_happens 195 = .ok (.goto 4, 3) := by decide +kernel
theorem dX7_happens_198 : decode cX7_happens 198 = .ok (.iconst 0, 1) := by decide +kernel
theorem dX7_happens_199 : decode cX7_happens 199 = .ok (.ireturn, 1) := by decide +kernel
theorem dX7_happens_200 : decode cX7_happens 200 = .ok (.iload 4, 2) := by decide +kernel
theorem dX7_happens_202 : decode cX7_happens 202 = .ok (.aload_n 0, 1) := by decide +kernel
theorem dX7_happens_203 : decode cX7_happens 203 = .ok (.getfield 22, 3) := by decide +kernel
theorem dX7_happens_206 : decode cX7_happens 206 = .ok (.aload_n 0, 1) := by decide +kernel
theorem dX7_happens_207 : decode cX7_happens 207 = .ok (.getfield 35, 3) := by decide +kernel
theorem dX7_happens_210 : decode cX7_happens 210 = .ok (.invokestatic 38, 3) := by decide +kernel
theorem dX7_happens_213 : decode cX7_happens 213 = .ok (.ifCond .eq 22, 3) := by decide +kernel
theorem dX7_happens_216 : decode cX7_happens 216 = .ok (.iload_n 3, 1) := by decide +kernel
theorem dX7_happens_217 : decode cX7_happens 217 = .ok (.aload_n 0, 1) := by decide +kernel
theorem dX7_happens_218 : decode cX7_happens 218 = .ok (.getfield 22, 3) := by decide +kernel
theorem dX7_happens_221 : decode cX7_happens 221 = .ok (.aload_n 0, 1) := by decide +kernel
theorem dX7_happens_222 : decode cX7_happens 222 = .ok (.getfield 35, 3) := by decide +kernel
theorem dX7_happens_225 : decode cX7_happens 225 = .ok (.invokestatic 38, 3) := by decide +kernel
theorem dX7_happens_228 : decode cX7_happens 228 = .ok (.ifCond .ne 7, 3) := by decide +kernel
theorem dX7_happens_231 : decode cX7_happens 231 = .ok (.iconst 1, 1) := by decide +kernel
theorem dX7_happens_232 : decode cX7_happens 232 = .ok (.goto 4, 3) := by decide +kernel
theorem dX7_happens_235 : decode cX7_happens 235 = .ok (.iconst 0, 1) := by decide +kernel
theorem dX7_happens_236 : decode cX7_happens 236 = .ok (.ireturn, 1) := by decide +kernel
theorem dX7_happens_237 : decode cX7_happens 237 = .ok (.iload_n 3, 1) := by decide +kernel
theorem dX7_happens_238 : decode cX7_happens 238 = .ok (.aload_n 0, 1) := by decide +kernel
theorem dX7_happens_239 : decode cX7_happens 239 = .ok (.getfield 22, 3) := by decide +kernel
theorem dX7_happens_242 : decode cX7_happens 242 = .ok (.aload_n 0, 1) := by decide +kernel
theorem dX7_happens_243 : decode cX7_happens 243 = .ok (.getfield 35, 3) := by decide +kernel
theorem dX7_happens_246 : decode cX7_happens 246 = .ok (.invokestatic 38, 3) := by decide +kernel
theorem dX7_happens_249 : decode cX7_happens 249 = .ok (.ifCond .eq 23, 3) := by decide +kernel
theorem dX7_happens_252 : decode cX7_happens 252 = .ok (.iload 4, 2) := by decide +kernel
theorem dX7_happens_254 : decode cX7_happens 254 = .ok (.aload_n 0, 1) := by decide +kernel
theorem dX7_happens_255 : decode cX7_happens 255 = .ok (.getfield 22, 3) := by decide +kernel
theorem dX7_happens_258 : decode cX7_happens 258 = .ok (.aload_n 0, 1) := by decide +kernel
theorem dX7_happens_259 : decode cX7_happens 259 = .ok (.getfield 35, 3) := by decide +kernel
theorem dX7_happens_262 : decode cX7_happens 262 = .ok (.invokestatic 38, 3) := by decide +kernel
theorem dX7_happens_265 : decode cX7_happens 265 = .ok (.ifCond .ne 7, 3) := by decide +kernel
theorem dX7_happens_268 : decode cX7_happens 268 = .ok (.iconst 1, 1) := by decide +kernel
theorem dX7_happens_269 : decode cX7_happens 269 = .ok (.goto 4, 3) := by decide +kernel
theorem dX7_happens_272 : decode cX7_happens 272 = .ok (.iconst 0, 1) := by decide +kernel
theorem dX7_happens_273 : decode cX7_happens 273 = .ok (.ireturn, 1) := by decide +kernel
theorem dX7_happens_274 : decode cX7_happens 274 = .ok (.iload 4, 2) := by decide +kernel
theorem dX7_happens_276 : decode cX7_happens 276 = .ok (.aload_n 0, 1) := by decide +kernel
theorem dX7_happens_277 : decode cX7_happens 277 = .ok (.getfield 42, 3) := by decide +kernel
theorem dX7_happens_280 : decode cX7_happens 280 = .ok (.iload_n 2, 1) := by decide +kernel
theorem dX7_happens_281 : decode cX7_happens 281 = .ok (.invokestatic 15, 3) := by decide +kernel
theorem dX7_happens_284 : decode cX7_happens 284 = .ok (.if_icmp .ne 19, 3) := by decide +kernel
theorem dX7_happens_287 : decode cX7_happens 287 = .ok (.iload_n 3, 1) := by decide +kernel
theorem dX7_happens_288 : decode cX7_happens 288 = .ok (.aload_n 0, 1) := by decide +kernel
theorem dX7_happens_289 : decode cX7_happens 289 = .ok (.getfield 42, 3) := by decide +kernel
theorem dX7_happens_292 : decode cX7_happens 292 = .ok (.iload_n 1, 1) := by decide +kernel
theorem dX7_happens_293 : decode cX7_happens 293 = .ok (.invokestatic 15, 3) := by decide +kernel
theorem dX7_happens_296 : decode cX7_happens 296 = .ok (.if_icmp .eq 7, 3) := by decide +kernel
theorem dX7_happens_299 : decode cX7_happens 299 = .ok (.iconst 1, 1) := by decide +kernel
theorem dX7_happens_300 : decode cX7_happens 300 = .ok (.goto 4, 3) := by decide +kernel
theorem dX7_happens_303 : decode cX7_happens 303 = .ok (.iconst 0, 1) := by decide +kernel
theorem dX7_happens_304 : decode cX7_happens 304 = .ok (.ireturn, 1) := by decide +kernel
theorem dX7_happens_305 : decode cX7_happens 305 = .ok (.iconst 0, 1) := by decide +kernel
theorem dX7_happens_306 : decode cX7_happens 306 = .ok (.ireturn, 1) := by decide +kernel
theorem dX7_followHigh_0 : decode cX7_followHigh 0 = .ok (.aload_n 0, 1) := by decide +kernel
theorem dX7_followHigh_1 : decode cX7_followHigh 1 = .ok (.getfield 9, 3) := by decide +kernel
theorem dX7_followHigh_4 : decode cX7_followHigh 4 = .ok (.iload_n 1, 1) := by decide +kernel
theorem dX7_followHigh_5 : decode cX7_followHigh 5 = .ok (.invokestatic 15, 3) := by decide +kernel
theorem dX7_followHigh_8 : decode cX7_followHigh 8 = .ok (.istore_n 3, 1) := by decide +kernel
theorem dX7_followHigh_9 : decode cX7_followHigh 9 = .ok (.aload_n 0, 1) := by decide +kernel
theorem dX7_followHigh_10 : decode cX7_followHigh 10 = .ok (.getfield 9, 3) := by decide +kernel
theorem dX7_followHigh_13 : decode cX7_followHigh 13 = .ok (.iload_n 2, 1) := by decide +kernel
theorem dX7_followHigh_14 : decode cX7_followHigh 14 = .ok (.invokestatic 15, 3) := by decide +kernel
theorem dX7_followHigh_17 : decode cX7_followHigh 17 = .ok (.istore 4, 2) := by decide +kernel
theorem dX7_followHigh_19 : decode cX7_followHigh 19 = .ok (.iload 4, 2) := by decide +kernel
theorem dX7_followHigh_21 : decode cX7_followHigh 21 = .ok (.aload_n 0, 1) := by decide +kernel
theorem dX7_followHigh_22 : decode cX7_followHigh 22 = .ok (.getfield 22, 3) := by decide +kernel
theorem dX7_followHigh_25 : decode cX7_followHigh 25 = .ok (.if_icmp .ge 11, 3) := by decide +kernel
theorem dX7_followHigh_28 : decode cX7_followHigh 28 = .ok (.aload_n 0, 1) := by decide +kernel
theorem dX7_followHigh_29 : decode cX7_followHigh 29 = .ok (.iconst 0, 1) := by decide +kernel
theorem dX7_followHigh_30 : decode cX7_followHigh 30 = .ok (.putfield 19, 3) := by decide +kernel
theorem dX7_followHigh_33 : decode cX7_followHigh 33 = .ok (.goto 79, 3) := by decide +kernel
theorem dX7_followHigh_36 : decode cX7_followHigh 36 = .ok (.iload_n 3, 1) := by decide +kernel
theorem dX7_followHigh_37 : decode cX7_followHigh 37 = .ok (.aload_n 0, 1) := by decide +kernel
theorem dX7_followHigh_38 : decode cX7_followHigh 38 = .ok (.getfield 22, 3) := by decide +kernel
theorem dX7_followHigh_41 : decode cX7_followHigh 41 = .ok (.if_icmp .ge 29, 3) := by decide +kernel
theorem dX7_followHigh_44 : decode cX7_followHigh 44 = .ok (.aload_n 0, 1) := by decide +kernel
theorem dX7_followHigh_45 : decode cX7_followHigh 45 = .ok (.iconst 1, 1) := by decide +kernel
theorem dX7_followHigh_46 : decode cX7_followHigh 46 = .ok (.putfield 19, 3) := by decide +kernel
theorem dX7_followHigh_49 : decode cX7_followHigh 49 = .ok (.aload_n 0, 1) := by decide +kernel
theorem dX7_followHigh_50 : decode cX7_followHigh 50 = .ok (.iload 4, 2) := by decide +kernel
theorem dX7_followHigh_52 : decode cX7_followHigh 52 = .ok (.aload_n 0, 1) := by decide +kernel
theorem dX7_followHigh_53 : decode cX7_followHigh 53 = .ok (.getfield 35, 3) := by decide +kernel
theorem dX7_followHigh_56 : decode cX7_followHigh 56 = .ok (.if_icmp .lt 7, 3) := by decide +kernel
theorem dX7_followHigh_59 : decode cX7_followHigh 59 = .ok (.iconst 1, 1) := by decide +kernel
theorem dX7_followHigh_60 : decode cX7_followHigh 60 = .ok (.goto 4, 3) := by decide +kernel
theorem dX7_followHigh_63 : decode cX7_followHigh 63 = .ok (.iconst 0, 1) := by decide +kernel
theorem dX7_followHigh_64 : decode cX7_followHigh 64 = .ok (.putfield 31, 3) := by decide +kernel
theorem dX7_followHigh_67 : decode cX7_followHigh 67 = .ok (.goto 45, 3) := by decide +kernel
theorem dX7_followHigh_70 : decode cX7_followHigh 70 = .ok (.aload_n 0, 1) := by decide +kernel
theorem dX7_followHigh_71 : decode cX7_followHigh 71 = .ok (.getfield 19, 3) := by decide +kernel
theorem dX7_followHigh_74 : decode cX7_followHigh 74 = .ok (.ifCond .le 38, 3) := by decide +kernel
theorem dX7_followHigh_77 : decode cX7_followHigh 77 = .ok (.aload_n 0, 1) := by decide +kernel
theorem dX7_followHigh_78 : decode cX7_followHigh 78 = .ok (.dup, 1) := by decide +kernel
theorem dX7_followHigh_79 : decode cX7_followHigh 79 = .ok (.getfield 19, 3) := by decide +kernel
theorem dX7_followHigh_82 : decode cX7_followHigh 82 = .ok (.iconst 1, 1) := by decide +kernel
theorem dX7_followHigh_83 : decode cX7_followHigh 83 = .ok (.iadd, 1) := by decide +kernel
theorem dX7_followHigh_84 : decode cX7_followHigh 84 = .ok (.putfield 19, 3) := by decide +kernel
theorem dX7_followHigh_87 : decode cX7_followHigh 87 = .ok (.aload_n 0, 1) := by decide +kernel
theorem dX7_followHigh_88 : decode cX7_followHigh 88 = .ok (.aload_n 0, 1) := by decide +kernel
theorem dX7_followHigh_89 : decode cX7_followHigh 89 = .ok (.getfield 31, 3) := by decide +kernel
theorem dX7_followHigh_92 : decode cX7_followHigh 92 = .ok (.ifCond .ne 12, 3) := by decide +kernel
theorem dX7_followHigh_95 : decode cX7_followHigh 95 = .ok (.iload 4, 2) := by decide +kernel
theorem dX7_followHigh_97 : decode cX7_followHigh 97 = .ok (.aload_n 0, 1) := by decide +kernel
theorem dX7_followHigh_98 : decode cX7_followHigh 98 = .ok (.getfield 35, 3) := by decide +kernel
theorem dX7_followHigh_101 : decode cX7_followHigh 101 = .ok (.if_icmp .lt 7, 3) := by decide +kernel
theorem dX7_followHigh_104 : decode cX7_followHigh 104 = .ok (.iconst 1, 1) := by decide +kernel
theorem dX7_followHigh_105 : decode cX7_followHigh 105 = .ok (.goto 4, 3) := by decide +kernel
theorem dX7_followHigh_108 : decode cX7_followHigh 108 = .ok (.iconst 0, 1) := by decide +kernel
theorem dX7_followHigh_109 : decode cX7_followHigh 109 = .ok (.putfield 31, 3) := by decide +kernel
theorem dX7_followHigh_112 : decode cX7_followHigh 112 = .ok (.return_, 1) := by decide +kernel
theorem dX8_init_0 : decode cX8_init 0 = .ok (.aload_n 0, 1) := by decide +kernel
theorem dX8_init_1 : decode cX8_init 1 = .ok (.invokespecial 3, 3) := by decide +kernel
theorem dX8_init_4 : decode cX8_init 4 = .ok (.aload_n 0, 1) := by decide +kernel
theorem dX8_init_5 : decode cX8_init 5 = .ok (.bipush 8, 2) := by decide +kernel
theorem dX8_init_7 : decode cX8_init 7 = .ok (.anewarray 9, 3) := by decide +kernel
theorem dX8_init_10 : decode cX8_init 10 = .ok (.putfield 11, 3) := by decide +kernel
theorem dX8_init_13 : decode cX8_init 13 = .ok (.iconst 0, 1) := by decide +kernel
theorem dX8_init_14 : decode cX8_init 14 = .ok (.istore_n 1, 1) := by decide +kernel
theorem dX8_init_15 : decode cX8_init 15 = .ok (.iload_n 1, 1) := by decide +kernel
theorem dX8_init_16 : decode cX8_init 16 = .ok (.bipush 8, 2) := by decide +kernel
theorem dX8_init_18 : decode cX8_init 18 = .ok (.if_icmp .ge 22, 3) := by decide +kernel
theorem dX8_init_21 : decode cX8_init 21 = .ok (.aload_n 0, 1) := by decide +kernel
theorem dX8_init_22 : decode cX8_init 22 = .ok (.getfield 11, 3) := by decide +kernel
theorem dX8_init_25 : decode cX8_init 25 = .ok (.iload_n 1, 1) := by decide +kernel
theorem dX8_init_26 : decode cX8_init 26 = .ok (.new 9, 3) := by decide +kernel
theorem dX8_init_29 : decode cX8_init 29 = .ok (.dup, 1) := by decide +kernel
theorem dX8_init_30 : decode cX8_init 30 = .ok (.invokespecial 17, 3) := by decide +kernel
theorem dX8_init_33 : decode cX8_init 33 = .ok (.aastore, 1) := by decide +kernel
theorem dX8_init_34 : decode cX8_init 34 = .ok (.iinc 1 1, 3) := by decide +kernel
theorem dX8_init_37 : decode cX8_init 37 = .ok (.goto (-22), 3) := by decide +kernel
theorem dX8_init_40 : decode cX8_init 40 = .ok (.return_, 1) := by decide +kernel
theorem dX8_isFull_0 : decode cX8_isFull 0 = .ok (.aload_n 0, 1) := by decide +kernel
theorem dX8_isFull_1 : decode cX8_isFull 1 = .ok (.getfield 18, 3) := by decide +kernel
theorem dX8_isFull_4 : decode cX8_isFull 4 = .ok (.bipush 8, 2) := by decide +kernel
theorem dX8_isFull_6 : decode cX8_isFull 6 = .ok (.if_icmp .lt 7, 3) := by decide +kernel
theorem dX8_isFull_9 : decode cX8_isFull 9 = .ok (.iconst 1, 1) := by decide +kernel
theorem dX8_isFull_10 : decode cX8_isFull 10 = .ok (.goto 4, 3) := by decide +kernel
theorem dX8_isFull_13 : decode cX8_isFull 13 = .ok (.iconst 0, 1) := by decide +kernel
theorem dX8_isFull_14 : decode cX8_isFull 14 = .ok (.ireturn, 1) := by decide +kernel
theorem dX8_has_0 : decode cX8_has 0 = .ok (.iload_n 1, 1) := by decide +kernel
theorem dX8_has_1 : decode cX8_has 1 = .ok (.iconst 0, 1) := by decide +kernel
theorem dX8_has_2 : decode cX8_has 2 = .ok (.aload_n 0, 1) := by decide +kernel
theorem dX8_has_3 : decode cX8_has 3 = .ok (.getfield 18, 3) := by decide +kernel
theorem dX8_has_6 : decode cX8_has 6 = .ok (.iconst 1, 1) := by decide +kernel
theorem dX8_has_7 : decode cX8_has 7 = .ok (.isub, 1) := by decide +kernel
theorem dX8_has_8 : decode cX8_has 8 = .ok (.invokestatic 22, 3) := by decide +kernel
theorem dX8_has_11 : decode cX8_has 11 = .ok (.ireturn, 1) := by decide +kernel
theorem dX8_get_0 : decode cX8_get 0 = .ok (.aload_n 0, 1) := by decide +kernel
theorem dX8_get_1 : decode cX8_get 1 = .ok (.getfield 11, 3) := by decide +kernel
theorem dX8_get_4 : decode cX8_get 4 = .ok (.aload_n 0, 1) := by decide +kernel
theorem dX8_get_5 : decode cX8_get 5 = .ok (.iload_n 1, 1) := by decide +kernel
theorem dX8_get_6 : decode cX8_get 6 = .ok (.invokevirtual 26, 3) := by decide +kernel
theorem dX8_get_9 : decode cX8_get 9 = .ok (.ifCond .eq 7, 3) := by decide +kernel
theorem dX8_get_12 : decode cX8_get 12 = .ok (.iload_n 1, 1) := by decide +kernel
theorem dX8_get_13 : decode cX8_get 13 = .ok (.goto 4, 3) := by decide +kernel
theorem dX8_get_16 : decode cX8_get 16 = .ok (.iconst 0, 1) := by decide +kernel
theorem dX8_get_17 : decode cX8_get 17 = .ok (.aaload, 1) := by decide +kernel
theorem dX8_get_18 : decode cX8_get 18 = .ok (.areturn, 1) := by decide +kernel
theorem dX8_add_0 : decode cX8_add 0 = .ok (.aload_n 0, 1) := by decide +kernel
theorem dX8_add_1 : decode cX8_add 1 = .ok (.invokevirtual 30, 3) := by decide +kernel
theorem dX8_add_4 : decode cX8_add 4 = .ok (.ifCond .ne 30, 3) := by decide +kernel
theorem dX8_add_7 : decode cX8_add 7 = .ok (.aload_n 0, 1) := by decide +kernel
theorem dX8_add_8 : decode cX8_add 8 = .ok (.getfield 11, 3) := by decide +kernel
theorem dX8_add_11 : decode cX8_add 11 = .ok (.aload_n 0, 1) := by decide +kernel
theorem dX8_add_12 : decode cX8_add 12 = .ok (.getfield 18, 3) := by decide +kernel
theorem dX8_add_15 : decode cX8_add 15 = .ok (.aaload, 1) := by decide +kernel
theorem dX8_add_16 : decode cX8_add 16 = .ok (.aload_n 1, 1) := by decide +kernel
theorem dX8_add_17 : decode cX8_add 17 = .ok (.iload_n 2, 1) := by decide +kernel
theorem dX8_add_18 : decode cX8_add 18 = .ok (.iload_n 3, 1) := by decide +kernel
theorem dX8_add_19 : decode cX8_add 19 = .ok (.iload 4, 2) := by decide +kernel
theorem dX8_add_21 : decode cX8_add 21 = .ok (.invokevirtual 34, 3) := by decide +kernel
theorem dX8_add_24 : decode cX8_add 24 = .ok (.aload_n 0, 1) := by decide +kernel
theorem dX8_add_25 : decode cX8_add 25 = .ok (.dup, 1) := by decide +kernel
theorem dX8_add_26 : decode cX8_add 26 = .ok (.getfield 18, 3) := by decide +kernel
theorem dX8_add_29 : decode cX8_add 29 = .ok (.iconst 1, 1) := by decide +kernel
theorem dX8_add_30 : decode cX8_add 30 = .ok (.iadd, 1) := by decide +kernel
theorem dX8_add_31 : decode cX8_add 31 = .ok (.putfield 18, 3) := by decide +kernel
theorem dX8_add_34 : decode cX8_add 34 = .ok (.return_, 1) := by decide +kernel
theorem dX8_removeLatest_0 : decode cX8_removeLatest 0 = .ok (.aload_n 0, 1) := by decide +kernel
theorem dX8_removeLatest_1 : decode cX8_removeLatest 1 = .ok (.getfield 18, 3) := by decide +kernel
theorem dX8_removeLatest_4 : decode cX8_removeLatest 4 = .ok (.ifCond .ne 5, 3) := by decide +kernel
theorem dX8_removeLatest_7 : decode cX8_removeLatest 7 = .ok (.iconst 0, 1) := by decide +kernel
theorem dX8_removeLatest_8 : decode cX8_removeLatest 8 = .ok (.ireturn, 1) := by decide +kernel
theorem dX8_removeLatest_9 : decode cX8_removeLatest 9 = .ok (.aload_n 0, 1) := by decide +kernel
theorem dX8_removeLatest_10 : decode cX8_removeLatest 10 = .ok (.dup, 1) := by decide +kernel
theorem dX8_removeLatest_11 : decode cX8_removeLatest 11 = .ok (.getfield 18, 3) := by decide +kernel
theorem dX8_removeLatest_14 : decode cX8_removeLatest 14 = .ok (.iconst 1, 1) := by decide +kernel
theorem dX8_removeLatest_15 : decode cX8_removeLatest 15 = .ok (.isub, 1) := by decide +kernel
theorem dX8_removeLatest_16 : decode cX8_removeLatest 16 = .ok (.putfield 18, 3) := by decide +kernel
theorem dX8_removeLatest_19 : decode cX8_removeLatest 19 = .ok (.iconst 1, 1) := by decide +kernel
theorem dX8_removeLatest_20 : decode cX8_removeLatest 20 = .ok (.ireturn, 1) := by decide +kernel
theorem dX9_init_0 : decode cX9_init 0 = .ok (.aload_n 0, 1) := by decide +kernel
theorem dX9_init_1 : decode cX9_init 1 = .ok (.invokespecial 3, 3) := by decide +kernel
theorem dX9_init_4 : decode cX9_init 4 = .ok (.aload_n 0, 1) := by decide +kernel
theorem dX9_init_5 : decode cX9_init 5 = .ok (.sipush 200, 3) := by decide +kernel
theorem dX9_init_8 : decode cX9_init 8 = .ok (.newarray .byte, 2) := by decide +kernel
theorem dX9_init_10 : decode cX9_init 10 = .ok (.putfield 9, 3) := by decide +kernel
theorem dX9_init_13 : decode cX9_init 13 = .ok (.aload_n 0, 1) := by decide +kernel
theorem dX9_init_14 : decode cX9_init 14 = .ok (.sipush 201, 3) := by decide +kernel
theorem dX9_init_17 : decode cX9_init 17 = .ok (.newarray .int, 2) := by decide +kernel
theorem dX9_init_19 : decode cX9_init 19 = .ok (.putfield 15, 3) := by decide +kernel
theorem dX9_init_22 : decode cX9_init 22 = .ok (.aload_n 0, 1) := by decide +kernel
theorem dX9_init_23 : decode cX9_init 23 = .ok (.sipush 201, 3) := by decide +kernel
theorem dX9_init_26 : decode cX9_init 26 = .ok (.newarray .int, 2) := by decide +kernel
theorem dX9_init_28 : decode cX9_init 28 = .ok (.putfield 19, 3) := by decide +kernel
theorem dX9_init_31 : decode cX9_init 31 = .ok (.aload_n 0, 1) := by decide +kernel
theorem dX9_init_32 : decode cX9_init 32 = .ok (.sipush 201, 3) := by decide +kernel
theorem dX9_init_35 : decode cX9_init 35 = .ok (.newarray .int, 2) := by decide +kernel
theorem dX9_init_37 : decode cX9_init 37 = .ok (.putfield 22, 3) := by decide +kernel
theorem dX9_init_40 : decode cX9_init 40 = .ok (.return_, 1) := by decide +kernel
theorem dX9_append_0 : decode cX9_append 0 = .ok (.aload_n 0, 1) := by decide +kernel
theorem dX9_append_1 : decode cX9_append 1 = .ok (.getfield 25, 3) := by decide +kernel
theorem dX9_append_4 : decode cX9_append 4 = .ok (.sipush 192, 3) := by decide +kernel
theorem dX9_append_7 : decode cX9_append 7 = .ok (.if_icmp .le 5, 3) := by decide +kernel
theorem dX9_append_10 : decode cX9_append 10 = .ok (.iconst 0, 1) := by decide +kernel
theorem dX9_append_11 : decode cX9_append 11 = .ok (.ireturn, 1) := by decide +kernel
theorem dX9_append_12 : decode cX9_append 12 = .ok (.bipush 56, 2) := by decide +kernel
theorem dX9_append_14 : decode cX9_append 14 = .ok (.istore_n 3, 1) := by decide +kernel
theorem dX9_append_15 : decode cX9_append 15 = .ok (.iload_n 3, 1) := by decide +kernel
theorem dX9_append_16 : decode cX9_append 16 = .ok (.ifCond .lt 33, 3) := by decide +kernel
theorem dX9_append_19 : decode cX9_append 19 = .ok (.aload_n 0, 1) := by decide +kernel
theorem dX9_append_20 : decode cX9_append 20 = .ok (.getfield 9, 3) := by decide +kernel
theorem dX9_append_23 : decode cX9_append 23 = .ok (.aload_n 0, 1) := by decide +kernel
theorem dX9_append_24 : decode cX9_append 24 = .ok (.getfield 25, 3) := by decide +kernel
theorem dX9_append_27 : decode cX9_append 27 = .ok (.lload_n 1, 1) := by decide +kernel
theorem dX9_append_28 : decode cX9_append 28 = .ok (.iload_n 3, 1) := by decide +kernel
theorem dX9_append_29 : decode cX9_append 29 = .ok (.lshr, 1) := by decide +kernel
theorem dX9_append_30 : decode cX9_append 30 = .ok (.l2i, 1) := by decide +kernel
theorem dX9_append_31 : decode cX9_append 31 = .ok (.i2b, 1) := by decide +kernel
theorem dX9_append_32 : decode cX9_append 32 = .ok (.bastore, 1) := by decide +kernel
theorem dX9_append_33 : decode cX9_append 33 = .ok (.aload_n 0, 1) := by decide +kernel
theorem dX9_append_34 : decode cX9_append 34 = .ok (.dup, 1) := by decide +kernel
theorem dX9_append_35 : decode cX9_append 35 = .ok (.getfield 25, 3) := by decide +kernel
theorem dX9_append_38 : decode cX9_append 38 = .ok (.iconst 1, 1) := by decide +kernel
theorem dX9_append_39 : decode cX9_append 39 = .ok (.iadd, 1) := by decide +kernel
theorem dX9_append_40 : decode cX9_append 40 = .ok (.putfield 25, 3) := by decide +kernel
theorem dX9_append_43 : decode cX9_append 43 = .ok (.iinc 3 (-8), 3) := by decide +kernel
theorem dX9_append_46 : decode cX9_append 46 = .ok (.goto (-31), 3) := by decide +kernel
theorem dX9_append_49 : decode cX9_append 49 = .ok (.iconst 1, 1) := by decide +kernel
theorem dX9_append_50 : decode cX9_append 50 = .ok (.ireturn, 1) := by decide +kernel
theorem dX9_cutTo_0 : decode cX9_cutTo 0 = .ok (.iload_n 1, 1) := by decide +kernel
theorem dX9_cutTo_1 : decode cX9_cutTo 1 = .ok (.iconst 0, 1) := by decide +kernel
theorem dX9_cutTo_2 : decode cX9_cutTo 2 = .ok (.aload_n 0, 1) := by decide +kernel
theorem dX9_cutTo_3 : decode cX9_cutTo 3 = .ok (.getfield 25, 3) := by decide +kernel
theorem dX9_cutTo_6 : decode cX9_cutTo 6 = .ok (.invokestatic 29, 3) := by decide +kernel
theorem dX9_cutTo_9 : decode cX9_cutTo 9 = .ok (.ifCond .ne 5, 3) := by decide +kernel
theorem dX9_cutTo_12 : decode cX9_cutTo 12 = .ok (.iconst 0, 1) := by decide +kernel
theorem dX9_cutTo_13 : decode cX9_cutTo 13 = .ok (.ireturn, 1) := by decide +kernel
theorem dX9_cutTo_14 : decode cX9_cutTo 14 = .ok (.aload_n 0, 1) := by decide +kernel
theorem dX9_cutTo_15 : decode cX9_cutTo 15 = .ok (.iload_n 1, 1) := by decide +kernel
theorem dX9_cutTo_16 : decode cX9_cutTo 16 = .ok (.putfield 25, 3) := by decide +kernel
theorem dX9_cutTo_19 : decode cX9_cutTo 19 = .ok (.iconst 1, 1) := by decide +kernel
theorem dX9_cutTo_20 : decode cX9_cutTo 20 = .ok (.ireturn, 1) := by decide +kernel
theorem dX9_split_0 : decode cX9_split 0 = .ok (.aload_n 0, 1) := by decide +kernel
theorem dX9_split_1 : decode cX9_split 1 = .ok (.iconst 0, 1) := by decide +kernel
theorem dX9_split_2 : decode cX9_split 2 = .ok (.putfield 33, 3) := by decide +kernel
theorem dX9_split_5 : decode cX9_split 5 = .ok (.iconst 0, 1) := by decide +kernel
theorem dX9_split_6 : decode cX9_split 6 = .ok (.istore_n 1, 1) := by decide +kernel
theorem dX9_split_7 : decode cX9_split 7 = .ok (.iload_n 1, 1) := by decide +kernel
theorem dX9_split_8 : decode cX9_split 8 = .ok (.aload_n 0, 1) := by decide +kernel
theorem dX9_split_9 : decode cX9_split 9 = .ok (.getfield 25, 3) := by decide +kernel
theorem dX9_split_12 : decode cX9_split 12 = .ok (.if_icmp .ge 35, 3) := by decide +kernel
theorem dX9_split_15 : decode cX9_split 15 = .ok (.aload_n 0, 1) := by decide +kernel
theorem dX9_split_16 : decode cX9_split 16 = .ok (.getfield 9, 3) := by decide +kernel
theorem dX9_split_19 : decode cX9_split 19 = .ok (.iload_n 1, 1) := by decide +kernel
theorem dX9_split_20 : decode cX9_split 20 = .ok (.baload, 1) := by decide +kernel
theorem dX9_split_21 : decode cX9_split 21 = .ok (.bipush 32, 2) := by decide +kernel
theorem dX9_split_23 : decode cX9_split 23 = .ok (.if_icmp .ne 7, 3) := by decide +kernel
theorem dX9_split_26 : decode cX9_split 26 = .ok (.iload_n 1, 1) := by decide +kernel
theorem dX9_split_27 : decode cX9_split 27 = .ok (.goto 8, 3) := by decide +kernel
theorem dX9_split_30 : decode cX9_split 30 = .ok (.aload_n 0, 1) := by decide +kernel
theorem dX9_split_31 : decode cX9_split 31 = .ok (.iload_n 1, 1) := by decide +kernel
theorem dX9_split_32 : decode cX9_split 32 = .ok (.invokevirtual 36, 3) := by decide +kernel
theorem dX9_split_35 : decode cX9_split 35 = .ok (.istore_n 2, 1) := by decide +kernel
theorem dX9_split_36 : decode cX9_split 36 = .ok (.iload_n 2, 1) := by decide +kernel
theorem dX9_split_37 : decode cX9_split 37 = .ok (.iload_n 1, 1) := by decide +kernel
theorem dX9_split_38 : decode cX9_split 38 = .ok (.iconst 1, 1) := by decide +kernel
theorem dX9_split_39 : decode cX9_split 39 = .ok (.iadd, 1) := by decide +kernel
theorem dX9_split_40 : decode cX9_split 40 = .ok (.invokestatic 40, 3) := by decide +kernel
theorem dX9_split_43 : decode cX9_split 43 = .ok (.istore_n 1, 1) := by decide +kernel
theorem dX9_split_44 : decode cX9_split 44 = .ok (.goto (-37), 3) := by decide +kernel
theorem dX9_split_47 : decode cX9_split 47 = .ok (.aload_n 0, 1) := by decide +kernel
theorem dX9_split_48 : decode cX9_split 48 = .ok (.iconst 0, 1) := by decide +kernel
theorem dX9_split_49 : decode cX9_split 49 = .ok (.aload_n 0, 1) := by decide +kernel
theorem dX9_split_50 : decode cX9_split 50 = .ok (.getfield 25, 3) := by decide +kernel
theorem dX9_split_53 : decode cX9_split 53 = .ok (.iconst 0, 1) := by decide +kernel
theorem dX9_split_54 : decode cX9_split 54 = .ok (.invokevirtual 46, 3) := by decide +kernel
theorem dX9_split_57 : decode cX9_split 57 = .ok (.return_, 1) := by decide +kernel
theorem dX9_put_0 : decode cX9_put 0 = .ok (.aload_n 0, 1) := by decide +kernel
theorem dX9_put_1 : decode cX9_put 1 = .ok (.getfield 33, 3) := by decide +kernel
theorem dX9_put_4 : decode cX9_put 4 = .ok (.aload_n 0, 1) := by decide +kernel
theorem dX9_put_5 : decode cX9_put 5 = .ok (.getfield 15, 3) := by decide +kernel
theorem dX9_put_8 : decode cX9_put 8 = .ok (.arraylength, 1) := by decide +kernel
theorem dX9_put_9 : decode cX9_put 9 = .ok (.if_icmp .ge 43, 3) := by decide +kernel
theorem dX9_put_12 : decode cX9_put 12 = .ok (.aload_n 0, 1) := by decide +kernel
theorem dX9_put_13 : decode cX9_put 13 = .ok (.getfield 15, 3) := by decide +kernel
theorem dX9_put_16 : decode cX9_put 16 = .ok (.aload_n 0, 1) := by decide +kernel
theorem dX9_put_17 : decode cX9_put 17 = .ok (.getfield 33, 3) := by decide +kernel
theorem dX9_put_20 : decode cX9_put 20 = .ok (.iload_n 1, 1) := by decide +kernel
theorem dX9_put_21 : decode cX9_put 21 = .ok (.iastore, 1) := by decide +kernel
theorem dX9_put_22 : decode cX9_put 22 = .ok (.aload_n 0, 1) := by decide +kernel
theorem dX9_put_23 : decode cX9_put 23 = .ok (.getfield 19, 3) := by decide +kernel
theorem dX9_put_26 : decode cX9_put 26 = .ok (.aload_n 0, 1) := by decide +kernel
theorem dX9_put_27 : decode cX9_put 27 = .ok (.getfield 33, 3) := by decide +kernel
theorem dX9_put_30 : decode cX9_put 30 = .ok (.iload_n 2, 1) := by decide +kernel
theorem dX9_put_31 : decode cX9_put 31 = .ok (.iastore, 1) := by decide +kernel
theorem dX9_put_32 : decode cX9_put 32 = .ok (.aload_n 0, 1) := by decide +kernel
theorem dX9_put_33 : decode cX9_put 33 = .ok (.getfield 22, 3) := by decide +kernel
theorem dX9_put_36 : decode cX9_put 36 = .ok (.aload_n 0, 1) := by decide +kernel
theorem dX9_put_37 : decode cX9_put 37 = .ok (.getfield 33, 3) := by decide +kernel
theorem dX9_put_40 : decode cX9_put 40 = .ok (.iload_n 3, 1) := by decide +kernel
theorem dX9_put_41 : decode cX9_put 41 = .ok (.iastore, 1) := by decide +kernel
theorem dX9_put_42 : decode cX9_put 42 = .ok (.aload_n 0, 1) := by decide +kernel
theorem dX9_put_43 : decode cX9_put 43 = .ok (.dup, 1) := by decide +kernel
theorem dX9_put_44 : decode cX9_put 44 = .ok (.getfield 33, 3) := by decide +kernel
theorem dX9_put_47 : decode cX9_put 47 = .ok (.iconst 1, 1) := by decide +kernel
theorem dX9_put_48 : decode cX9_put 48 = .ok (.iadd, 1) := by decide +kernel
theorem dX9_put_49 : decode cX9_put 49 = .ok (.putfield 33, 3) := by decide +kernel
theorem dX9_put_52 : decode cX9_put 52 = .ok (.return_, 1) := by decide +kernel
theorem dX9_addToken_0 : decode cX9_addToken 0 = .ok (.aload_n 0, 1) := by decide +kernel
theorem dX9_addToken_1 : decode cX9_addToken 1 = .ok (.getfield 9, 3) := by decide +kernel
theorem dX9_addToken_4 : decode cX9_addToken 4 = .ok (.iload_n 1, 1) := by decide +kernel
theorem dX9_addToken_5 : decode cX9_addToken 5 = .ok (.baload, 1) := by decide +kernel
theorem dX9_addToken_6 : decode cX9_addToken 6 = .ok (.istore_n 2, 1) := by decide +kernel
theorem dX9_addToken_7 : decode cX9_addToken 7 = .ok (.iload_n 2, 1) := by decide +kernel
theorem dX9_addToken_8 : decode cX9_addToken 8 = .ok (.bipush 42, 2) := by decide +kernel
theorem dX9_addToken_10 : decode cX9_addToken 10 = .ok (.if_icmp .eq 9, 3) := by decide +kernel
theorem dX9_addToken_13 : decode cX9_addToken 13 = .ok (.iload_n 2, 1) := by decide +kernel
theorem dX9_addToken_14 : decode cX9_addToken 14 = .ok (.bipush 59, 2) := by decide +kernel
theorem dX9_addToken_16 : decode cX9_addToken 16 = .ok (.if_icmp .ne 24, 3) := by decide +kernel
theorem dX9_addToken_19 : decode cX9_addToken 19 = .ok (.aload_n 0, 1) := by decide +kernel
theorem dX9_addToken_20 : decode cX9_addToken 20 = .ok (.iload_n 2, 1) := by decide +kernel
theorem dX9_addToken_21 : decode cX9_addToken 21 = .ok (.bipush 42, 2) := by decide +kernel
theorem dX9_addToken_23 : decode cX9_addToken 23 = .ok (.if_icmp .ne 7, 3) := by decide +kernel
theorem dX9_addToken_26 : decode cX9_addToken 26 = .ok (.iconst 3, 1) := by decide +kernel
theorem dX9_addToken_27 : decode cX9_addToken 27 = .ok (.goto 4, 3) := by decide +kernel
theorem dX9_addToken_30 : decode cX9_addToken 30 = .ok (.iconst 4, 1) := by decide +kernel
theorem dX9_addToken_31 : decode cX9_addToken 31 = .ok (.iload_n 1, 1) := by decide +kernel
theorem dX9_addToken_32 : decode cX9_addToken 32 = .ok (.iconst 0, 1) := by decide +kernel
theorem dX9_addToken_33 : decode cX9_addToken 33 = .ok (.invokevirtual 46, 3) := by decide +kernel
theorem dX9_addToken_36 : decode cX9_addToken 36 = .ok (.iload_n 1, 1) := by decide +kernel
theorem dX9_addToken_37 : decode cX9_addToken 37 = .ok (.iconst 1, 1) := by decide +kernel
theorem dX9_addToken_38 : decode cX9_addToken 38 = .ok (.iadd, 1) := by decide +kernel
theorem dX9_addToken_39 : decode cX9_addToken 39 = .ok (.ireturn, 1) := by decide +kernel
theorem dX9_addToken_40 : decode cX9_addToken 40 = .ok (.iload_n 2, 1) := by decide +kernel
theorem dX9_addToken_41 : decode cX9_addToken 41 = .ok (.bipush 97, 2) := by decide +kernel
theorem dX9_addToken_43 : decode cX9_addToken 43 = .ok (.bipush 122, 2) := by decide +kernel
theorem dX9_addToken_45 : decode cX9_addToken 45 = .ok (.invokestatic 29, 3) := by decide +kernel
theorem dX9_addToken_48 : decode cX9_addToken 48 = .ok (.ifCond .eq 11, 3) := by decide +kernel
theorem dX9_addToken_51 : decode cX9_addToken 51 = .ok (.aload_n 0, 1) := by decide +kernel
theorem dX9_addToken_52 : decode cX9_addToken 52 = .ok (.iload_n 1, 1) := by decide +kernel
theorem dX9_addToken_53 : decode cX9_addToken 53 = .ok (.invokevirtual 50, 3) := by decide +kernel
theorem dX9_addToken_56 : decode cX9_addToken 56 = .ok (.goto 8, 3) := by decide +kernel
theorem dX9_addToken_59 : decode cX9_addToken 59 = .ok (.aload_n 0, 1) := by decide +kernel
theorem dX9_addToken_60 : decode cX9_addToken 60 = .ok (.iload_n 1, 1) := by decide +kernel
theorem dX9_addToken_61 : decode cX9_addToken 61 = .ok (.invokevirtual 53, 3) := by decide +kernel
theorem dX9_addToken_64 : decode cX9_addToken 64 = .ok (.ireturn, 1) := by decide +kernel
theorem dX9_addWord_0 : decode cX9_addWord 0 = .ok (.iload_n 1, 1) := by decide +kernel
theorem dX9_addWord_1 : decode cX9_addWord 1 = .ok (.istore_n 2, 1) := by decide +kernel
theorem dX9_addWord_2 : decode cX9_addWord 2 = .ok (.iload_n 2, 1) := by decide +kernel
theorem dX9_addWord_3 : decode cX9_addWord 3 = .ok (.aload_n 0, 1) := by decide +kernel
theorem dX9_addWord_4 : decode cX9_addWord 4 = .ok (.getfield 25, 3) := by decide +kernel
theorem dX9_addWord_7 : decode cX9_addWord 7 = .ok (.if_icmp .ge 25, 3) := by decide +kernel
theorem dX9_addWord_10 : decode cX9_addWord 10 = .ok (.aload_n 0, 1) := by decide +kernel
theorem dX9_addWord_11 : decode cX9_addWord 11 = .ok (.getfield 9, 3) := by decide +kernel
theorem dX9_addWord_14 : decode cX9_addWord 14 = .ok (.iload_n 2, 1) := by decide +kernel
theorem dX9_addWord_15 : decode cX9_addWord 15 = .ok (.baload, 1) := by decide +kernel
theorem dX9_addWord_16 : decode cX9_addWord 16 = .ok (.bipush 97, 2) := by decide +kernel
theorem dX9_addWord_18 : decode cX9_addWord 18 = .ok (.bipush 122, 2) := by decide +kernel
theorem dX9_addWord_20 : decode cX9_addWord 20 = .ok (.invokestatic 29, 3) := by decide +kernel
theorem dX9_addWord_23 : decode cX9_addWord 23 = .ok (.ifCond .eq 9, 3) := by decide +kernel
theorem dX9_addWord_26 : decode cX9_addWord 26 = .ok (.iinc 2 1, 3) := by decide +kernel
theorem dX9_addWord_29 : decode cX9_addWord 29 = .ok (.goto (-27), 3) := by decide +kernel
theorem dX9_addWord_32 : decode cX9_addWord 32 = .ok (.aload_n 0, 1) := by decide +kernel
theorem dX9_addWord_33 : decode cX9_addWord 33 = .ok (.iload_n 1, 1) := by decide +kernel
theorem dX9_addWord_34 : decode cX9_addWord 34 = .ok (.iload_n 2, 1) := by decide +kernel
theorem dX9_addWord_35 : decode cX9_addWord 35 = .ok (.invokevirtual 56, 3) := by decide +kernel
theorem dX9_addWord_38 : decode cX9_addWord 38 = .ok (.istore_n 3, 1) := by decide +kernel
theorem dX9_addWord_39 : decode cX9_addWord 39 = .ok (.aload_n 0, 1) := by decide +kernel
theorem dX9_addWord_40 : decode cX9_addWord 40 = .ok (.iload_n 3, 1) := by decide +kernel
theorem dX9_addWord_41 : decode cX9_addWord 41 = .ok (.bipush 9, 2) := by decide +kernel
theorem dX9_addWord_43 : decode cX9_addWord 43 = .ok (.if_icmp .ne 7, 3) := by decide +kernel
theorem dX9_addWord_46 : decode cX9_addWord 46 = .ok (.iconst 5, 1) := by decide +kernel
theorem dX9_addWord_47 : decode cX9_addWord 47 = .ok (.goto 4, 3) := by decide +kernel
theorem dX9_addWord_50 : decode cX9_addWord 50 = .ok (.iconst 1, 1) := by decide +kernel
theorem dX9_addWord_51 : decode cX9_addWord 51 = .ok (.iload_n 1, 1) := by decide +kernel
theorem dX9_addWord_52 : decode cX9_addWord 52 = .ok (.iload_n 3, 1) := by decide +kernel
theorem dX9_addWord_53 : decode cX9_addWord 53 = .ok (.invokevirtual 46, 3) := by decide +kernel
theorem dX9_addWord_56 : decode cX9_addWord 56 = .ok (.iload_n 2, 1) := by decide +kernel
theorem dX9_addWord_57 : decode cX9_addWord 57 = .ok (.ireturn, 1) := by decide +kernel
theorem dX9_addNumber_0 : decode cX9_addNumber 0 = .ok (.aload_n 0, 1) := by decide +kernel
theorem dX9_addNumber_1 : decode cX9_addNumber 1 = .ok (.getfield 9, 3) := by decide +kernel
theorem dX9_addNumber_4 : decode cX9_addNumber 4 = .ok (.iload_n 1, 1) := by decide +kernel
theorem dX9_addNumber_5 : decode cX9_addNumber 5 = .ok (.baload, 1) := by decide +kernel
theorem dX9_addNumber_6 : decode cX9_addNumber 6 = .ok (.bipush 45, 2) := by decide +kernel
theorem dX9_addNumber_8 : decode cX9_addNumber 8 = .ok (.if_icmp .ne 7, 3) := by decide +kernel
theorem dX9_addNumber_11 : decode cX9_addNumber 11 = .ok (.iconst 1, 1) := by decide +kernel
theorem dX9_addNumber_12 : decode cX9_addNumber 12 = .ok (.goto 4, 3) := by decide +kernel
theorem dX9_addNumber_15 : decode cX9_addNumber 15 = .ok (.iconst 0, 1) := by decide +kernel
theorem dX9_addNumber_16 : decode cX9_addNumber 16 = .ok (.istore_n 2, 1) := by decide +kernel
theorem dX9_addNumber_17 : decode cX9_addNumber 17 = .ok (.iload_n 2, 1) := by decide +kernel
theorem dX9_addNumber_18 : decode cX9_addNumber 18 = .ok (.ifCond .eq 9, 3) := by decide +kernel
theorem dX9_addNumber_21 : decode cX9_addNumber 21 = .ok (.iload_n 1, 1) := by decide +kernel
theorem dX9_addNumber_22 : decode cX9_addNumber 22 = .ok (.iconst 1, 1) := by decide +kernel
theorem dX9_addNumber_23 : decode cX9_addNumber 23 = .ok (.iadd, 1) := by decide +kernel
theorem dX9_addNumber_24 : decode cX9_addNumber 24 = .ok (.goto 4, 3) := by decide +kernel
theorem dX9_addNumber_27 : decode cX9_addNumber 27 = .ok (.iload_n 1, 1) := by decide +kernel
theorem dX9_addNumber_28 : decode cX9_addNumber 28 = .ok (.istore_n 3, 1) := by decide +kernel
theorem dX9_addNumber_29 : decode cX9_addNumber 29 = .ok (.iload_n 3, 1) := by decide +kernel
theorem dX9_addNumber_30 : decode cX9_addNumber 30 = .ok (.istore 4, 2) := by decide +kernel
theorem dX9_addNumber_32 : decode cX9_addNumber 32 = .ok (.iconst 0, 1) := by decide +kernel
theorem dX9_addNumber_33 : decode cX9_addNumber 33 = .ok (.istore 5, 2) := by decide +kernel
theorem dX9_addNumber_35 : decode cX9_addNumber 35 = .ok (.iload 4, 2) := by decide +kernel
theorem dX9_addNumber_37 : decode cX9_addNumber 37 = .ok (.aload_n 0, 1) := by decide +kernel
theorem dX9_addNumber_38 : decode cX9_addNumber 38 = .ok (.getfield 25, 3) := by decide +kernel
theorem dX9_addNumber_41 : decode cX9_addNumber 41 = .ok (.if_icmp .ge 44, 3) := by decide +kernel
theorem dX9_addNumber_44 : decode cX9_addNumber 44 = .ok (.aload_n 0, 1) := by decide +kernel
theorem dX9_addNumber_45 : decode cX9_addNumber 45 = .ok (.getfield 9, 3) := by decide +kernel
theorem dX9_addNumber_48 : decode cX9_addNumber 48 = .ok (.iload 4, 2) := by decide +kernel
theorem dX9_addNumber_50 : decode cX9_addNumber 50 = .ok (.baload, 1) := by decide +kernel
theorem dX9_addNumber_51 : decode cX9_addNumber 51 = .ok (.bipush 48, 2) := by decide +kernel
theorem dX9_addNumber_53 : decode cX9_addNumber 53 = .ok (.bipush 57, 2) := by decide +kernel
theorem dX9_addNumber_55 : decode cX9_addNumber 55 = .ok (.invokestatic 29, 3) := by decide +kernel
theorem dX9_addNumber_58 : decode cX9_addNumber 58 = .ok (.ifCond .eq 27, 3) := by decide +kernel
theorem dX9_addNumber_61 : decode cX9_addNumber 61 = .ok (.bipush 10, 2) := by decide +kernel
theorem dX9_addNumber_63 : decode cX9_addNumber 63 = .ok (.iload 5, 2) := by decide +kernel
theorem dX9_addNumber_65 : decode cX9_addNumber 65 = .ok (.imul, 1) := by decide +kernel
theorem dX9_addNumber_66 : decode cX9_addNumber 66 = .ok (.aload_n 0, 1) := by decide +kernel
theorem dX9_addNumber_67 : decode cX9_addNumber 67 = .ok (.getfield 9, 3) := by decide +kernel
theorem dX9_addNumber_70 : decode cX9_addNumber 70 = .ok (.iload 4, 2) := by decide +kernel
theorem dX9_addNumber_72 : decode cX9_addNumber 72 = .ok (.baload, 1) := by decide +kernel
theorem dX9_addNumber_73 : decode cX9_addNumber 73 = .ok (.iadd, 1) := by decide +kernel
theorem dX9_addNumber_74 : decode cX9_addNumber 74 = .ok (.bipush 48, 2) := by decide +kernel
theorem dX9_addNumber_76 : decode cX9_addNumber 76 = .ok (.isub, 1) := by decide +kernel
theorem dX9_addNumber_77 : decode cX9_addNumber 77 = .ok (.istore 5, 2) := by decide +kernel
theorem dX9_addNumber_79 : decode cX9_addNumber 79 = .ok (.iinc 4 1, 3) := by decide +kernel
theorem dX9_addNumber_82 : decode cX9_addNumber 82 = .ok (.goto (-47), 3) := by decide +kernel
theorem dX9_addNumber_85 : decode cX9_addNumber 85 = .ok (.iload 4, 2) := by decide +kernel
theorem dX9_addNumber_87 : decode cX9_addNumber 87 = .ok (.iload_n 3, 1) := by decide +kernel
theorem dX9_addNumber_88 : decode cX9_addNumber 88 = .ok (.isub, 1) := by decide +kernel
theorem dX9_addNumber_89 : decode cX9_addNumber 89 = .ok (.iconst 1, 1) := by decide +kernel
theorem dX9_addNumber_90 : decode cX9_addNumber 90 = .ok (.iconst 3, 1) := by decide +kernel
theorem dX9_addNumber_91 : decode cX9_addNumber 91 = .ok (.invokestatic 29, 3) := by decide +kernel
theorem dX9_addNumber_94 : decode cX9_addNumber 94 = .ok (.istore 6, 2) := by decide +kernel
theorem dX9_addNumber_96 : decode cX9_addNumber 96 = .ok (.aload_n 0, 1) := by decide +kernel
theorem dX9_addNumber_97 : decode cX9_addNumber 97 = .ok (.iload 6, 2) := by decide +kernel
theorem dX9_addNumber_99 : decode cX9_addNumber 99 = .ok (.ifCond .eq 7, 3) := by decide +kernel
theorem dX9_addNumber_102 : decode cX9_addNumber 102 = .ok (.iconst 2, 1) := by decide +kernel
theorem dX9_addNumber_103 : decode cX9_addNumber 103 = .ok (.goto 4, 3) := by decide +kernel
theorem dX9_addNumber_106 : decode cX9_addNumber 106 = .ok (.iconst 5, 1) := by decide +kernel
theorem dX9_addNumber_107 : decode cX9_addNumber 107 = .ok (.iload_n 1, 1) := by decide +kernel
theorem dX9_addNumber_108 : decode cX9_addNumber 108 = .ok (.iload_n 2, 1) := by decide +kernel
theorem dX9_addNumber_109 : decode cX9_addNumber 109 = .ok (.ifCond .eq 9, 3) := by decide +kernel
theorem dX9_addNumber_112 : decode cX9_addNumber 112 = .ok (.iload 5, 2) := by decide +kernel
theorem dX9_addNumber_114 : decode cX9_addNumber 114 = .ok (.ineg, 1) := by decide +kernel
theorem dX9_addNumber_115 : decode cX9_addNumber 115 = .ok (.goto 5, 3) := by decide +kernel
theorem dX9_addNumber_118 : decode cX9_addNumber 118 = .ok (.iload 5, 2) := by decide +kernel
theorem dX9_addNumber_120 : decode cX9_addNumber 120 = .ok (.invokevirtual 46, 3) := by decide +kernel
theorem dX9_addNumber_123 : decode cX9_addNumber 123 = .ok (.iload 4, 2) := by decide +kernel
theorem dX9_addNumber_125 : decode cX9_addNumber 125 = .ok (.ireturn, 1) := by decide +kernel
theorem dX9_wordOf_0 : decode cX9_wordOf 0 = .ok (.aload_n 0, 1) := by decide +kernel
theorem dX9_wordOf_1 : decode cX9_wordOf 1 = .ok (.iload_n 1, 1) := by decide +kernel
theorem dX9_wordOf_2 : decode cX9_wordOf 2 = .ok (.iload_n 2, 1) := by decide +kernel
theorem dX9_wordOf_3 : decode cX9_wordOf 3 = .ok (.ldc 59, 2) := by decide +kernel
theorem dX9_wordOf_5 : decode cX9_wordOf 5 = .ok (.invokevirtual 61, 3) := by decide +kernel
theorem dX9_wordOf_8 : decode cX9_wordOf 8 = .ok (.ifCond .eq 5, 3) := by decide +kernel
theorem dX9_wordOf_11 : decode cX9_wordOf 11 = .ok (.iconst 0, 1) := by decide +kernel
theorem dX9_wordOf_12 : decode cX9_wordOf 12 = .ok (.ireturn, 1) := by decide +kernel
theorem dX9_wordOf_13 : decode cX9_wordOf 13 = .ok (.aload_n 0, 1) := by decide +kernel
theorem dX9_wordOf_14 : decode cX9_wordOf 14 = .ok (.iload_n 1, 1) := by decide +kernel
theorem dX9_wordOf_15 : decode cX9_wordOf 15 = .ok (.iload_n 2, 1) := by decide +kernel
theorem dX9_wordOf_16 : decode cX9_wordOf 16 = .ok (.ldc 65, 2) := by decide +kernel
theorem dX9_wordOf_18 : decode cX9_wordOf 18 = .ok (.invokevirtual 61, 3) := by decide +kernel
theorem dX9_wordOf_21 : decode cX9_wordOf 21 = .ok (.ifCond .eq 5, 3) := by decide +kernel
theorem dX9_wordOf_24 : decode cX9_wordOf 24 = .ok (.iconst 1, 1) := by decide +kernel
theorem dX9_wordOf_25 : decode cX9_wordOf 25 = .ok (.ireturn, 1) := by decide +kernel
theorem dX9_wordOf_26 : decode cX9_wordOf 26 = .ok (.aload_n 0, 1) := by decide +kernel
theorem dX9_wordOf_27 : decode cX9_wordOf 27 = .ok (.iload_n 1, 1) := by decide +kernel
theorem dX9_wordOf_28 : decode cX9_wordOf 28 = .ok (.iload_n 2, 1) := by decide +kernel
theorem dX9_wordOf_29 : decode cX9_wordOf 29 = .ok (.ldc 67, 2) := by decide +kernel
theorem dX9_wordOf_31 : decode cX9_wordOf 31 = .ok (.invokevirtual 61, 3) := by decide +kernel
theorem dX9_wordOf_34 : decode cX9_wordOf 34 = .ok (.ifCond .eq 5, 3) := by decide +kernel
theorem dX9_wordOf_37 : decode cX9_wordOf 37 = .ok (.iconst 2, 1) := by decide +kernel
theorem dX9_wordOf_38 : decode cX9_wordOf 38 = .ok (.ireturn, 1) := by decide +kernel
theorem dX9_wordOf_39 : decode cX9_wordOf 39 = .ok (.aload_n 0, 1) := by decide +kernel
theorem dX9_wordOf_40 : decode cX9_wordOf 40 = .ok (.iload_n 1, 1) := by decide +kernel
theorem dX9_wordOf_41 : decode cX9_wordOf 41 = .ok (.iload_n 2, 1) := by decide +kernel
theorem dX9_wordOf_42 : decode cX9_wordOf 42 = .ok (.ldc 69, 2) := by decide +kernel
theorem dX9_wordOf_44 : decode cX9_wordOf 44 = .ok (.invokevirtual 61, 3) := by decide +kernel
theorem dX9_wordOf_47 : decode cX9_wordOf 47 = .ok (.ifCond .eq 5, 3) := by decide +kernel
theorem dX9_wordOf_50 : decode cX9_wordOf 50 = .ok (.iconst 3, 1) := by decide +kernel
theorem dX9_wordOf_51 : decode cX9_wordOf 51 = .ok (.ireturn, 1) := by decide +kernel
theorem dX9_wordOf_52 : decode cX9_wordOf 52 = .ok (.aload_n 0, 1) := by decide +kernel
theorem dX9_wordOf_53 : decode cX9_wordOf 53 = .ok (.iload_n 1, 1) := by decide +kernel
theorem dX9_wordOf_54 : decode cX9_wordOf 54 = .ok (.iload_n 2, 1) := by decide +kernel
theorem dX9_wordOf_55 : decode cX9_wordOf 55 = .ok (.ldc 71, 2) := by decide +kernel
theorem dX9_wordOf_57 : decode cX9_wordOf 57 = .ok (.invokevirtual 61, 3) := by decide +kernel
theorem dX9_wordOf_60 : decode cX9_wordOf 60 = .ok (.ifCond .eq 5, 3) := by decide +kernel
theorem dX9_wordOf_63 : decode cX9_wordOf 63 = .ok (.iconst 4, 1) := by decide +kernel
theorem dX9_wordOf_64 : decode cX9_wordOf 64 = .ok (.ireturn, 1) := by decide +kernel
theorem dX9_wordOf_65 : decode cX9_wordOf 65 = .ok (.aload_n 0, 1) := by decide +kernel
theorem dX9_wordOf_66 : decode cX9_wordOf 66 = .ok (.iload_n 1, 1) := by decide +kernel
theorem dX9_wordOf_67 : decode cX9_wordOf 67 = .ok (.iload_n 2, 1) := by decide +kernel
theorem dX9_wordOf_68 : decode cX9_wordOf 68 = .ok (.ldc 73, 2) := by decide +kernel
theorem dX9_wordOf_70 : decode cX9_wordOf 70 = .ok (.invokevirtual 61, 3) := by decide +kernel
theorem dX9_wordOf_73 : decode cX9_wordOf 73 = .ok (.ifCond .eq 5, 3) := by decide +kernel
theorem dX9_wordOf_76 : decode cX9_wordOf 76 = .ok (.iconst 5, 1) := by decide +kernel
theorem dX9_wordOf_77 : decode cX9_wordOf 77 = .ok (.ireturn, 1) := by decide +kernel
theorem dX9_wordOf_78 : decode cX9_wordOf 78 = .ok (.aload_n 0, 1) := by decide +kernel
theorem dX9_wordOf_79 : decode cX9_wordOf 79 = .ok (.iload_n 1, 1) := by decide +kernel
theorem dX9_wordOf_80 : decode cX9_wordOf 80 = .ok (.iload_n 2, 1) := by decide +kernel
theorem dX9_wordOf_81 : decode cX9_wordOf 81 = .ok (.ldc 75, 2) := by decide +kernel
theorem dX9_wordOf_83 : decode cX9_wordOf 83 = .ok (.invokevirtual 61, 3) := by decide +kernel
theorem dX9_wordOf_86 : decode cX9_wordOf 86 = .ok (.ifCond .eq 6, 3) := by decide +kernel
theorem dX9_wordOf_89 : decode cX9_wordOf 89 = .ok (.bipush 6, 2) := by decide +kernel
theorem dX9_wordOf_91 : decode cX9_wordOf 91 = .ok (.ireturn, 1) := by decide +kernel
theorem dX9_wordOf_92 : decode cX9_wordOf 92 = .ok (.aload_n 0, 1) := by decide +kernel
theorem dX9_wordOf_93 : decode cX9_wordOf 93 = .ok (.iload_n 1, 1) := by decide +kernel
theorem dX9_wordOf_94 : decode cX9_wordOf 94 = .ok (.iload_n 2, 1) := by decide +kernel
theorem dX9_wordOf_95 : decode cX9_wordOf 95 = .ok (.ldc 77, 2) := by decide +kernel
theorem dX9_wordOf_97 : decode cX9_wordOf 97 = .ok (.invokevirtual 61, 3) := by decide +kernel
theorem dX9_wordOf_100 : decode cX9_wordOf 100 = .ok (.ifCond .eq 6, 3) := by decide +kernel
theorem dX9_wordOf_103 : decode cX9_wordOf 103 = .ok (.bipush 7, 2) := by decide +kernel
theorem dX9_wordOf_105 : decode cX9_wordOf 105 = .ok (.ireturn, 1) := by decide +kernel
theorem dX9_wordOf_106 : decode cX9_wordOf 106 = .ok (.aload_n 0, 1) := by decide +kernel
theorem dX9_wordOf_107 : decode cX9_wordOf 107 = .ok (.iload_n 1, 1) := by decide +kernel
theorem dX9_wordOf_108 : decode cX9_wordOf 108 = .ok (.iload_n 2, 1) := by decide +kernel
theorem dX9_wordOf_109 : decode cX9_wordOf 109 = .ok (.ldc 79, 2) := by decide +kernel
theorem dX9_wordOf_111 : decode cX9_wordOf 111 = .ok (.invokevirtual 61, 3) := by decide +kernel
theorem dX9_wordOf_114 : decode cX9_wordOf 114 = .ok (.ifCond .eq 6, 3) := by decide +kernel
theorem dX9_wordOf_117 : decode cX9_wordOf 117 = .ok (.bipush 8, 2) := by decide +kernel
theorem dX9_wordOf_119 : decode cX9_wordOf 119 = .ok (.ireturn, 1) := by decide +kernel
theorem dX9_wordOf_120 : decode cX9_wordOf 120 = .ok (.bipush 9, 2) := by decide +kernel
theorem dX9_wordOf_122 : decode cX9_wordOf 122 = .ok (.ireturn, 1) := by decide +kernel
theorem dX9_spells_0 : decode cX9_spells 0 = .ok (.iload_n 1, 1) := by decide +kernel
theorem dX9_spells_1 : decode cX9_spells 1 = .ok (.ifCond .lt 21, 3) := by decide +kernel
theorem dX9_spells_4 : decode cX9_spells 4 = .ok (.iload_n 2, 1) := by decide +kernel
theorem dX9_spells_5 : decode cX9_spells 5 = .ok (.aload_n 0, 1) := by decide +kernel
theorem dX9_spells_6 : decode cX9_spells 6 = .ok (.getfield 25, 3) := by decide +kernel
theorem dX9_spells_9 : decode cX9_spells 9 = .ok (.if_icmp .gt 13, 3) := by decide +kernel
theorem dX9_spells_12 : decode cX9_spells 12 = .ok (.iload_n 2, 1) := by decide +kernel
theorem dX9_spells_13 : decode cX9_spells 13 = .ok (.iload_n 1, 1) := by decide +kernel
theorem dX9_spells_14 : decode cX9_spells 14 = .ok (.isub, 1) := by decide +kernel
theorem dX9_spells_15 : decode cX9_spells 15 = .ok (.aload_n 3, 1) := by decide +kernel
theorem dX9_spells_16 : decode cX9_spells 16 = .ok (.invokevirtual 81, 3) := by decide +kernel
theorem dX9_spells_19 : decode cX9_spells 19 = .ok (.if_icmp .eq 5, 3) := by decide +kernel
theorem dX9_spells_22 : decode cX9_spells 22 = .ok (.iconst 0, 1) := by decide +kernel
theorem dX9_spells_23 : decode cX9_spells 23 = .ok (.ireturn, 1) := by decide +kernel
theorem dX9_spells_24 : decode cX9_spells 24 = .ok (.iconst 0, 1) := by decide +kernel
theorem dX9_spells_25 : decode cX9_spells 25 = .ok (.istore 4, 2) := by decide +kernel
theorem dX9_spells_27 : decode cX9_spells 27 = .ok (.iload 4, 2) := by decide +kernel
theorem dX9_spells_29 : decode cX9_spells 29 = .ok (.aload_n 3, 1) := by decide +kernel
theorem dX9_spells_30 : decode cX9_spells 30 = .ok (.invokevirtual 81, 3) := by decide +kernel
theorem dX9_spells_33 : decode cX9_spells 33 = .ok (.if_icmp .ge 29, 3) := by decide +kernel
theorem dX9_spells_36 : decode cX9_spells 36 = .ok (.aload_n 0, 1) := by decide +kernel
theorem dX9_spells_37 : decode cX9_spells 37 = .ok (.getfield 9, 3) := by decide +kernel
theorem dX9_spells_40 : decode cX9_spells 40 = .ok (.iload_n 1, 1) := by decide +kernel
theorem dX9_spells_41 : decode cX9_spells 41 = .ok (.iload 4, 2) := by decide +kernel
theorem dX9_spells_43 : decode cX9_spells 43 = .ok (.iadd, 1) := by decide +kernel
theorem dX9_spells_44 : decode cX9_spells 44 = .ok (.baload, 1) := by decide +kernel
theorem dX9_spells_45 : decode cX9_spells 45 = .ok (.aload_n 3, 1) := by decide +kernel
theorem dX9_spells_46 : decode cX9_spells 46 = .ok (.iload 4, 2) := by decide +kernel
theorem dX9_spells_48 : decode cX9_spells 48 = .ok (.invokevirtual 86, 3) := by decide +kernel
theorem dX9_spells_51 : decode cX9_spells 51 = .ok (.if_icmp .eq 5, 3) := by decide +kernel
theorem dX9_spells_54 : decode cX9_spells 54 = .ok (.iconst 0, 1) := by decide +kernel
theorem dX9_spells_55 : decode cX9_spells 55 = .ok (.ireturn, 1) := by decide +kernel
theorem dX9_spells_56 : decode cX9_spells 56 = .ok (.iinc 4 1, 3) := by decide +kernel
theorem dX9_spells_59 : decode cX9_spells 59 = .ok (.goto (-32), 3) := by decide +kernel
theorem dX9_spells_62 : decode cX9_spells 62 = .ok (.iconst 1, 1) := by decide +kernel
theorem dX9_spells_63 : decode cX9_spells 63 = .ok (.ireturn, 1) := by decide +kernel
theorem dX10_init_0 : decode cX10_init 0 = .ok (.aload_n 0, 1) := by decide +kernel
theorem dX10_init_1 : decode cX10_init 1 = .ok (.invokespecial 3, 3) := by decide +kernel
theorem dX10_init_4 : decode cX10_init 4 = .ok (.aload_n 0, 1) := by decide +kernel
theorem dX10_init_5 : decode cX10_init 5 = .ok (.bipush 20, 2) := by decide +kernel
theorem dX10_init_7 : decode cX10_init 7 = .ok (.newarray .int, 2) := by decide +kernel
theorem dX10_init_9 : decode cX10_init 9 = .ok (.putfield 9, 3) := by decide +kernel
theorem dX10_init_12 : decode cX10_init 12 = .ok (.aload_n 0, 1) := by decide +kernel
theorem dX10_init_13 : decode cX10_init 13 = .ok (.bipush 20, 2) := by decide +kernel
theorem dX10_init_15 : decode cX10_init 15 = .ok (.newarray .int, 2) := by decide +kernel
theorem dX10_init_17 : decode cX10_init 17 = .ok (.putfield 15, 3) := by decide +kernel
theorem dX10_init_20 : decode cX10_init 20 = .ok (.aload_n 0, 1) := by decide +kernel
theorem dX10_init_21 : decode cX10_init 21 = .ok (.bipush (-4), 2) := by decide +kernel
theorem dX10_init_23 : decode cX10_init 23 = .ok (.putfield 18, 3) := by decide +kernel
theorem dX10_init_26 : decode cX10_init 26 = .ok (.return_, 1) := by decide +kernel
theorem dX10_has_0 : decode cX10_has 0 = .ok (.iload_n 1, 1) := by decide +kernel
theorem dX10_has_1 : decode cX10_has 1 = .ok (.iconst 0, 1) := by decide +kernel
theorem dX10_has_2 : decode cX10_has 2 = .ok (.aload_n 0, 1) := by decide +kernel
theorem dX10_has_3 : decode cX10_has 3 = .ok (.getfield 22, 3) := by decide +kernel
theorem dX10_has_6 : decode cX10_has 6 = .ok (.iconst 1, 1) := by decide +kernel
theorem dX10_has_7 : decode cX10_has 7 = .ok (.isub, 1) := by decide +kernel
theorem dX10_has_8 : decode cX10_has 8 = .ok (.invokestatic 25, 3) := by decide +kernel
theorem dX10_has_11 : decode cX10_has 11 = .ok (.ireturn, 1) := by decide +kernel
theorem dX10_clear_0 : decode cX10_clear 0 = .ok (.aload_n 0, 1) := by decide +kernel
theorem dX10_clear_1 : decode cX10_clear 1 = .ok (.iconst 0, 1) := by decide +kernel
theorem dX10_clear_2 : decode cX10_clear 2 = .ok (.putfield 22, 3) := by decide +kernel
theorem dX10_clear_5 : decode cX10_clear 5 = .ok (.aload_n 0, 1) := by decide +kernel
theorem dX10_clear_6 : decode cX10_clear 6 = .ok (.bipush (-4), 2) := by decide +kernel
theorem dX10_clear_8 : decode cX10_clear 8 = .ok (.putfield 18, 3) := by decide +kernel
theorem dX10_clear_11 : decode cX10_clear 11 = .ok (.aload_n 0, 1) := by decide +kernel
theorem dX10_clear_12 : decode cX10_clear 12 = .ok (.iconst 0, 1) := by decide +kernel
theorem dX10_clear_13 : decode cX10_clear 13 = .ok (.putfield 29, 3) := by decide +kernel
theorem dX10_clear_16 : decode cX10_clear 16 = .ok (.aload_n 0, 1) := by decide +kernel
theorem dX10_clear_17 : decode cX10_clear 17 = .ok (.iconst 0, 1) := by decide +kernel
theorem dX10_clear_18 : decode cX10_clear 18 = .ok (.putfield 33, 3) := by decide +kernel
theorem dX10_clear_21 : decode cX10_clear 21 = .ok (.return_, 1) := by decide +kernel
theorem dX10_add_0 : decode cX10_add 0 = .ok (.aload_n 0, 1) := by decide +kernel
theorem dX10_add_1 : decode cX10_add 1 = .ok (.getfield 22, 3) := by decide +kernel
theorem dX10_add_4 : decode cX10_add 4 = .ok (.bipush 20, 2) := by decide +kernel
theorem dX10_add_6 : decode cX10_add 6 = .ok (.if_icmp .ge 33, 3) := by decide +kernel
theorem dX10_add_9 : decode cX10_add 9 = .ok (.aload_n 0, 1) := by decide +kernel
theorem dX10_add_10 : decode cX10_add 10 = .ok (.getfield 9, 3) := by decide +kernel
theorem dX10_add_13 : decode cX10_add 13 = .ok (.aload_n 0, 1) := by decide +kernel
theorem dX10_add_14 : decode cX10_add 14 = .ok (.getfield 22, 3) := by decide +kernel
theorem dX10_add_17 : decode cX10_add 17 = .ok (.iload_n 1, 1) := by decide +kernel
theorem dX10_add_18 : decode cX10_add 18 = .ok (.iastore, 1) := by decide +kernel
theorem dX10_add_19 : decode cX10_add 19 = .ok (.aload_n 0, 1) := by decide +kernel
theorem dX10_add_20 : decode cX10_add 20 = .ok (.getfield 15, 3) := by decide +kernel
theorem dX10_add_23 : decode cX10_add 23 = .ok (.aload_n 0, 1) := by decide +kernel
theorem dX10_add_24 : decode cX10_add 24 = .ok (.getfield 22, 3) := by decide +kernel
theorem dX10_add_27 : decode cX10_add 27 = .ok (.iload_n 2, 1) := by decide +kernel
theorem dX10_add_28 : decode cX10_add 28 = .ok (.iastore, 1) := by decide +kernel
theorem dX10_add_29 : decode cX10_add 29 = .ok (.aload_n 0, 1) := by decide +kernel
theorem dX10_add_30 : decode cX10_add 30 = .ok (.dup, 1) := by decide +kernel
theorem dX10_add_31 : decode cX10_add 31 = .ok (.getfield 22, 3) := by decide +kernel
theorem dX10_add_34 : decode cX10_add 34 = .ok (.iconst 1, 1) := by decide +kernel
theorem dX10_add_35 : decode cX10_add 35 = .ok (.iadd, 1) := by decide +kernel
theorem dX10_add_36 : decode cX10_add 36 = .ok (.putfield 22, 3) := by decide +kernel
theorem dX10_add_39 : decode cX10_add 39 = .ok (.return_, 1) := by decide +kernel
theorem dX10_readOne_0 : decode cX10_readOne 0 = .ok (.aload_n 0, 1) := by decide +kernel
theorem dX10_readOne_1 : decode cX10_readOne 1 = .ok (.invokevirtual 36, 3) := by decide +kernel
theorem dX10_readOne_4 : decode cX10_readOne 4 = .ok (.iload_n 3, 1) := by decide +kernel
theorem dX10_readOne_5 : decode cX10_readOne 5 = .ok (.iconst 2, 1) := by decide +kernel
theorem dX10_readOne_6 : decode cX10_readOne 6 = .ok (.idiv, 1) := by decide +kernel
theorem dX10_readOne_7 : decode cX10_readOne 7 = .ok (.istore 4, 2) := by decide +kernel
theorem dX10_readOne_9 : decode cX10_readOne 9 = .ok (.iload 4, 2) := by decide +kernel
theorem dX10_readOne_11 : decode cX10_readOne 11 = .ok (.bipush 9, 2) := by decide +kernel
theorem dX10_readOne_13 : decode cX10_readOne 13 = .ok (.iload_n 3, 1) := by decide +kernel
theorem dX10_readOne_14 : decode cX10_readOne 14 = .ok (.imul, 1) := by decide +kernel
theorem dX10_readOne_15 : decode cX10_readOne 15 = .ok (.iadd, 1) := by decide +kernel
theorem dX10_readOne_16 : decode cX10_readOne 16 = .ok (.istore 5, 2) := by decide +kernel
theorem dX10_readOne_18 : decode cX10_readOne 18 = .ok (.iconst 0, 1) := by decide +kernel
theorem dX10_readOne_19 : decode cX10_readOne 19 = .ok (.istore 6, 2) := by decide +kernel
theorem dX10_readOne_21 : decode cX10_readOne 21 = .ok (.iload 6, 2) := by decide +kernel
theorem dX10_readOne_23 : decode cX10_readOne 23 = .ok (.iload 5, 2) := by decide +kernel
theorem dX10_readOne_25 : decode cX10_readOne 25 = .ok (.iadd, 1) := by decide +kernel
theorem dX10_readOne_26 : decode cX10_readOne 26 = .ok (.aload_n 1, 1) := by decide +kernel
theorem dX10_readOne_27 : decode cX10_readOne 27 = .ok (.getfield 39, 3) := by decide +kernel
theorem dX10_readOne_30 : decode cX10_readOne 30 = .ok (.if_icmp .ge 82, 3) := by decide +kernel
theorem dX10_readOne_33 : decode cX10_readOne 33 = .ok (.aload_n 0, 1) := by decide +kernel
theorem dX10_readOne_34 : decode cX10_readOne 34 = .ok (.getfield 22, 3) := by decide +kernel
theorem dX10_readOne_37 : decode cX10_readOne 37 = .ok (.bipush 20, 2) := by decide +kernel
theorem dX10_readOne_39 : decode cX10_readOne 39 = .ok (.if_icmp .ge 73, 3) := by decide +kernel
theorem dX10_readOne_42 : decode cX10_readOne 42 = .ok (.aload_n 1, 1) := by decide +kernel
theorem dX10_readOne_43 : decode cX10_readOne 43 = .ok (.iload_n 2, 1) := by decide +kernel
theorem dX10_readOne_44 : decode cX10_readOne 44 = .ok (.iload 6, 2) := by decide +kernel
theorem dX10_readOne_46 : decode cX10_readOne 46 = .ok (.iload 4, 2) := by decide +kernel
theorem dX10_readOne_48 : decode cX10_readOne 48 = .ok (.invokestatic 44, 3) := by decide +kernel
theorem dX10_readOne_51 : decode cX10_readOne 51 = .ok (.ifCond .ne 9, 3) := by decide +kernel
theorem dX10_readOne_54 : decode cX10_readOne 54 = .ok (.iinc 6 1, 3) := by decide +kernel
theorem dX10_readOne_57 : decode cX10_readOne 57 = .ok (.goto (-36), 3) := by decide +kernel
theorem dX10_readOne_60 : decode cX10_readOne 60 = .ok (.aload_n 1, 1) := by decide +kernel
theorem dX10_readOne_61 : decode cX10_readOne 61 = .ok (.iload_n 2, 1) := by decide +kernel
theorem dX10_readOne_62 : decode cX10_readOne 62 = .ok (.iload 6, 2) := by decide +kernel
theorem dX10_readOne_64 : decode cX10_readOne 64 = .ok (.iload 5, 2) := by decide +kernel
theorem dX10_readOne_66 : decode cX10_readOne 66 = .ok (.iadd, 1) := by decide +kernel
theorem dX10_readOne_67 : decode cX10_readOne 67 = .ok (.invokevirtual 48, 3) := by decide +kernel
theorem dX10_readOne_70 : decode cX10_readOne 70 = .ok (.ifCond .ne 13, 3) := by decide +kernel
theorem dX10_readOne_73 : decode cX10_readOne 73 = .ok (.aload_n 0, 1) := by decide +kernel
theorem dX10_readOne_74 : decode cX10_readOne 74 = .ok (.iload 6, 2) := by decide +kernel
theorem dX10_readOne_76 : decode cX10_readOne 76 = .ok (.iload 5, 2) := by decide +kernel
theorem dX10_readOne_78 : decode cX10_readOne 78 = .ok (.iadd, 1) := by decide +kernel
theorem dX10_readOne_79 : decode cX10_readOne 79 = .ok (.putfield 18, 3) := by decide +kernel
theorem dX10_readOne_82 : decode cX10_readOne 82 = .ok (.return_, 1) := by decide +kernel
theorem dX10_readOne_83 : decode cX10_readOne 83 = .ok (.aload_n 0, 1) := by decide +kernel
theorem dX10_readOne_84 : decode cX10_readOne 84 = .ok (.aload_n 1, 1) := by decide +kernel
theorem dX10_readOne_85 : decode cX10_readOne 85 = .ok (.iload_n 2, 1) := by decide +kernel
theorem dX10_readOne_86 : decode cX10_readOne 86 = .ok (.iload 6, 2) := by decide +kernel
theorem dX10_readOne_88 : decode cX10_readOne 88 = .ok (.iload 4, 2) := by decide +kernel
theorem dX10_readOne_90 : decode cX10_readOne 90 = .ok (.iadd, 1) := by decide +kernel
theorem dX10_readOne_91 : decode cX10_readOne 91 = .ok (.iload_n 3, 1) := by decide +kernel
theorem dX10_readOne_92 : decode cX10_readOne 92 = .ok (.invokestatic 52, 3) := by decide +kernel
theorem dX10_readOne_95 : decode cX10_readOne 95 = .ok (.iload 6, 2) := by decide +kernel
theorem dX10_readOne_97 : decode cX10_readOne 97 = .ok (.invokevirtual 56, 3) := by decide +kernel
theorem dX10_readOne_100 : decode cX10_readOne 100 = .ok (.iload 6, 2) := by decide +kernel
theorem dX10_readOne_102 : decode cX10_readOne 102 = .ok (.iload 5, 2) := by decide +kernel
theorem dX10_readOne_104 : decode cX10_readOne 104 = .ok (.iconst 1, 1) := by decide +kernel
theorem dX10_readOne_105 : decode cX10_readOne 105 = .ok (.iadd, 1) := by decide +kernel
theorem dX10_readOne_106 : decode cX10_readOne 106 = .ok (.iadd, 1) := by decide +kernel
theorem dX10_readOne_107 : decode cX10_readOne 107 = .ok (.istore 6, 2) := by decide +kernel
theorem dX10_readOne_109 : decode cX10_readOne 109 = .ok (.goto (-88), 3) := by decide +kernel
theorem dX10_readOne_112 : decode cX10_readOne 112 = .ok (.return_, 1) := by decide +kernel
theorem dX10_beginsByte_0 : decode cX10_beginsByte 0 = .ok (.aload_n 0, 1) := by decide +kernel
theorem dX10_beginsByte_1 : decode cX10_beginsByte 1 = .ok (.iload_n 1, 1) := by decide +kernel
theorem dX10_beginsByte_2 : decode cX10_beginsByte 2 = .ok (.iload_n 2, 1) := by decide +kernel
theorem dX10_beginsByte_3 : decode cX10_beginsByte 3 = .ok (.invokevirtual 48, 3) := by decide +kernel
theorem dX10_beginsByte_6 : decode cX10_beginsByte 6 = .ok (.ifCond .ne 22, 3) := by decide +kernel
theorem dX10_beginsByte_9 : decode cX10_beginsByte 9 = .ok (.iload_n 2, 1) := by decide +kernel
theorem dX10_beginsByte_10 : decode cX10_beginsByte 10 = .ok (.ifCond .eq 14, 3) := by decide +kernel
theorem dX10_beginsByte_13 : decode cX10_beginsByte 13 = .ok (.aload_n 0, 1) := by decide +kernel
theorem dX10_beginsByte_14 : decode cX10_beginsByte 14 = .ok (.iload_n 1, 1) := by decide +kernel
theorem dX10_beginsByte_15 : decode cX10_beginsByte 15 = .ok (.iload_n 2, 1) := by decide +kernel
theorem dX10_beginsByte_16 : decode cX10_beginsByte 16 = .ok (.iconst 1, 1) := by decide +kernel
theorem dX10_beginsByte_17 : decode cX10_beginsByte 17 = .ok (.isub, 1) := by decide +kernel
theorem dX10_beginsByte_18 : decode cX10_beginsByte 18 = .ok (.invokevirtual 48, 3) := by decide +kernel
theorem dX10_beginsByte_21 : decode cX10_beginsByte 21 = .ok (.ifCond .eq 7, 3) := by decide +kernel
theorem dX10_beginsByte_24 : decode cX10_beginsByte 24 = .ok (.iconst 1, 1) := by decide +kernel
theorem dX10_beginsByte_25 : decode cX10_beginsByte 25 = .ok (.goto 4, 3) := by decide +kernel
theorem dX10_beginsByte_28 : decode cX10_beginsByte 28 = .ok (.iconst 0, 1) := by decide +kernel
theorem dX10_beginsByte_29 : decode cX10_beginsByte 29 = .ok (.istore 4, 2) := by decide +kernel
theorem dX10_beginsByte_31 : decode cX10_beginsByte 31 = .ok (.iload 4, 2) := by decide +kernel
theorem dX10_beginsByte_33 : decode cX10_beginsByte 33 = .ok (.ifCond .eq 18, 3) := by decide +kernel
theorem dX10_beginsByte_36 : decode cX10_beginsByte 36 = .ok (.aload_n 0, 1) := by decide +kernel
theorem dX10_beginsByte_37 : decode cX10_beginsByte 37 = .ok (.iload_n 1, 1) := by decide +kernel
theorem dX10_beginsByte_38 : decode cX10_beginsByte 38 = .ok (.iload_n 2, 1) := by decide +kernel
theorem dX10_beginsByte_39 : decode cX10_beginsByte 39 = .ok (.iload_n 3, 1) := by decide +kernel
theorem dX10_beginsByte_40 : decode cX10_beginsByte 40 = .ok (.iadd, 1) := by decide +kernel
theorem dX10_beginsByte_41 : decode cX10_beginsByte 41 = .ok (.invokevirtual 48, 3) := by decide +kernel
theorem dX10_beginsByte_44 : decode cX10_beginsByte 44 = .ok (.ifCond .ne 7, 3) := by decide +kernel
theorem dX10_beginsByte_47 : decode cX10_beginsByte 47 = .ok (.iconst 1, 1) := by decide +kernel
theorem dX10_beginsByte_48 : decode cX10_beginsByte 48 = .ok (.goto 4, 3) := by decide +kernel
theorem dX10_beginsByte_51 : decode cX10_beginsByte 51 = .ok (.iconst 0, 1) := by decide +kernel
theorem dX10_beginsByte_52 : decode cX10_beginsByte 52 = .ok (.ireturn, 1) := by decide +kernel
theorem dX10_byteBehind_0 : decode cX10_byteBehind 0 = .ok (.iconst 0, 1) := by decide +kernel
theorem dX10_byteBehind_1 : decode cX10_byteBehind 1 = .ok (.istore 4, 2) := by decide +kernel
theorem dX10_byteBehind_3 : decode cX10_byteBehind 3 = .ok (.iconst 0, 1) := by decide +kernel
theorem dX10_byteBehind_4 : decode cX10_byteBehind 4 = .ok (.istore 5, 2) := by decide +kernel
theorem dX10_byteBehind_6 : decode cX10_byteBehind 6 = .ok (.iload 5, 2) := by decide +kernel
theorem dX10_byteBehind_8 : decode cX10_byteBehind 8 = .ok (.bipush 8, 2) := by decide +kernel
theorem dX10_byteBehind_10 : decode cX10_byteBehind 10 = .ok (.if_icmp .ge 34, 3) := by decide +kernel
theorem dX10_byteBehind_13 : decode cX10_byteBehind 13 = .ok (.aload_n 0, 1) := by decide +kernel
theorem dX10_byteBehind_14 : decode cX10_byteBehind 14 = .ok (.iload_n 1, 1) := by decide +kernel
theorem dX10_byteBehind_15 : decode cX10_byteBehind 15 = .ok (.iload_n 2, 1) := by decide +kernel
theorem dX10_byteBehind_16 : decode cX10_byteBehind 16 = .ok (.iload_n 3, 1) := by decide +kernel
theorem dX10_byteBehind_17 : decode cX10_byteBehind 17 = .ok (.iload 5, 2) := by decide +kernel
theorem dX10_byteBehind_19 : decode cX10_byteBehind 19 = .ok (.iconst 1, 1) := by decide +kernel
theorem dX10_byteBehind_20 : decode cX10_byteBehind 20 = .ok (.iadd, 1) := by decide +kernel
theorem dX10_byteBehind_21 : decode cX10_byteBehind 21 = .ok (.imul, 1) := by decide +kernel
theorem dX10_byteBehind_22 : decode cX10_byteBehind 22 = .ok (.iadd, 1) := by decide +kernel
theorem dX10_byteBehind_23 : decode cX10_byteBehind 23 = .ok (.invokevirtual 48, 3) := by decide +kernel
theorem dX10_byteBehind_26 : decode cX10_byteBehind 26 = .ok (.ifCond .eq 12, 3) := by decide +kernel
theorem dX10_byteBehind_29 : decode cX10_byteBehind 29 = .ok (.iload 4, 2) := by decide +kernel
theorem dX10_byteBehind_31 : decode cX10_byteBehind 31 = .ok (.iconst 1, 1) := by decide +kernel
theorem dX10_byteBehind_32 : decode cX10_byteBehind 32 = .ok (.iload 5, 2) := by decide +kernel
theorem dX10_byteBehind_34 : decode cX10_byteBehind 34 = .ok (.ishl, 1) := by decide +kernel
theorem dX10_byteBehind_35 : decode cX10_byteBehind 35 = .ok (.ior, 1) := by decide +kernel
theorem dX10_byteBehind_36 : decode cX10_byteBehind 36 = .ok (.istore 4, 2) := by decide +kernel
theorem dX10_byteBehind_38 : decode cX10_byteBehind 38 = .ok (.iinc 5 1, 3) := by decide +kernel
theorem dX10_byteBehind_41 : decode cX10_byteBehind 41 = .ok (.goto (-35), 3) := by decide +kernel
theorem dX10_byteBehind_44 : decode cX10_byteBehind 44 = .ok (.iload 4, 2) := by decide +kernel
theorem dX10_byteBehind_46 : decode cX10_byteBehind 46 = .ok (.ireturn, 1) := by decide +kernel
theorem dX10_readTwo_0 : decode cX10_readTwo 0 = .ok (.aload_n 0, 1) := by decide +kernel
theorem dX10_readTwo_1 : decode cX10_readTwo 1 = .ok (.invokevirtual 36, 3) := by decide +kernel
theorem dX10_readTwo_4 : decode cX10_readTwo 4 = .ok (.iconst 1, 1) := by decide +kernel
theorem dX10_readTwo_5 : decode cX10_readTwo 5 = .ok (.istore 4, 2) := by decide +kernel
theorem dX10_readTwo_7 : decode cX10_readTwo 7 = .ok (.iload 4, 2) := by decide +kernel
theorem dX10_readTwo_9 : decode cX10_readTwo 9 = .ok (.aload_n 1, 1) := by decide +kernel
theorem dX10_readTwo_10 : decode cX10_readTwo 10 = .ok (.getfield 39, 3) := by decide +kernel
theorem dX10_readTwo_13 : decode cX10_readTwo 13 = .ok (.if_icmp .ge 102, 3) := by decide +kernel
theorem dX10_readTwo_16 : decode cX10_readTwo 16 = .ok (.aload_n 0, 1) := by decide +kernel
theorem dX10_readTwo_17 : decode cX10_readTwo 17 = .ok (.getfield 22, 3) := by decide +kernel
theorem dX10_readTwo_20 : decode cX10_readTwo 20 = .ok (.bipush 20, 2) := by decide +kernel
theorem dX10_readTwo_22 : decode cX10_readTwo 22 = .ok (.if_icmp .ge 93, 3) := by decide +kernel
theorem dX10_readTwo_25 : decode cX10_readTwo 25 = .ok (.aload_n 0, 1) := by decide +kernel
theorem dX10_readTwo_26 : decode cX10_readTwo 26 = .ok (.getfield 18, 3) := by decide +kernel
theorem dX10_readTwo_29 : decode cX10_readTwo 29 = .ok (.bipush (-4), 2) := by decide +kernel
theorem dX10_readTwo_31 : decode cX10_readTwo 31 = .ok (.if_icmp .ne 84, 3) := by decide +kernel
theorem dX10_readTwo_34 : decode cX10_readTwo 34 = .ok (.aload_n 1, 1) := by decide +kernel
theorem dX10_readTwo_35 : decode cX10_readTwo 35 = .ok (.iload_n 3, 1) := by decide +kernel
theorem dX10_readTwo_36 : decode cX10_readTwo 36 = .ok (.iload 4, 2) := by decide +kernel
theorem dX10_readTwo_38 : decode cX10_readTwo 38 = .ok (.invokevirtual 48, 3) := by decide +kernel
theorem dX10_readTwo_41 : decode cX10_readTwo 41 = .ok (.istore 5, 2) := by decide +kernel
theorem dX10_readTwo_43 : decode cX10_readTwo 43 = .ok (.aload_n 1, 1) := by decide +kernel
theorem dX10_readTwo_44 : decode cX10_readTwo 44 = .ok (.iload_n 2, 1) := by decide +kernel
theorem dX10_readTwo_45 : decode cX10_readTwo 45 = .ok (.iload 4, 2) := by decide +kernel
theorem dX10_readTwo_47 : decode cX10_readTwo 47 = .ok (.invokevirtual 48, 3) := by decide +kernel
end
section
theorem dX10_readTwo_50 : decode cX10_readTwo 50 = .ok (.ifCond .ne 6, 3) := by decide +kernel
theorem dX10_readTwo_53 : decode cX10_readTwo 53 = .ok (.goto 56, 3) := by decide +kernel
theorem dX10_readTwo_56 : decode cX10_readTwo 56 = .ok (.aload_n 1, 1) := by decide +kernel
theorem dX10_readTwo_57 : decode cX10_readTwo 57 = .ok (.iload_n 2, 1) := by decide +kernel
theorem dX10_readTwo_58 : decode cX10_readTwo 58 = .ok (.iload 4, 2) := by decide +kernel
theorem dX10_readTwo_60 : decode cX10_readTwo 60 = .ok (.iconst 1, 1) := by decide +kernel
theorem dX10_readTwo_61 : decode cX10_readTwo 61 = .ok (.isub, 1) := by decide +kernel
theorem dX10_readTwo_62 : decode cX10_readTwo 62 = .ok (.invokevirtual 48, 3) := by decide +kernel
theorem dX10_readTwo_65 : decode cX10_readTwo 65 = .ok (.ifCond .ne 22, 3) := by decide +kernel
theorem dX10_readTwo_68 : decode cX10_readTwo 68 = .ok (.aload_n 0, 1) := by decide +kernel
theorem dX10_readTwo_69 : decode cX10_readTwo 69 = .ok (.iload 5, 2) := by decide +kernel
theorem dX10_readTwo_71 : decode cX10_readTwo 71 = .ok (.ifCond .eq 7, 3) := by decide +kernel
theorem dX10_readTwo_74 : decode cX10_readTwo 74 = .ok (.iconst 1, 1) := by decide +kernel
theorem dX10_readTwo_75 : decode cX10_readTwo 75 = .ok (.goto 4, 3) := by decide +kernel
theorem dX10_readTwo_78 : decode cX10_readTwo 78 = .ok (.iconst 0, 1) := by decide +kernel
theorem dX10_readTwo_79 : decode cX10_readTwo 79 = .ok (.iload 4, 2) := by decide +kernel
theorem dX10_readTwo_81 : decode cX10_readTwo 81 = .ok (.invokevirtual 60, 3) := by decide +kernel
theorem dX10_readTwo_84 : decode cX10_readTwo 84 = .ok (.goto 25, 3) := by decide +kernel
theorem dX10_readTwo_87 : decode cX10_readTwo 87 = .ok (.iload 5, 2) := by decide +kernel
theorem dX10_readTwo_89 : decode cX10_readTwo 89 = .ok (.aload_n 1, 1) := by decide +kernel
theorem dX10_readTwo_90 : decode cX10_readTwo 90 = .ok (.iload_n 3, 1) := by decide +kernel
theorem dX10_readTwo_91 : decode cX10_readTwo 91 = .ok (.iload 4, 2) := by decide +kernel
theorem dX10_readTwo_93 : decode cX10_readTwo 93 = .ok (.iconst 1, 1) := by decide +kernel
theorem dX10_readTwo_94 : decode cX10_readTwo 94 = .ok (.isub, 1) := by decide +kernel
theorem dX10_readTwo_95 : decode cX10_readTwo 95 = .ok (.invokevirtual 48, 3) := by decide +kernel
theorem dX10_readTwo_98 : decode cX10_readTwo 98 = .ok (.if_icmp .eq 11, 3) := by decide +kernel
theorem dX10_readTwo_101 : decode cX10_readTwo 101 = .ok (.aload_n 0, 1) := by decide +kernel
theorem dX10_readTwo_102 : decode cX10_readTwo 102 = .ok (.iload 5, 2) := by decide +kernel
theorem dX10_readTwo_104 : decode cX10_readTwo 104 = .ok (.iload 4, 2) := by decide +kernel
theorem dX10_readTwo_106 : decode cX10_readTwo 106 = .ok (.invokevirtual 63, 3) := by decide +kernel
theorem dX10_readTwo_109 : decode cX10_readTwo 109 = .ok (.iinc 4 1, 3) := by decide +kernel
theorem dX10_readTwo_112 : decode cX10_readTwo 112 = .ok (.goto (-105), 3) := by decide +kernel
theorem dX10_readTwo_115 : decode cX10_readTwo 115 = .ok (.return_, 1) := by decide +kernel
theorem dX10_startOrStop_0 : decode cX10_startOrStop 0 = .ok (.iload_n 1, 1) := by decide +kernel
theorem dX10_startOrStop_1 : decode cX10_startOrStop 1 = .ok (.ifCond .eq 23, 3) := by decide +kernel
theorem dX10_startOrStop_4 : decode cX10_startOrStop 4 = .ok (.aload_n 0, 1) := by decide +kernel
theorem dX10_startOrStop_5 : decode cX10_startOrStop 5 = .ok (.getfield 29, 3) := by decide +kernel
theorem dX10_startOrStop_8 : decode cX10_startOrStop 8 = .ok (.ifCond .eq 11, 3) := by decide +kernel
theorem dX10_startOrStop_11 : decode cX10_startOrStop 11 = .ok (.aload_n 0, 1) := by decide +kernel
theorem dX10_startOrStop_12 : decode cX10_startOrStop 12 = .ok (.getfield 33, 3) := by decide +kernel
theorem dX10_startOrStop_15 : decode cX10_startOrStop 15 = .ok (.iconst 2, 1) := by decide +kernel
theorem dX10_startOrStop_16 : decode cX10_startOrStop 16 = .ok (.if_icmp .lt 8, 3) := by decide +kernel
theorem dX10_startOrStop_19 : decode cX10_startOrStop 19 = .ok (.aload_n 0, 1) := by decide +kernel
theorem dX10_startOrStop_20 : decode cX10_startOrStop 20 = .ok (.iload_n 2, 1) := by decide +kernel
theorem dX10_startOrStop_21 : decode cX10_startOrStop 21 = .ok (.putfield 18, 3) := by decide +kernel
theorem dX10_startOrStop_24 : decode cX10_startOrStop 24 = .ok (.aload_n 0, 1) := by decide +kernel
theorem dX10_startOrStop_25 : decode cX10_startOrStop 25 = .ok (.iload_n 1, 1) := by decide +kernel
theorem dX10_startOrStop_26 : decode cX10_startOrStop 26 = .ok (.ifCond .ne 7, 3) := by decide +kernel
theorem dX10_startOrStop_29 : decode cX10_startOrStop 29 = .ok (.iconst 1, 1) := by decide +kernel
theorem dX10_startOrStop_30 : decode cX10_startOrStop 30 = .ok (.goto 4, 3) := by decide +kernel
theorem dX10_startOrStop_33 : decode cX10_startOrStop 33 = .ok (.iconst 0, 1) := by decide +kernel
theorem dX10_startOrStop_34 : decode cX10_startOrStop 34 = .ok (.putfield 29, 3) := by decide +kernel
theorem dX10_startOrStop_37 : decode cX10_startOrStop 37 = .ok (.aload_n 0, 1) := by decide +kernel
theorem dX10_startOrStop_38 : decode cX10_startOrStop 38 = .ok (.iconst 0, 1) := by decide +kernel
theorem dX10_startOrStop_39 : decode cX10_startOrStop 39 = .ok (.putfield 33, 3) := by decide +kernel
theorem dX10_startOrStop_42 : decode cX10_startOrStop 42 = .ok (.return_, 1) := by decide +kernel
theorem dX10_takeBit_0 : decode cX10_takeBit 0 = .ok (.aload_n 0, 1) := by decide +kernel
theorem dX10_takeBit_1 : decode cX10_takeBit 1 = .ok (.getfield 29, 3) := by decide +kernel
theorem dX10_takeBit_4 : decode cX10_takeBit 4 = .ok (.ifCond .ne 4, 3) := by decide +kernel
theorem dX10_takeBit_7 : decode cX10_takeBit 7 = .ok (.return_, 1) := by decide +kernel
theorem dX10_takeBit_8 : decode cX10_takeBit 8 = .ok (.aload_n 0, 1) := by decide +kernel
theorem dX10_takeBit_9 : decode cX10_takeBit 9 = .ok (.getfield 33, 3) := by decide +kernel
theorem dX10_takeBit_12 : decode cX10_takeBit 12 = .ok (.ifCond .ne 13, 3) := by decide +kernel
theorem dX10_takeBit_15 : decode cX10_takeBit 15 = .ok (.aload_n 0, 1) := by decide +kernel
theorem dX10_takeBit_16 : decode cX10_takeBit 16 = .ok (.iload_n 2, 1) := by decide +kernel
theorem dX10_takeBit_17 : decode cX10_takeBit 17 = .ok (.putfield 67, 3) := by decide +kernel
theorem dX10_takeBit_20 : decode cX10_takeBit 20 = .ok (.aload_n 0, 1) := by decide +kernel
theorem dX10_takeBit_21 : decode cX10_takeBit 21 = .ok (.iconst 0, 1) := by decide +kernel
theorem dX10_takeBit_22 : decode cX10_takeBit 22 = .ok (.putfield 70, 3) := by decide +kernel
theorem dX10_takeBit_25 : decode cX10_takeBit 25 = .ok (.aload_n 0, 1) := by decide +kernel
theorem dX10_takeBit_26 : decode cX10_takeBit 26 = .ok (.dup, 1) := by decide +kernel
theorem dX10_takeBit_27 : decode cX10_takeBit 27 = .ok (.getfield 33, 3) := by decide +kernel
theorem dX10_takeBit_30 : decode cX10_takeBit 30 = .ok (.iconst 1, 1) := by decide +kernel
theorem dX10_takeBit_31 : decode cX10_takeBit 31 = .ok (.iadd, 1) := by decide +kernel
theorem dX10_takeBit_32 : decode cX10_takeBit 32 = .ok (.putfield 33, 3) := by decide +kernel
theorem dX10_takeBit_35 : decode cX10_takeBit 35 = .ok (.aload_n 0, 1) := by decide +kernel
theorem dX10_takeBit_36 : decode cX10_takeBit 36 = .ok (.getfield 33, 3) := by decide +kernel
theorem dX10_takeBit_39 : decode cX10_takeBit 39 = .ok (.bipush 8, 2) := by decide +kernel
theorem dX10_takeBit_41 : decode cX10_takeBit 41 = .ok (.if_icmp .gt 18, 3) := by decide +kernel
theorem dX10_takeBit_44 : decode cX10_takeBit 44 = .ok (.aload_n 0, 1) := by decide +kernel
theorem dX10_takeBit_45 : decode cX10_takeBit 45 = .ok (.iconst 2, 1) := by decide +kernel
theorem dX10_takeBit_46 : decode cX10_takeBit 46 = .ok (.aload_n 0, 1) := by decide +kernel
theorem dX10_takeBit_47 : decode cX10_takeBit 47 = .ok (.getfield 70, 3) := by decide +kernel
theorem dX10_takeBit_50 : decode cX10_takeBit 50 = .ok (.imul, 1) := by decide +kernel
theorem dX10_takeBit_51 : decode cX10_takeBit 51 = .ok (.iload_n 1, 1) := by decide +kernel
theorem dX10_takeBit_52 : decode cX10_takeBit 52 = .ok (.iadd, 1) := by decide +kernel
theorem dX10_takeBit_53 : decode cX10_takeBit 53 = .ok (.putfield 70, 3) := by decide +kernel
theorem dX10_takeBit_56 : decode cX10_takeBit 56 = .ok (.goto 26, 3) := by decide +kernel
theorem dX10_takeBit_59 : decode cX10_takeBit 59 = .ok (.aload_n 0, 1) := by decide +kernel
theorem dX10_takeBit_60 : decode cX10_takeBit 60 = .ok (.aload_n 0, 1) := by decide +kernel
theorem dX10_takeBit_61 : decode cX10_takeBit 61 = .ok (.getfield 70, 3) := by decide +kernel
theorem dX10_takeBit_64 : decode cX10_takeBit 64 = .ok (.sipush 256, 3) := by decide +kernel
theorem dX10_takeBit_67 : decode cX10_takeBit 67 = .ok (.iload_n 1, 1) := by decide +kernel
theorem dX10_takeBit_68 : decode cX10_takeBit 68 = .ok (.imul, 1) := by decide +kernel
theorem dX10_takeBit_69 : decode cX10_takeBit 69 = .ok (.iadd, 1) := by decide +kernel
theorem dX10_takeBit_70 : decode cX10_takeBit 70 = .ok (.aload_n 0, 1) := by decide +kernel
theorem dX10_takeBit_71 : decode cX10_takeBit 71 = .ok (.getfield 67, 3) := by decide +kernel
theorem dX10_takeBit_74 : decode cX10_takeBit 74 = .ok (.invokevirtual 56, 3) := by decide +kernel
theorem dX10_takeBit_77 : decode cX10_takeBit 77 = .ok (.aload_n 0, 1) := by decide +kernel
theorem dX10_takeBit_78 : decode cX10_takeBit 78 = .ok (.iconst 0, 1) := by decide +kernel
theorem dX10_takeBit_79 : decode cX10_takeBit 79 = .ok (.putfield 33, 3) := by decide +kernel
theorem dX10_takeBit_82 : decode cX10_takeBit 82 = .ok (.return_, 1) := by decide +kernel
theorem dX10_findFrame_0 : decode cX10_findFrame 0 = .ok (.iload_n 1, 1) := by decide +kernel
theorem dX10_findFrame_1 : decode cX10_findFrame 1 = .ok (.iconst 0, 1) := by decide +kernel
theorem dX10_findFrame_2 : decode cX10_findFrame 2 = .ok (.invokestatic 73, 3) := by decide +kernel
theorem dX10_findFrame_5 : decode cX10_findFrame 5 = .ok (.istore_n 2, 1) := by decide +kernel
theorem dX10_findFrame_6 : decode cX10_findFrame 6 = .ok (.iload_n 2, 1) := by decide +kernel
theorem dX10_findFrame_7 : decode cX10_findFrame 7 = .ok (.aload_n 0, 1) := by decide +kernel
theorem dX10_findFrame_8 : decode cX10_findFrame 8 = .ok (.getfield 22, 3) := by decide +kernel
theorem dX10_findFrame_11 : decode cX10_findFrame 11 = .ok (.if_icmp .ge 19, 3) := by decide +kernel
theorem dX10_findFrame_14 : decode cX10_findFrame 14 = .ok (.aload_n 0, 1) := by decide +kernel
theorem dX10_findFrame_15 : decode cX10_findFrame 15 = .ok (.iload_n 2, 1) := by decide +kernel
theorem dX10_findFrame_16 : decode cX10_findFrame 16 = .ok (.invokevirtual 79, 3) := by decide +kernel
theorem dX10_findFrame_19 : decode cX10_findFrame 19 = .ok (.ifCond .eq 5, 3) := by decide +kernel
theorem dX10_findFrame_22 : decode cX10_findFrame 22 = .ok (.iload_n 2, 1) := by decide +kernel
theorem dX10_findFrame_23 : decode cX10_findFrame 23 = .ok (.ireturn, 1) := by decide +kernel
theorem dX10_findFrame_24 : decode cX10_findFrame 24 = .ok (.iinc 2 1, 3) := by decide +kernel
theorem dX10_findFrame_27 : decode cX10_findFrame 27 = .ok (.goto (-21), 3) := by decide +kernel
theorem dX10_findFrame_30 : decode cX10_findFrame 30 = .ok (.bipush (-4), 2) := by decide +kernel
theorem dX10_findFrame_32 : decode cX10_findFrame 32 = .ok (.ireturn, 1) := by decide +kernel
theorem dX10_lowByte_0 : decode cX10_lowByte 0 = .ok (.aload_n 0, 1) := by decide +kernel
theorem dX10_lowByte_1 : decode cX10_lowByte 1 = .ok (.iload_n 1, 1) := by decide +kernel
theorem dX10_lowByte_2 : decode cX10_lowByte 2 = .ok (.invokevirtual 83, 3) := by decide +kernel
theorem dX10_lowByte_5 : decode cX10_lowByte 5 = .ok (.ifCond .eq 16, 3) := by decide +kernel
theorem dX10_lowByte_8 : decode cX10_lowByte 8 = .ok (.aload_n 0, 1) := by decide +kernel
theorem dX10_lowByte_9 : decode cX10_lowByte 9 = .ok (.getfield 9, 3) := by decide +kernel
theorem dX10_lowByte_12 : decode cX10_lowByte 12 = .ok (.iload_n 1, 1) := by decide +kernel
theorem dX10_lowByte_13 : decode cX10_lowByte 13 = .ok (.iaload, 1) := by decide +kernel
theorem dX10_lowByte_14 : decode cX10_lowByte 14 = .ok (.sipush 255, 3) := by decide +kernel
theorem dX10_lowByte_17 : decode cX10_lowByte 17 = .ok (.iand, 1) := by decide +kernel
theorem dX10_lowByte_18 : decode cX10_lowByte 18 = .ok (.goto 4, 3) := by decide +kernel
theorem dX10_lowByte_21 : decode cX10_lowByte 21 = .ok (.iconst 0, 1) := by decide +kernel
theorem dX10_lowByte_22 : decode cX10_lowByte 22 = .ok (.ireturn, 1) := by decide +kernel
theorem dX10_beginsFrame_0 : decode cX10_beginsFrame 0 = .ok (.aload_n 0, 1) := by decide +kernel
theorem dX10_beginsFrame_1 : decode cX10_beginsFrame 1 = .ok (.iload_n 1, 1) := by decide +kernel
theorem dX10_beginsFrame_2 : decode cX10_beginsFrame 2 = .ok (.iconst 1, 1) := by decide +kernel
theorem dX10_beginsFrame_3 : decode cX10_beginsFrame 3 = .ok (.iadd, 1) := by decide +kernel
theorem dX10_beginsFrame_4 : decode cX10_beginsFrame 4 = .ok (.invokevirtual 86, 3) := by decide +kernel
theorem dX10_beginsFrame_7 : decode cX10_beginsFrame 7 = .ok (.istore_n 2, 1) := by decide +kernel
theorem dX10_beginsFrame_8 : decode cX10_beginsFrame 8 = .ok (.aload_n 0, 1) := by decide +kernel
theorem dX10_beginsFrame_9 : decode cX10_beginsFrame 9 = .ok (.iload_n 1, 1) := by decide +kernel
theorem dX10_beginsFrame_10 : decode cX10_beginsFrame 10 = .ok (.invokevirtual 86, 3) := by decide +kernel
theorem dX10_beginsFrame_13 : decode cX10_beginsFrame 13 = .ok (.bipush 85, 2) := by decide +kernel
theorem dX10_beginsFrame_15 : decode cX10_beginsFrame 15 = .ok (.if_icmp .ne 25, 3) := by decide +kernel
theorem dX10_beginsFrame_18 : decode cX10_beginsFrame 18 = .ok (.iload_n 2, 1) := by decide +kernel
theorem dX10_beginsFrame_19 : decode cX10_beginsFrame 19 = .ok (.iconst 1, 1) := by decide +kernel
theorem dX10_beginsFrame_20 : decode cX10_beginsFrame 20 = .ok (.bipush 8, 2) := by decide +kernel
theorem dX10_beginsFrame_22 : decode cX10_beginsFrame 22 = .ok (.invokestatic 25, 3) := by decide +kernel
theorem dX10_beginsFrame_25 : decode cX10_beginsFrame 25 = .ok (.ifCond .eq 15, 3) := by decide +kernel
theorem dX10_beginsFrame_28 : decode cX10_beginsFrame 28 = .ok (.aload_n 0, 1) := by decide +kernel
theorem dX10_beginsFrame_29 : decode cX10_beginsFrame 29 = .ok (.iload_n 1, 1) := by decide +kernel
theorem dX10_beginsFrame_30 : decode cX10_beginsFrame 30 = .ok (.iload_n 2, 1) := by decide +kernel
theorem dX10_beginsFrame_31 : decode cX10_beginsFrame 31 = .ok (.iadd, 1) := by decide +kernel
theorem dX10_beginsFrame_32 : decode cX10_beginsFrame 32 = .ok (.iconst 2, 1) := by decide +kernel
theorem dX10_beginsFrame_33 : decode cX10_beginsFrame 33 = .ok (.iadd, 1) := by decide +kernel
theorem dX10_beginsFrame_34 : decode cX10_beginsFrame 34 = .ok (.invokevirtual 83, 3) := by decide +kernel
theorem dX10_beginsFrame_37 : decode cX10_beginsFrame 37 = .ok (.ifCond .ne 5, 3) := by decide +kernel
theorem dX10_beginsFrame_40 : decode cX10_beginsFrame 40 = .ok (.iconst 0, 1) := by decide +kernel
theorem dX10_beginsFrame_41 : decode cX10_beginsFrame 41 = .ok (.ireturn, 1) := by decide +kernel
theorem dX10_beginsFrame_42 : decode cX10_beginsFrame 42 = .ok (.iload_n 2, 1) := by decide +kernel
theorem dX10_beginsFrame_43 : decode cX10_beginsFrame 43 = .ok (.istore_n 3, 1) := by decide +kernel
theorem dX10_beginsFrame_44 : decode cX10_beginsFrame 44 = .ok (.iconst 0, 1) := by decide +kernel
theorem dX10_beginsFrame_45 : decode cX10_beginsFrame 45 = .ok (.istore 4, 2) := by decide +kernel
theorem dX10_beginsFrame_47 : decode cX10_beginsFrame 47 = .ok (.iload 4, 2) := by decide +kernel
theorem dX10_beginsFrame_49 : decode cX10_beginsFrame 49 = .ok (.iload_n 2, 1) := by decide +kernel
theorem dX10_beginsFrame_50 : decode cX10_beginsFrame 50 = .ok (.if_icmp .ge 22, 3) := by decide +kernel
theorem dX10_beginsFrame_53 : decode cX10_beginsFrame 53 = .ok (.iload_n 3, 1) := by decide +kernel
theorem dX10_beginsFrame_54 : decode cX10_beginsFrame 54 = .ok (.aload_n 0, 1) := by decide +kernel
theorem dX10_beginsFrame_55 : decode cX10_beginsFrame 55 = .ok (.iload_n 1, 1) := by decide +kernel
theorem dX10_beginsFrame_56 : decode cX10_beginsFrame 56 = .ok (.iconst 2, 1) := by decide +kernel
theorem dX10_beginsFrame_57 : decode cX10_beginsFrame 57 = .ok (.iadd, 1) := by decide +kernel
theorem dX10_beginsFrame_58 : decode cX10_beginsFrame 58 = .ok (.iload 4, 2) := by decide +kernel
theorem dX10_beginsFrame_60 : decode cX10_beginsFrame 60 = .ok (.iadd, 1) := by decide +kernel
theorem dX10_beginsFrame_61 : decode cX10_beginsFrame 61 = .ok (.invokevirtual 86, 3) := by decide +kernel
theorem dX10_beginsFrame_64 : decode cX10_beginsFrame 64 = .ok (.iadd, 1) := by decide +kernel
theorem dX10_beginsFrame_65 : decode cX10_beginsFrame 65 = .ok (.istore_n 3, 1) := by decide +kernel
theorem dX10_beginsFrame_66 : decode cX10_beginsFrame 66 = .ok (.iinc 4 1, 3) := by decide +kernel
theorem dX10_beginsFrame_69 : decode cX10_beginsFrame 69 = .ok (.goto (-22), 3) := by decide +kernel
theorem dX10_beginsFrame_72 : decode cX10_beginsFrame 72 = .ok (.aload_n 0, 1) := by decide +kernel
theorem dX10_beginsFrame_73 : decode cX10_beginsFrame 73 = .ok (.iload_n 1, 1) := by decide +kernel
theorem dX10_beginsFrame_74 : decode cX10_beginsFrame 74 = .ok (.iload_n 2, 1) := by decide +kernel
theorem dX10_beginsFrame_75 : decode cX10_beginsFrame 75 = .ok (.iadd, 1) := by decide +kernel
theorem dX10_beginsFrame_76 : decode cX10_beginsFrame 76 = .ok (.iconst 2, 1) := by decide +kernel
theorem dX10_beginsFrame_77 : decode cX10_beginsFrame 77 = .ok (.iadd, 1) := by decide +kernel
theorem dX10_beginsFrame_78 : decode cX10_beginsFrame 78 = .ok (.invokevirtual 86, 3) := by decide +kernel
theorem dX10_beginsFrame_81 : decode cX10_beginsFrame 81 = .ok (.iload_n 3, 1) := by decide +kernel
theorem dX10_beginsFrame_82 : decode cX10_beginsFrame 82 = .ok (.sipush 255, 3) := by decide +kernel
theorem dX10_beginsFrame_85 : decode cX10_beginsFrame 85 = .ok (.iand, 1) := by decide +kernel
theorem dX10_beginsFrame_86 : decode cX10_beginsFrame 86 = .ok (.if_icmp .ne 7, 3) := by decide +kernel
theorem dX10_beginsFrame_89 : decode cX10_beginsFrame 89 = .ok (.iconst 1, 1) := by decide +kernel
theorem dX10_beginsFrame_90 : decode cX10_beginsFrame 90 = .ok (.goto 4, 3) := by decide +kernel
theorem dX10_beginsFrame_93 : decode cX10_beginsFrame 93 = .ok (.iconst 0, 1) := by decide +kernel
theorem dX10_beginsFrame_94 : decode cX10_beginsFrame 94 = .ok (.ireturn, 1) := by decide +kernel
theorem dX11_init_0 : decode cX11_init 0 = .ok (.aload_n 0, 1) := by decide +kernel
theorem dX11_init_1 : decode cX11_init 1 = .ok (.invokespecial 3, 3) := by decide +kernel
theorem dX11_init_4 : decode cX11_init 4 = .ok (.aload_n 0, 1) := by decide +kernel
theorem dX11_init_5 : decode cX11_init 5 = .ok (.new 9, 3) := by decide +kernel
theorem dX11_init_8 : decode cX11_init 8 = .ok (.dup, 1) := by decide +kernel
theorem dX11_init_9 : decode cX11_init 9 = .ok (.invokespecial 11, 3) := by decide +kernel
theorem dX11_init_12 : decode cX11_init 12 = .ok (.putfield 12, 3) := by decide +kernel
theorem dX11_init_15 : decode cX11_init 15 = .ok (.aload_n 0, 1) := by decide +kernel
theorem dX11_init_16 : decode cX11_init 16 = .ok (.new 16, 3) := by decide +kernel
theorem dX11_init_19 : decode cX11_init 19 = .ok (.dup, 1) := by decide +kernel
theorem dX11_init_20 : decode cX11_init 20 = .ok (.aload_n 0, 1) := by decide +kernel
theorem dX11_init_21 : decode cX11_init 21 = .ok (.getfield 12, 3) := by decide +kernel
theorem dX11_init_24 : decode cX11_init 24 = .ok (.invokespecial 18, 3) := by decide +kernel
theorem dX11_init_27 : decode cX11_init 27 = .ok (.putfield 21, 3) := by decide +kernel
theorem dX11_init_30 : decode cX11_init 30 = .ok (.aload_n 0, 1) := by decide +kernel
theorem dX11_init_31 : decode cX11_init 31 = .ok (.new 25, 3) := by decide +kernel
theorem dX11_init_34 : decode cX11_init 34 = .ok (.dup, 1) := by decide +kernel
theorem dX11_init_35 : decode cX11_init 35 = .ok (.invokespecial 27, 3) := by decide +kernel
theorem dX11_init_38 : decode cX11_init 38 = .ok (.putfield 28, 3) := by decide +kernel
theorem dX11_init_41 : decode cX11_init 41 = .ok (.aload_n 0, 1) := by decide +kernel
theorem dX11_init_42 : decode cX11_init 42 = .ok (.iconst 4, 1) := by decide +kernel
theorem dX11_init_43 : decode cX11_init 43 = .ok (.anewarray 32, 3) := by decide +kernel
theorem dX11_init_46 : decode cX11_init 46 = .ok (.putfield 34, 3) := by decide +kernel
theorem dX11_init_49 : decode cX11_init 49 = .ok (.iconst 0, 1) := by decide +kernel
theorem dX11_init_50 : decode cX11_init 50 = .ok (.istore_n 1, 1) := by decide +kernel
theorem dX11_init_51 : decode cX11_init 51 = .ok (.iload_n 1, 1) := by decide +kernel
theorem dX11_init_52 : decode cX11_init 52 = .ok (.iconst 4, 1) := by decide +kernel
theorem dX11_init_53 : decode cX11_init 53 = .ok (.if_icmp .ge 22, 3) := by decide +kernel
theorem dX11_init_56 : decode cX11_init 56 = .ok (.aload_n 0, 1) := by decide +kernel
theorem dX11_init_57 : decode cX11_init 57 = .ok (.getfield 34, 3) := by decide +kernel
theorem dX11_init_60 : decode cX11_init 60 = .ok (.iload_n 1, 1) := by decide +kernel
theorem dX11_init_61 : decode cX11_init 61 = .ok (.new 32, 3) := by decide +kernel
theorem dX11_init_64 : decode cX11_init 64 = .ok (.dup, 1) := by decide +kernel
theorem dX11_init_65 : decode cX11_init 65 = .ok (.invokespecial 38, 3) := by decide +kernel
theorem dX11_init_68 : decode cX11_init 68 = .ok (.aastore, 1) := by decide +kernel
theorem dX11_init_69 : decode cX11_init 69 = .ok (.iinc 1 1, 3) := by decide +kernel
theorem dX11_init_72 : decode cX11_init 72 = .ok (.goto (-21), 3) := by decide +kernel
theorem dX11_init_75 : decode cX11_init 75 = .ok (.aload_n 0, 1) := by decide +kernel
theorem dX11_init_76 : decode cX11_init 76 = .ok (.iconst 4, 1) := by decide +kernel
theorem dX11_init_77 : decode cX11_init 77 = .ok (.anewarray 39, 3) := by decide +kernel
theorem dX11_init_80 : decode cX11_init 80 = .ok (.putfield 41, 3) := by decide +kernel
theorem dX11_init_83 : decode cX11_init 83 = .ok (.iconst 0, 1) := by decide +kernel
theorem dX11_init_84 : decode cX11_init 84 = .ok (.istore_n 1, 1) := by decide +kernel
theorem dX11_init_85 : decode cX11_init 85 = .ok (.iload_n 1, 1) := by decide +kernel
theorem dX11_init_86 : decode cX11_init 86 = .ok (.iconst 4, 1) := by decide +kernel
theorem dX11_init_87 : decode cX11_init 87 = .ok (.if_icmp .ge 22, 3) := by decide +kernel
theorem dX11_init_90 : decode cX11_init 90 = .ok (.aload_n 0, 1) := by decide +kernel
theorem dX11_init_91 : decode cX11_init 91 = .ok (.getfield 41, 3) := by decide +kernel
theorem dX11_init_94 : decode cX11_init 94 = .ok (.iload_n 1, 1) := by decide +kernel
theorem dX11_init_95 : decode cX11_init 95 = .ok (.new 39, 3) := by decide +kernel
theorem dX11_init_98 : decode cX11_init 98 = .ok (.dup, 1) := by decide +kernel
theorem dX11_init_99 : decode cX11_init 99 = .ok (.invokespecial 45, 3) := by decide +kernel
theorem dX11_init_102 : decode cX11_init 102 = .ok (.aastore, 1) := by decide +kernel
theorem dX11_init_103 : decode cX11_init 103 = .ok (.iinc 1 1, 3) := by decide +kernel
theorem dX11_init_106 : decode cX11_init 106 = .ok (.goto (-21), 3) := by decide +kernel
theorem dX11_init_109 : decode cX11_init 109 = .ok (.aload_n 0, 1) := by decide +kernel
theorem dX11_init_110 : decode cX11_init 110 = .ok (.new 46, 3) := by decide +kernel
theorem dX11_init_113 : decode cX11_init 113 = .ok (.dup, 1) := by decide +kernel
theorem dX11_init_114 : decode cX11_init 114 = .ok (.invokespecial 48, 3) := by decide +kernel
theorem dX11_init_117 : decode cX11_init 117 = .ok (.putfield 49, 3) := by decide +kernel
theorem dX11_init_120 : decode cX11_init 120 = .ok (.aload_n 0, 1) := by decide +kernel
theorem dX11_init_121 : decode cX11_init 121 = .ok (.bipush (-4), 2) := by decide +kernel
theorem dX11_init_123 : decode cX11_init 123 = .ok (.putfield 53, 3) := by decide +kernel
theorem dX11_init_126 : decode cX11_init 126 = .ok (.return_, 1) := by decide +kernel
theorem dX11_feed_0 : decode cX11_feed 0 = .ok (.aload_n 0, 1) := by decide +kernel
theorem dX11_feed_1 : decode cX11_feed 1 = .ok (.getfield 12, 3) := by decide +kernel
theorem dX11_feed_4 : decode cX11_feed 4 = .ok (.lload_n 1, 1) := by decide +kernel
theorem dX11_feed_5 : decode cX11_feed 5 = .ok (.invokevirtual 57, 3) := by decide +kernel
theorem dX11_feed_8 : decode cX11_feed 8 = .ok (.ifCond .eq 13, 3) := by decide +kernel
theorem dX11_feed_11 : decode cX11_feed 11 = .ok (.aload_n 0, 1) := by decide +kernel
theorem dX11_feed_12 : decode cX11_feed 12 = .ok (.getfield 12, 3) := by decide +kernel
theorem dX11_feed_15 : decode cX11_feed 15 = .ok (.getfield 61, 3) := by decide +kernel
theorem dX11_feed_18 : decode cX11_feed 18 = .ok (.goto 5, 3) := by decide +kernel
theorem dX11_feed_21 : decode cX11_feed 21 = .ok (.bipush (-3), 2) := by decide +kernel
theorem dX11_feed_23 : decode cX11_feed 23 = .ok (.ireturn, 1) := by decide +kernel
theorem dX11_end_0 : decode cX11_end 0 = .ok (.aload_n 0, 1) := by decide +kernel
theorem dX11_end_1 : decode cX11_end 1 = .ok (.getfield 12, 3) := by decide +kernel
theorem dX11_end_4 : decode cX11_end 4 = .ok (.getfield 61, 3) := by decide +kernel
theorem dX11_end_7 : decode cX11_end 7 = .ok (.istore_n 2, 1) := by decide +kernel
theorem dX11_end_8 : decode cX11_end 8 = .ok (.aload_n 0, 1) := by decide +kernel
theorem dX11_end_9 : decode cX11_end 9 = .ok (.getfield 12, 3) := by decide +kernel
theorem dX11_end_12 : decode cX11_end 12 = .ok (.iload_n 1, 1) := by decide +kernel
theorem dX11_end_13 : decode cX11_end 13 = .ok (.invokevirtual 64, 3) := by decide +kernel
theorem dX11_end_16 : decode cX11_end 16 = .ok (.ifCond .eq 7, 3) := by decide +kernel
theorem dX11_end_19 : decode cX11_end 19 = .ok (.iload_n 2, 1) := by decide +kernel
theorem dX11_end_20 : decode cX11_end 20 = .ok (.goto 4, 3) := by decide +kernel
theorem dX11_end_23 : decode cX11_end 23 = .ok (.iconst (-1), 1) := by decide +kernel
theorem dX11_end_24 : decode cX11_end 24 = .ok (.ireturn, 1) := by decide +kernel
theorem dX11_trigger_0 : decode cX11_trigger 0 = .ok (.aload_n 0, 1) := by decide +kernel
theorem dX11_trigger_1 : decode cX11_trigger 1 = .ok (.getfield 12, 3) := by decide +kernel
theorem dX11_trigger_4 : decode cX11_trigger 4 = .ok (.invokevirtual 68, 3) := by decide +kernel
theorem dX11_trigger_7 : decode cX11_trigger 7 = .ok (.aload_n 0, 1) := by decide +kernel
theorem dX11_trigger_8 : decode cX11_trigger 8 = .ok (.getfield 21, 3) := by decide +kernel
theorem dX11_trigger_11 : decode cX11_trigger 11 = .ok (.aload_n 0, 1) := by decide +kernel
theorem dX11_trigger_12 : decode cX11_trigger 12 = .ok (.getfield 28, 3) := by decide +kernel
theorem dX11_trigger_15 : decode cX11_trigger 15 = .ok (.getfield 71, 3) := by decide +kernel
theorem dX11_trigger_18 : decode cX11_trigger 18 = .ok (.invokevirtual 75, 3) := by decide +kernel
theorem dX11_trigger_21 : decode cX11_trigger 21 = .ok (.istore_n 1, 1) := by decide +kernel
theorem dX11_trigger_22 : decode cX11_trigger 22 = .ok (.aload_n 0, 1) := by decide +kernel
theorem dX11_trigger_23 : decode cX11_trigger 23 = .ok (.getfield 12, 3) := by decide +kernel
theorem dX11_trigger_26 : decode cX11_trigger 26 = .ok (.iconst 0, 1) := by decide +kernel
theorem dX11_trigger_27 : decode cX11_trigger 27 = .ok (.invokevirtual 64, 3) := by decide +kernel
theorem dX11_trigger_30 : decode cX11_trigger 30 = .ok (.pop, 1) := by decide +kernel
theorem dX11_trigger_31 : decode cX11_trigger 31 = .ok (.iload_n 1, 1) := by decide +kernel
theorem dX11_trigger_32 : decode cX11_trigger 32 = .ok (.ifCond .ne 14, 3) := by decide +kernel
theorem dX11_trigger_35 : decode cX11_trigger 35 = .ok (.bipush (-10), 2) := by decide +kernel
theorem dX11_trigger_37 : decode cX11_trigger 37 = .ok (.aload_n 0, 1) := by decide +kernel
theorem dX11_trigger_38 : decode cX11_trigger 38 = .ok (.getfield 21, 3) := by decide +kernel
theorem dX11_trigger_41 : decode cX11_trigger 41 = .ok (.getfield 79, 3) := by decide +kernel
theorem dX11_trigger_44 : decode cX11_trigger 44 = .ok (.isub, 1) := by decide +kernel
theorem dX11_trigger_45 : decode cX11_trigger 45 = .ok (.ireturn, 1) := by decide +kernel
theorem dX11_trigger_46 : decode cX11_trigger 46 = .ok (.aload_n 0, 1) := by decide +kernel
theorem dX11_trigger_47 : decode cX11_trigger 47 = .ok (.getfield 28, 3) := by decide +kernel
theorem dX11_trigger_50 : decode cX11_trigger 50 = .ok (.invokevirtual 82, 3) := by decide +kernel
theorem dX11_trigger_53 : decode cX11_trigger 53 = .ok (.aload_n 0, 1) := by decide +kernel
theorem dX11_trigger_54 : decode cX11_trigger 54 = .ok (.getfield 28, 3) := by decide +kernel
theorem dX11_trigger_57 : decode cX11_trigger 57 = .ok (.getfield 85, 3) := by decide +kernel
theorem dX11_trigger_60 : decode cX11_trigger 60 = .ok (.getfield 88, 3) := by decide +kernel
theorem dX11_trigger_63 : decode cX11_trigger 63 = .ok (.ireturn, 1) := by decide +kernel
theorem dX11_fault_0 : decode cX11_fault 0 = .ok (.aload_n 0, 1) := by decide +kernel
theorem dX11_fault_1 : decode cX11_fault 1 = .ok (.getfield 21, 3) := by decide +kernel
theorem dX11_fault_4 : decode cX11_fault 4 = .ok (.getfield 93, 3) := by decide +kernel
theorem dX11_fault_7 : decode cX11_fault 7 = .ok (.ireturn, 1) := by decide +kernel
theorem dX11_keep_0 : decode cX11_keep 0 = .ok (.iload_n 1, 1) := by decide +kernel
theorem dX11_keep_1 : decode cX11_keep 1 = .ok (.iconst 0, 1) := by decide +kernel
theorem dX11_keep_2 : decode cX11_keep 2 = .ok (.bipush 100, 2) := by decide +kernel
theorem dX11_keep_4 : decode cX11_keep 4 = .ok (.invokestatic 96, 3) := by decide +kernel
theorem dX11_keep_7 : decode cX11_keep 7 = .ok (.ifCond .eq 13, 3) := by decide +kernel
theorem dX11_keep_10 : decode cX11_keep 10 = .ok (.iload_n 2, 1) := by decide +kernel
theorem dX11_keep_11 : decode cX11_keep 11 = .ok (.iconst 0, 1) := by decide +kernel
theorem dX11_keep_12 : decode cX11_keep 12 = .ok (.bipush 100, 2) := by decide +kernel
theorem dX11_keep_14 : decode cX11_keep 14 = .ok (.invokestatic 96, 3) := by decide +kernel
theorem dX11_keep_17 : decode cX11_keep 17 = .ok (.ifCond .ne 5, 3) := by decide +kernel
theorem dX11_keep_20 : decode cX11_keep 20 = .ok (.iconst (-1), 1) := by decide +kernel
theorem dX11_keep_21 : decode cX11_keep 21 = .ok (.ireturn, 1) := by decide +kernel
theorem dX11_keep_22 : decode cX11_keep 22 = .ok (.aload_n 0, 1) := by decide +kernel
theorem dX11_keep_23 : decode cX11_keep 23 = .ok (.getfield 28, 3) := by decide +kernel
theorem dX11_keep_26 : decode cX11_keep 26 = .ok (.getfield 100, 3) := by decide +kernel
theorem dX11_keep_29 : decode cX11_keep 29 = .ok (.iconst 1, 1) := by decide +kernel
theorem dX11_keep_30 : decode cX11_keep 30 = .ok (.if_icmp .eq 14, 3) := by decide +kernel
theorem dX11_keep_33 : decode cX11_keep 33 = .ok (.aload_n 0, 1) := by decide +kernel
theorem dX11_keep_34 : decode cX11_keep 34 = .ok (.getfield 28, 3) := by decide +kernel
theorem dX11_keep_37 : decode cX11_keep 37 = .ok (.getfield 100, 3) := by decide +kernel
theorem dX11_keep_40 : decode cX11_keep 40 = .ok (.iconst 2, 1) := by decide +kernel
theorem dX11_keep_41 : decode cX11_keep 41 = .ok (.if_icmp .ne 6, 3) := by decide +kernel
theorem dX11_keep_44 : decode cX11_keep 44 = .ok (.bipush (-2), 2) := by decide +kernel
theorem dX11_keep_46 : decode cX11_keep 46 = .ok (.ireturn, 1) := by decide +kernel
theorem dX11_keep_47 : decode cX11_keep 47 = .ok (.aload_n 0, 1) := by decide +kernel
theorem dX11_keep_48 : decode cX11_keep 48 = .ok (.getfield 28, 3) := by decide +kernel
theorem dX11_keep_51 : decode cX11_keep 51 = .ok (.iload_n 1, 1) := by decide +kernel
theorem dX11_keep_52 : decode cX11_keep 52 = .ok (.putfield 103, 3) := by decide +kernel
theorem dX11_keep_55 : decode cX11_keep 55 = .ok (.aload_n 0, 1) := by decide +kernel
theorem dX11_keep_56 : decode cX11_keep 56 = .ok (.getfield 28, 3) := by decide +kernel
theorem dX11_keep_59 : decode cX11_keep 59 = .ok (.iload_n 2, 1) := by decide +kernel
theorem dX11_keep_60 : decode cX11_keep 60 = .ok (.putfield 106, 3) := by decide +kernel
theorem dX11_keep_63 : decode cX11_keep 63 = .ok (.iconst 1, 1) := by decide +kernel
theorem dX11_keep_64 : decode cX11_keep 64 = .ok (.ireturn, 1) := by decide +kernel
theorem dX11_arm_0 : decode cX11_arm 0 = .ok (.aload_n 0, 1) := by decide +kernel
theorem dX11_arm_1 : decode cX11_arm 1 = .ok (.getfield 28, 3) := by decide +kernel
theorem dX11_arm_4 : decode cX11_arm 4 = .ok (.getfield 85, 3) := by decide +kernel
theorem dX11_arm_7 : decode cX11_arm 7 = .ok (.getfield 88, 3) := by decide +kernel
theorem dX11_arm_10 : decode cX11_arm 10 = .ok (.ifCond .ne 6, 3) := by decide +kernel
theorem dX11_arm_13 : decode cX11_arm 13 = .ok (.bipush (-2), 2) := by decide +kernel
theorem dX11_arm_15 : decode cX11_arm 15 = .ok (.ireturn, 1) := by decide +kernel
theorem dX11_arm_16 : decode cX11_arm 16 = .ok (.aload_n 0, 1) := by decide +kernel
theorem dX11_arm_17 : decode cX11_arm 17 = .ok (.getfield 28, 3) := by decide +kernel
theorem dX11_arm_20 : decode cX11_arm 20 = .ok (.getfield 109, 3) := by decide +kernel
theorem dX11_arm_23 : decode cX11_arm 23 = .ok (.invokevirtual 113, 3) := by decide +kernel
theorem dX11_arm_26 : decode cX11_arm 26 = .ok (.ifCond .eq 6, 3) := by decide +kernel
theorem dX11_arm_29 : decode cX11_arm 29 = .ok (.bipush (-3), 2) := by decide +kernel
theorem dX11_arm_31 : decode cX11_arm 31 = .ok (.ireturn, 1) := by decide +kernel
theorem dX11_arm_32 : decode cX11_arm 32 = .ok (.aload_n 0, 1) := by decide +kernel
theorem dX11_arm_33 : decode cX11_arm 33 = .ok (.getfield 28, 3) := by decide +kernel
theorem dX11_arm_36 : decode cX11_arm 36 = .ok (.invokevirtual 119, 3) := by decide +kernel
theorem dX11_arm_39 : decode cX11_arm 39 = .ok (.iconst 1, 1) := by decide +kernel
theorem dX11_arm_40 : decode cX11_arm 40 = .ok (.ireturn, 1) := by decide +kernel
theorem dX11_come_0 : decode cX11_come 0 = .ok (.aload_n 0, 1) := by decide +kernel
theorem dX11_come_1 : decode cX11_come 1 = .ok (.getfield 28, 3) := by decide +kernel
theorem dX11_come_4 : decode cX11_come 4 = .ok (.lload_n 1, 1) := by decide +kernel
theorem dX11_come_5 : decode cX11_come 5 = .ok (.bipush 32, 2) := by decide +kernel
theorem dX11_come_7 : decode cX11_come 7 = .ok (.lshr, 1) := by decide +kernel
theorem dX11_come_8 : decode cX11_come 8 = .ok (.l2i, 1) := by decide +kernel
theorem dX11_come_9 : decode cX11_come 9 = .ok (.invokevirtual 122, 3) := by decide +kernel
theorem dX11_come_12 : decode cX11_come 12 = .ok (.aload_n 0, 1) := by decide +kernel
theorem dX11_come_13 : decode cX11_come 13 = .ok (.getfield 28, 3) := by decide +kernel
theorem dX11_come_16 : decode cX11_come 16 = .ok (.lload_n 1, 1) := by decide +kernel
theorem dX11_come_17 : decode cX11_come 17 = .ok (.l2i, 1) := by decide +kernel
theorem dX11_come_18 : decode cX11_come 18 = .ok (.invokevirtual 122, 3) := by decide +kernel
theorem dX11_come_21 : decode cX11_come 21 = .ok (.aload_n 0, 1) := by decide +kernel
theorem dX11_come_22 : decode cX11_come 22 = .ok (.getfield 28, 3) := by decide +kernel
theorem dX11_come_25 : decode cX11_come 25 = .ok (.getfield 109, 3) := by decide +kernel
theorem dX11_come_28 : decode cX11_come 28 = .ok (.getfield 126, 3) := by decide +kernel
theorem dX11_come_31 : decode cX11_come 31 = .ok (.ireturn, 1) := by decide +kernel
theorem dX11_play_0 : decode cX11_play 0 = .ok (.iload_n 1, 1) := by decide +kernel
theorem dX11_play_1 : decode cX11_play 1 = .ok (.iconst 0, 1) := by decide +kernel
theorem dX11_play_2 : decode cX11_play 2 = .ok (.iconst 3, 1) := by decide +kernel
theorem dX11_play_3 : decode cX11_play 3 = .ok (.invokestatic 96, 3) := by decide +kernel
theorem dX11_play_6 : decode cX11_play 6 = .ok (.ifCond .eq 21, 3) := by decide +kernel
theorem dX11_play_9 : decode cX11_play 9 = .ok (.iload_n 2, 1) := by decide +kernel
theorem dX11_play_10 : decode cX11_play 10 = .ok (.invokestatic 127, 3) := by decide +kernel
theorem dX11_play_13 : decode cX11_play 13 = .ok (.ifCond .eq 14, 3) := by decide +kernel
theorem dX11_play_16 : decode cX11_play 16 = .ok (.iload 4, 2) := by decide +kernel
theorem dX11_play_18 : decode cX11_play 18 = .ok (.iconst 0, 1) := by decide +kernel
theorem dX11_play_19 : decode cX11_play 19 = .ok (.bipush 64, 2) := by decide +kernel
theorem dX11_play_21 : decode cX11_play 21 = .ok (.invokestatic 96, 3) := by decide +kernel
theorem dX11_play_24 : decode cX11_play 24 = .ok (.ifCond .ne 5, 3) := by decide +kernel
theorem dX11_play_27 : decode cX11_play 27 = .ok (.iconst (-1), 1) := by decide +kernel
theorem dX11_play_28 : decode cX11_play 28 = .ok (.ireturn, 1) := by decide +kernel
theorem dX11_play_29 : decode cX11_play 29 = .ok (.aload_n 0, 1) := by decide +kernel
theorem dX11_play_30 : decode cX11_play 30 = .ok (.getfield 41, 3) := by decide +kernel
theorem dX11_play_33 : decode cX11_play 33 = .ok (.iload_n 1, 1) := by decide +kernel
theorem dX11_play_34 : decode cX11_play 34 = .ok (.aaload, 1) := by decide +kernel
theorem dX11_play_35 : decode cX11_play 35 = .ok (.astore 5, 2) := by decide +kernel
theorem dX11_play_37 : decode cX11_play 37 = .ok (.aload 5, 2) := by decide +kernel
theorem dX11_play_39 : decode cX11_play 39 = .ok (.getfield 130, 3) := by decide +kernel
theorem dX11_play_42 : decode cX11_play 42 = .ok (.ifCond .eq 19, 3) := by decide +kernel
theorem dX11_play_45 : decode cX11_play 45 = .ok (.iload_n 3, 1) := by decide +kernel
theorem dX11_play_46 : decode cX11_play 46 = .ok (.iconst 0, 1) := by decide +kernel
theorem dX11_play_47 : decode cX11_play 47 = .ok (.aload 5, 2) := by decide +kernel
theorem dX11_play_49 : decode cX11_play 49 = .ok (.getfield 130, 3) := by decide +kernel
theorem dX11_play_52 : decode cX11_play 52 = .ok (.iload 4, 2) := by decide +kernel
theorem dX11_play_54 : decode cX11_play 54 = .ok (.isub, 1) := by decide +kernel
theorem dX11_play_55 : decode cX11_play 55 = .ok (.invokestatic 96, 3) := by decide +kernel
theorem dX11_play_58 : decode cX11_play 58 = .ok (.ifCond .ne 5, 3) := by decide +kernel
theorem dX11_play_61 : decode cX11_play 61 = .ok (.iconst (-1), 1) := by decide +kernel
theorem dX11_play_62 : decode cX11_play 62 = .ok (.ireturn, 1) := by decide +kernel
theorem dX11_play_63 : decode cX11_play 63 = .ok (.iconst 0, 1) := by decide +kernel
theorem dX11_play_64 : decode cX11_play 64 = .ok (.istore 6, 2) := by decide +kernel
theorem dX11_play_66 : decode cX11_play 66 = .ok (.iload 6, 2) := by decide +kernel
theorem dX11_play_68 : decode cX11_play 68 = .ok (.iload 4, 2) := by decide +kernel
theorem dX11_play_70 : decode cX11_play 70 = .ok (.if_icmp .ge 30, 3) := by decide +kernel
theorem dX11_play_73 : decode cX11_play 73 = .ok (.aload_n 0, 1) := by decide +kernel
theorem dX11_play_74 : decode cX11_play 74 = .ok (.getfield 28, 3) := by decide +kernel
theorem dX11_play_77 : decode cX11_play 77 = .ok (.iload_n 2, 1) := by decide +kernel
theorem dX11_play_78 : decode cX11_play 78 = .ok (.aload 5, 2) := by decide +kernel
theorem dX11_play_80 : decode cX11_play 80 = .ok (.iload_n 3, 1) := by decide +kernel
theorem dX11_play_81 : decode cX11_play 81 = .ok (.iload 6, 2) := by decide +kernel
theorem dX11_play_83 : decode cX11_play 83 = .ok (.iadd, 1) := by decide +kernel
theorem dX11_play_84 : decode cX11_play 84 = .ok (.invokevirtual 131, 3) := by decide +kernel
theorem dX11_play_87 : decode cX11_play 87 = .ok (.l2i, 1) := by decide +kernel
theorem dX11_play_88 : decode cX11_play 88 = .ok (.invokestatic 135, 3) := by decide +kernel
theorem dX11_play_91 : decode cX11_play 91 = .ok (.invokevirtual 122, 3) := by decide +kernel
theorem dX11_play_94 : decode cX11_play 94 = .ok (.iinc 6 1, 3) := by decide +kernel
theorem dX11_play_97 : decode cX11_play 97 = .ok (.goto (-31), 3) := by decide +kernel
theorem dX11_play_100 : decode cX11_play 100 = .ok (.aload_n 0, 1) := by decide +kernel
theorem dX11_play_101 : decode cX11_play 101 = .ok (.getfield 28, 3) := by decide +kernel
theorem dX11_play_104 : decode cX11_play 104 = .ok (.getfield 109, 3) := by decide +kernel
theorem dX11_play_107 : decode cX11_play 107 = .ok (.getfield 126, 3) := by decide +kernel
theorem dX11_play_110 : decode cX11_play 110 = .ok (.ireturn, 1) := by decide +kernel
theorem dX11_sample_0 : decode cX11_sample 0 = .ok (.iload_n 2, 1) := by decide +kernel
theorem dX11_sample_1 : decode cX11_sample 1 = .ok (.invokestatic 127, 3) := by decide +kernel
theorem dX11_sample_4 : decode cX11_sample 4 = .ok (.ifCond .eq 17, 3) := by decide +kernel
theorem dX11_sample_7 : decode cX11_sample 7 = .ok (.aload_n 0, 1) := by decide +kernel
theorem dX11_sample_8 : decode cX11_sample 8 = .ok (.getfield 28, 3) := by decide +kernel
theorem dX11_sample_11 : decode cX11_sample 11 = .ok (.getfield 139, 3) := by decide +kernel
theorem dX11_sample_14 : decode cX11_sample 14 = .ok (.iload_n 1, 1) := by decide +kernel
theorem dX11_sample_15 : decode cX11_sample 15 = .ok (.invokevirtual 143, 3) := by decide +kernel
theorem dX11_sample_18 : decode cX11_sample 18 = .ok (.ifCond .ne 7, 3) := by decide +kernel
theorem dX11_sample_21 : decode cX11_sample 21 = .ok (.sipush 1000, 3) := by decide +kernel
theorem dX11_sample_24 : decode cX11_sample 24 = .ok (.ireturn, 1) := by decide +kernel
theorem dX11_sample_25 : decode cX11_sample 25 = .ok (.iload_n 2, 1) := by decide +kernel
theorem dX11_sample_26 : decode cX11_sample 26 = .ok (.aload_n 0, 1) := by decide +kernel
theorem dX11_sample_27 : decode cX11_sample 27 = .ok (.getfield 28, 3) := by decide +kernel
theorem dX11_sample_30 : decode cX11_sample 30 = .ok (.getfield 139, 3) := by decide +kernel
theorem dX11_sample_33 : decode cX11_sample 33 = .ok (.iload_n 1, 1) := by decide +kernel
theorem dX11_sample_34 : decode cX11_sample 34 = .ok (.invokevirtual 148, 3) := by decide +kernel
theorem dX11_sample_37 : decode cX11_sample 37 = .ok (.invokestatic 152, 3) := by decide +kernel
theorem dX11_sample_40 : decode cX11_sample 40 = .ok (.ireturn, 1) := by decide +kernel
theorem dX11_told_0 : decode cX11_told 0 = .ok (.iload_n 1, 1) := by decide +kernel
theorem dX11_told_1 : decode cX11_told 1 = .ok (.iconst 1, 1) := by decide +kernel
theorem dX11_told_2 : decode cX11_told 2 = .ok (.iconst 3, 1) := by decide +kernel
theorem dX11_told_3 : decode cX11_told 3 = .ok (.invokestatic 96, 3) := by decide +kernel
theorem dX11_told_6 : decode cX11_told 6 = .ok (.ifCond .eq 17, 3) := by decide +kernel
theorem dX11_told_9 : decode cX11_told 9 = .ok (.aload_n 0, 1) := by decide +kernel
theorem dX11_told_10 : decode cX11_told 10 = .ok (.getfield 28, 3) := by decide +kernel
theorem dX11_told_13 : decode cX11_told 13 = .ok (.getfield 100, 3) := by decide +kernel
theorem dX11_told_16 : decode cX11_told 16 = .ok (.iconst 1, 1) := by decide +kernel
theorem dX11_told_17 : decode cX11_told 17 = .ok (.if_icmp .eq 6, 3) := by decide +kernel
theorem dX11_told_20 : decode cX11_told 20 = .ok (.bipush (-4), 2) := by decide +kernel
theorem dX11_told_22 : decode cX11_told 22 = .ok (.ireturn, 1) := by decide +kernel
theorem dX11_told_23 : decode cX11_told 23 = .ok (.iload_n 1, 1) := by decide +kernel
theorem dX11_told_24 : decode cX11_told 24 = .ok (.tableswitch 145 0 9 #[56, 64, 72, 80, 88, 99, 110, 118, 126, 137], 56) := by decide +kernel
theorem dX11_told_80 : decode cX11_told 80 = .ok (.aload_n 0, 1) := by decide +kernel
theorem dX11_told_81 : decode cX11_told 81 = .ok (.getfield 28, 3) := by decide +kernel
theorem dX11_told_84 : decode cX11_told 84 = .ok (.getfield 100, 3) := by decide +kernel
theorem dX11_told_87 : decode cX11_told 87 = .ok (.ireturn, 1) := by decide +kernel
theorem dX11_told_88 : decode cX11_told 88 = .ok (.aload_n 0, 1) := by decide +kernel
theorem dX11_told_89 : decode cX11_told 89 = .ok (.getfield 28, 3) := by decide +kernel
theorem dX11_told_92 : decode cX11_told 92 = .ok (.getfield 155, 3) := by decide +kernel
theorem dX11_told_95 : decode cX11_told 95 = .ok (.ireturn, 1) := by decide +kernel
theorem dX11_told_96 : decode cX11_told 96 = .ok (.aload_n 0, 1) := by decide +kernel
theorem dX11_told_97 : decode cX11_told 97 = .ok (.getfield 28, 3) := by decide +kernel
theorem dX11_told_100 : decode cX11_told 100 = .ok (.getfield 158, 3) := by decide +kernel
theorem dX11_told_103 : decode cX11_told 103 = .ok (.ireturn, 1) := by decide +kernel
theorem dX11_told_104 : decode cX11_told 104 = .ok (.aload_n 0, 1) := by decide +kernel
theorem dX11_told_105 : decode cX11_told 105 = .ok (.getfield 28, 3) := by decide +kernel
theorem dX11_told_108 : decode cX11_told 108 = .ok (.getfield 161, 3) := by decide +kernel
theorem dX11_told_111 : decode cX11_told 111 = .ok (.ireturn, 1) := by decide +kernel
theorem dX11_told_112 : decode cX11_told 112 = .ok (.aload_n 0, 1) := by decide +kernel
theorem dX11_told_113 : decode cX11_told 113 = .ok (.getfield 28, 3) := by decide +kernel
theorem dX11_told_116 : decode cX11_told 116 = .ok (.getfield 139, 3) := by decide +kernel
theorem dX11_told_119 : decode cX11_told 119 = .ok (.getfield 164, 3) := by decide +kernel
theorem dX11_told_122 : decode cX11_told 122 = .ok (.ireturn, 1) := by decide +kernel
theorem dX11_told_123 : decode cX11_told 123 = .ok (.aload_n 0, 1) := by decide +kernel
theorem dX11_told_124 : decode cX11_told 124 = .ok (.getfield 28, 3) := by decide +kernel
theorem dX11_told_127 : decode cX11_told 127 = .ok (.getfield 109, 3) := by decide +kernel
theorem dX11_told_130 : decode cX11_told 130 = .ok (.getfield 126, 3) := by decide +kernel
theorem dX11_told_133 : decode cX11_told 133 = .ok (.ireturn, 1) := by decide +kernel
theorem dX11_told_134 : decode cX11_told 134 = .ok (.aload_n 0, 1) := by decide +kernel
theorem dX11_told_135 : decode cX11_told 135 = .ok (.getfield 28, 3) := by decide +kernel
theorem dX11_told_138 : decode cX11_told 138 = .ok (.getfield 103, 3) := by decide +kernel
theorem dX11_told_141 : decode cX11_told 141 = .ok (.ireturn, 1) := by decide +kernel
theorem dX11_told_142 : decode cX11_told 142 = .ok (.aload_n 0, 1) := by decide +kernel
theorem dX11_told_143 : decode cX11_told 143 = .ok (.getfield 28, 3) := by decide +kernel
theorem dX11_told_146 : decode cX11_told 146 = .ok (.getfield 106, 3) := by decide +kernel
theorem dX11_told_149 : decode cX11_told 149 = .ok (.ireturn, 1) := by decide +kernel
theorem dX11_told_150 : decode cX11_told 150 = .ok (.aload_n 0, 1) := by decide +kernel
theorem dX11_told_151 : decode cX11_told 151 = .ok (.getfield 28, 3) := by decide +kernel
theorem dX11_told_154 : decode cX11_told 154 = .ok (.getfield 85, 3) := by decide +kernel
theorem dX11_told_157 : decode cX11_told 157 = .ok (.getfield 88, 3) := by decide +kernel
theorem dX11_told_160 : decode cX11_told 160 = .ok (.ireturn, 1) := by decide +kernel
theorem dX11_told_161 : decode cX11_told 161 = .ok (.aload_n 0, 1) := by decide +kernel
theorem dX11_told_162 : decode cX11_told 162 = .ok (.getfield 28, 3) := by decide +kernel
theorem dX11_told_165 : decode cX11_told 165 = .ok (.getfield 165, 3) := by decide +kernel
theorem dX11_told_168 : decode cX11_told 168 = .ok (.ireturn, 1) := by decide +kernel
theorem dX11_told_169 : decode cX11_told 169 = .ok (.iconst (-1), 1) := by decide +kernel
theorem dX11_told_170 : decode cX11_told 170 = .ok (.ireturn, 1) := by decide +kernel
theorem dX11_segment_0 : decode cX11_segment 0 = .ok (.aload_n 0, 1) := by decide +kernel
theorem dX11_segment_1 : decode cX11_segment 1 = .ok (.getfield 28, 3) := by decide +kernel
theorem dX11_segment_4 : decode cX11_segment 4 = .ok (.getfield 109, 3) := by decide +kernel
theorem dX11_segment_7 : decode cX11_segment 7 = .ok (.iload_n 1, 1) := by decide +kernel
theorem dX11_segment_8 : decode cX11_segment 8 = .ok (.invokevirtual 168, 3) := by decide +kernel
theorem dX11_segment_11 : decode cX11_segment 11 = .ok (.ifCond .ne 5, 3) := by decide +kernel
theorem dX11_segment_14 : decode cX11_segment 14 = .ok (.iconst (-1), 1) := by decide +kernel
theorem dX11_segment_15 : decode cX11_segment 15 = .ok (.ireturn, 1) := by decide +kernel
theorem dX11_segment_16 : decode cX11_segment 16 = .ok (.aload_n 0, 1) := by decide +kernel
theorem dX11_segment_17 : decode cX11_segment 17 = .ok (.getfield 28, 3) := by decide +kernel
theorem dX11_segment_20 : decode cX11_segment 20 = .ok (.getfield 109, 3) := by decide +kernel
theorem dX11_segment_23 : decode cX11_segment 23 = .ok (.iload_n 1, 1) := by decide +kernel
theorem dX11_segment_24 : decode cX11_segment 24 = .ok (.invokevirtual 169, 3) := by decide +kernel
theorem dX11_segment_27 : decode cX11_segment 27 = .ok (.astore_n 3, 1) := by decide +kernel
theorem dX11_segment_28 : decode cX11_segment 28 = .ok (.iload_n 2, 1) := by decide +kernel
theorem dX11_segment_29 : decode cX11_segment 29 = .ok (.tableswitch 42 0 2 #[27, 32, 37], 27) := by decide +kernel
theorem dX11_segment_56 : decode cX11_segment 56 = .ok (.aload_n 3, 1) := by decide +kernel
theorem dX11_segment_57 : decode cX11_segment 57 = .ok (.getfield 172, 3) := by decide +kernel
theorem dX11_segment_60 : decode cX11_segment 60 = .ok (.ireturn, 1) := by decide +kernel
theorem dX11_segment_61 : decode cX11_segment 61 = .ok (.aload_n 3, 1) := by decide +kernel
theorem dX11_segment_62 : decode cX11_segment 62 = .ok (.getfield 177, 3) := by decide +kernel
theorem dX11_segment_65 : decode cX11_segment 65 = .ok (.ireturn, 1) := by decide +kernel
theorem dX11_segment_66 : decode cX11_segment 66 = .ok (.aload_n 3, 1) := by decide +kernel
theorem dX11_segment_67 : decode cX11_segment 67 = .ok (.getfield 178, 3) := by decide +kernel
theorem dX11_segment_70 : decode cX11_segment 70 = .ok (.ireturn, 1) := by decide +kernel
theorem dX11_segment_71 : decode cX11_segment 71 = .ok (.iconst (-1), 1) := by decide +kernel
theorem dX11_segment_72 : decode cX11_segment 72 = .ok (.ireturn, 1) := by decide +kernel
theorem dX11_at_0 : decode cX11_at 0 = .ok (.aload_n 0, 1) := by decide +kernel
theorem dX11_at_1 : decode cX11_at 1 = .ok (.iload_n 1, 1) := by decide +kernel
theorem dX11_at_2 : decode cX11_at 2 = .ok (.iload_n 2, 1) := by decide +kernel
theorem dX11_at_3 : decode cX11_at 3 = .ok (.invokevirtual 181, 3) := by decide +kernel
theorem dX11_at_6 : decode cX11_at 6 = .ok (.ifCond .ne 7, 3) := by decide +kernel
theorem dX11_at_9 : decode cX11_at 9 = .ok (.sipush 1000, 3) := by decide +kernel
theorem dX11_at_12 : decode cX11_at 12 = .ok (.ireturn, 1) := by decide +kernel
theorem dX11_at_13 : decode cX11_at 13 = .ok (.aload_n 0, 1) := by decide +kernel
theorem dX11_at_14 : decode cX11_at 14 = .ok (.getfield 28, 3) := by decide +kernel
theorem dX11_at_17 : decode cX11_at 17 = .ok (.getfield 109, 3) := by decide +kernel
theorem dX11_at_20 : decode cX11_at 20 = .ok (.iload_n 1, 1) := by decide +kernel
theorem dX11_at_21 : decode cX11_at 21 = .ok (.invokevirtual 169, 3) := by decide +kernel
theorem dX11_at_24 : decode cX11_at 24 = .ok (.astore 4, 2) := by decide +kernel
theorem dX11_at_26 : decode cX11_at 26 = .ok (.aload 4, 2) := by decide +kernel
theorem dX11_at_28 : decode cX11_at 28 = .ok (.iload_n 3, 1) := by decide +kernel
theorem dX11_at_29 : decode cX11_at 29 = .ok (.invokevirtual 185, 3) := by decide +kernel
theorem dX11_at_32 : decode cX11_at 32 = .ok (.ifCond .eq 13, 3) := by decide +kernel
theorem dX11_at_35 : decode cX11_at 35 = .ok (.aload 4, 2) := by decide +kernel
theorem dX11_at_37 : decode cX11_at 37 = .ok (.iload_n 2, 1) := by decide +kernel
theorem dX11_at_38 : decode cX11_at 38 = .ok (.iload_n 3, 1) := by decide +kernel
theorem dX11_at_39 : decode cX11_at 39 = .ok (.invokevirtual 186, 3) := by decide +kernel
theorem dX11_at_42 : decode cX11_at 42 = .ok (.goto 6, 3) := by decide +kernel
theorem dX11_at_45 : decode cX11_at 45 = .ok (.sipush 1000, 3) := by decide +kernel
theorem dX11_at_48 : decode cX11_at 48 = .ok (.ireturn, 1) := by decide +kernel
theorem dX11_drop_0 : decode cX11_drop 0 = .ok (.aload_n 0, 1) := by decide +kernel
theorem dX11_drop_1 : decode cX11_drop 1 = .ok (.getfield 28, 3) := by decide +kernel
theorem dX11_drop_4 : decode cX11_drop 4 = .ok (.getfield 109, 3) := by decide +kernel
theorem dX11_drop_7 : decode cX11_drop 7 = .ok (.invokevirtual 189, 3) := by decide +kernel
theorem dX11_drop_10 : decode cX11_drop 10 = .ok (.ifCond .eq 16, 3) := by decide +kernel
theorem dX11_drop_13 : decode cX11_drop 13 = .ok (.aload_n 0, 1) := by decide +kernel
theorem dX11_drop_14 : decode cX11_drop 14 = .ok (.getfield 28, 3) := by decide +kernel
theorem dX11_drop_17 : decode cX11_drop 17 = .ok (.getfield 109, 3) := by decide +kernel
theorem dX11_drop_20 : decode cX11_drop 20 = .ok (.getfield 126, 3) := by decide +kernel
theorem dX11_drop_23 : decode cX11_drop 23 = .ok (.goto 5, 3) := by decide +kernel
theorem dX11_drop_26 : decode cX11_drop 26 = .ok (.bipush (-4), 2) := by decide +kernel
theorem dX11_drop_28 : decode cX11_drop 28 = .ok (.ireturn, 1) := by decide +kernel
theorem dX11_sheet_0 : decode cX11_sheet 0 = .ok (.iload_n 1, 1) := by decide +kernel
theorem dX11_sheet_1 : decode cX11_sheet 1 = .ok (.iconst 0, 1) := by decide +kernel
theorem dX11_sheet_2 : decode cX11_sheet 2 = .ok (.iconst 3, 1) := by decide +kernel
theorem dX11_sheet_3 : decode cX11_sheet 3 = .ok (.invokestatic 96, 3) := by decide +kernel
theorem dX11_sheet_6 : decode cX11_sheet 6 = .ok (.ifCond .eq 18, 3) := by decide +kernel
theorem dX11_sheet_9 : decode cX11_sheet 9 = .ok (.iload_n 2, 1) := by decide +kernel
theorem dX11_sheet_10 : decode cX11_sheet 10 = .ok (.iconst 0, 1) := by decide +kernel
theorem dX11_sheet_11 : decode cX11_sheet 11 = .ok (.iconst 2, 1) := by decide +kernel
theorem dX11_sheet_12 : decode cX11_sheet 12 = .ok (.invokestatic 96, 3) := by decide +kernel
theorem dX11_sheet_15 : decode cX11_sheet 15 = .ok (.ifCond .eq 9, 3) := by decide +kernel
theorem dX11_sheet_18 : decode cX11_sheet 18 = .ok (.iload_n 3, 1) := by decide +kernel
theorem dX11_sheet_19 : decode cX11_sheet 19 = .ok (.bipush 64, 2) := by decide +kernel
theorem dX11_sheet_21 : decode cX11_sheet 21 = .ok (.if_icmp .le 5, 3) := by decide +kernel
theorem dX11_sheet_24 : decode cX11_sheet 24 = .ok (.iconst (-1), 1) := by decide +kernel
theorem dX11_sheet_25 : decode cX11_sheet 25 = .ok (.ireturn, 1) := by decide +kernel
theorem dX11_sheet_26 : decode cX11_sheet 26 = .ok (.iload_n 3, 1) := by decide +kernel
theorem dX11_sheet_27 : decode cX11_sheet 27 = .ok (.ifCond .ge 6, 3) := by decide +kernel
theorem dX11_sheet_30 : decode cX11_sheet 30 = .ok (.bipush (-14), 2) := by decide +kernel
theorem dX11_sheet_32 : decode cX11_sheet 32 = .ok (.ireturn, 1) := by decide +kernel
theorem dX11_sheet_33 : decode cX11_sheet 33 = .ok (.aload_n 0, 1) := by decide +kernel
theorem dX11_sheet_34 : decode cX11_sheet 34 = .ok (.getfield 34, 3) := by decide +kernel
theorem dX11_sheet_37 : decode cX11_sheet 37 = .ok (.iload_n 1, 1) := by decide +kernel
theorem dX11_sheet_38 : decode cX11_sheet 38 = .ok (.aaload, 1) := by decide +kernel
theorem dX11_sheet_39 : decode cX11_sheet 39 = .ok (.iload_n 2, 1) := by decide +kernel
theorem dX11_sheet_40 : decode cX11_sheet 40 = .ok (.iload_n 3, 1) := by decide +kernel
theorem dX11_sheet_41 : decode cX11_sheet 41 = .ok (.invokevirtual 192, 3) := by decide +kernel
theorem dX11_sheet_44 : decode cX11_sheet 44 = .ok (.iconst 1, 1) := by decide +kernel
theorem dX11_sheet_45 : decode cX11_sheet 45 = .ok (.ireturn, 1) := by decide +kernel
theorem dX11_lay_0 : decode cX11_lay 0 = .ok (.iload_n 1, 1) := by decide +kernel
theorem dX11_lay_1 : decode cX11_lay 1 = .ok (.iconst 0, 1) := by decide +kernel
theorem dX11_lay_2 : decode cX11_lay 2 = .ok (.iconst 3, 1) := by decide +kernel
theorem dX11_lay_3 : decode cX11_lay 3 = .ok (.invokestatic 96, 3) := by decide +kernel
theorem dX11_lay_6 : decode cX11_lay 6 = .ok (.ifCond .ne 5, 3) := by decide +kernel
theorem dX11_lay_9 : decode cX11_lay 9 = .ok (.iconst (-1), 1) := by decide +kernel
theorem dX11_lay_10 : decode cX11_lay 10 = .ok (.ireturn, 1) := by decide +kernel
theorem dX11_lay_11 : decode cX11_lay 11 = .ok (.aload_n 0, 1) := by decide +kernel
theorem dX11_lay_12 : decode cX11_lay 12 = .ok (.getfield 34, 3) := by decide +kernel
theorem dX11_lay_15 : decode cX11_lay 15 = .ok (.iload_n 1, 1) := by decide +kernel
theorem dX11_lay_16 : decode cX11_lay 16 = .ok (.aaload, 1) := by decide +kernel
theorem dX11_lay_17 : decode cX11_lay 17 = .ok (.astore 4, 2) := by decide +kernel
theorem dX11_lay_19 : decode cX11_lay 19 = .ok (.aload 4, 2) := by decide +kernel
theorem dX11_lay_21 : decode cX11_lay 21 = .ok (.invokevirtual 196, 3) := by decide +kernel
theorem dX11_lay_24 : decode cX11_lay 24 = .ok (.ifCond .eq 6, 3) := by decide +kernel
theorem dX11_lay_27 : decode cX11_lay 27 = .ok (.bipush (-11), 2) := by decide +kernel
theorem dX11_lay_29 : decode cX11_lay 29 = .ok (.ireturn, 1) := by decide +kernel
theorem dX11_lay_30 : decode cX11_lay 30 = .ok (.aload 4, 2) := by decide +kernel
theorem dX11_lay_32 : decode cX11_lay 32 = .ok (.iload_n 2, 1) := by decide +kernel
theorem dX11_lay_33 : decode cX11_lay 33 = .ok (.invokevirtual 199, 3) := by decide +kernel
theorem dX11_lay_36 : decode cX11_lay 36 = .ok (.ifCond .ne 6, 3) := by decide +kernel
theorem dX11_lay_39 : decode cX11_lay 39 = .ok (.bipush (-12), 2) := by decide +kernel
theorem dX11_lay_41 : decode cX11_lay 41 = .ok (.ireturn, 1) := by decide +kernel
theorem dX11_lay_42 : decode cX11_lay 42 = .ok (.aload 4, 2) := by decide +kernel
theorem dX11_lay_44 : decode cX11_lay 44 = .ok (.iload_n 2, 1) := by decide +kernel
theorem dX11_lay_45 : decode cX11_lay 45 = .ok (.iload_n 3, 1) := by decide +kernel
theorem dX11_lay_46 : decode cX11_lay 46 = .ok (.invokevirtual 200, 3) := by decide +kernel
theorem dX11_lay_49 : decode cX11_lay 49 = .ok (.iconst 1, 1) := by decide +kernel
theorem dX11_lay_50 : decode cX11_lay 50 = .ok (.ireturn, 1) := by decide +kernel
theorem dX11_mask_0 : decode cX11_mask 0 = .ok (.aload_n 0, 1) := by decide +kernel
theorem dX11_mask_1 : decode cX11_mask 1 = .ok (.iload_n 1, 1) := by decide +kernel
theorem dX11_mask_2 : decode cX11_mask 2 = .ok (.iload_n 2, 1) := by decide +kernel
theorem dX11_mask_3 : decode cX11_mask 3 = .ok (.invokevirtual 181, 3) := by decide +kernel
theorem dX11_mask_6 : decode cX11_mask 6 = .ok (.ifCond .eq 27, 3) := by decide +kernel
theorem dX11_mask_9 : decode cX11_mask 9 = .ok (.iload_n 3, 1) := by decide +kernel
theorem dX11_mask_10 : decode cX11_mask 10 = .ok (.iconst 0, 1) := by decide +kernel
theorem dX11_mask_11 : decode cX11_mask 11 = .ok (.iconst 3, 1) := by decide +kernel
theorem dX11_mask_12 : decode cX11_mask 12 = .ok (.invokestatic 96, 3) := by decide +kernel
theorem dX11_mask_15 : decode cX11_mask 15 = .ok (.ifCond .eq 18, 3) := by decide +kernel
theorem dX11_mask_18 : decode cX11_mask 18 = .ok (.iload 4, 2) := by decide +kernel
theorem dX11_mask_20 : decode cX11_mask 20 = .ok (.iconst 0, 1) := by decide +kernel
theorem dX11_mask_21 : decode cX11_mask 21 = .ok (.iconst 2, 1) := by decide +kernel
theorem dX11_mask_22 : decode cX11_mask 22 = .ok (.invokestatic 96, 3) := by decide +kernel
theorem dX11_mask_25 : decode cX11_mask 25 = .ok (.ifCond .eq 8, 3) := by decide +kernel
theorem dX11_mask_28 : decode cX11_mask 28 = .ok (.iload 6, 2) := by decide +kernel
theorem dX11_mask_30 : decode cX11_mask 30 = .ok (.ifCond .ge 5, 3) := by decide +kernel
theorem dX11_mask_33 : decode cX11_mask 33 = .ok (.iconst (-1), 1) := by decide +kernel
theorem dX11_mask_34 : decode cX11_mask 34 = .ok (.ireturn, 1) := by decide +kernel
theorem dX11_mask_35 : decode cX11_mask 35 = .ok (.aload_n 0, 1) := by decide +kernel
theorem dX11_mask_36 : decode cX11_mask 36 = .ok (.getfield 34, 3) := by decide +kernel
theorem dX11_mask_39 : decode cX11_mask 39 = .ok (.iload_n 3, 1) := by decide +kernel
theorem dX11_mask_40 : decode cX11_mask 40 = .ok (.aaload, 1) := by decide +kernel
theorem dX11_mask_41 : decode cX11_mask 41 = .ok (.astore 7, 2) := by decide +kernel
theorem dX11_mask_43 : decode cX11_mask 43 = .ok (.aload 7, 2) := by decide +kernel
theorem dX11_mask_45 : decode cX11_mask 45 = .ok (.iload 4, 2) := by decide +kernel
theorem dX11_mask_47 : decode cX11_mask 47 = .ok (.iload 6, 2) := by decide +kernel
theorem dX11_mask_49 : decode cX11_mask 49 = .ok (.invokevirtual 203, 3) := by decide +kernel
theorem dX11_mask_52 : decode cX11_mask 52 = .ok (.istore 8, 2) := by decide +kernel
theorem dX11_mask_54 : decode cX11_mask 54 = .ok (.iload 8, 2) := by decide +kernel
theorem dX11_mask_56 : decode cX11_mask 56 = .ok (.ifCond .eq 9, 3) := by decide +kernel
theorem dX11_mask_59 : decode cX11_mask 59 = .ok (.bipush (-10), 2) := by decide +kernel
theorem dX11_mask_61 : decode cX11_mask 61 = .ok (.iload 8, 2) := by decide +kernel
theorem dX11_mask_63 : decode cX11_mask 63 = .ok (.isub, 1) := by decide +kernel
theorem dX11_mask_64 : decode cX11_mask 64 = .ok (.ireturn, 1) := by decide +kernel
theorem dX11_mask_65 : decode cX11_mask 65 = .ok (.aload_n 0, 1) := by decide +kernel
theorem dX11_mask_66 : decode cX11_mask 66 = .ok (.getfield 28, 3) := by decide +kernel
theorem dX11_mask_69 : decode cX11_mask 69 = .ok (.getfield 109, 3) := by decide +kernel
theorem dX11_mask_72 : decode cX11_mask 72 = .ok (.iload_n 1, 1) := by decide +kernel
theorem dX11_mask_73 : decode cX11_mask 73 = .ok (.invokevirtual 169, 3) := by decide +kernel
theorem dX11_mask_76 : decode cX11_mask 76 = .ok (.astore 9, 2) := by decide +kernel
theorem dX11_mask_78 : decode cX11_mask 78 = .ok (.iconst 0, 1) := by decide +kernel
theorem dX11_mask_79 : decode cX11_mask 79 = .ok (.istore 10, 2) := by decide +kernel
theorem dX11_mask_81 : decode cX11_mask 81 = .ok (.aload_n 0, 1) := by decide +kernel
theorem dX11_mask_82 : decode cX11_mask 82 = .ok (.bipush (-4), 2) := by decide +kernel
theorem dX11_mask_84 : decode cX11_mask 84 = .ok (.putfield 53, 3) := by decide +kernel
theorem dX11_mask_87 : decode cX11_mask 87 = .ok (.iconst 0, 1) := by decide +kernel
theorem dX11_mask_88 : decode cX11_mask 88 = .ok (.istore 11, 2) := by decide +kernel
theorem dX11_mask_90 : decode cX11_mask 90 = .ok (.iload 11, 2) := by decide +kernel
theorem dX11_mask_92 : decode cX11_mask 92 = .ok (.iload 6, 2) := by decide +kernel
theorem dX11_mask_94 : decode cX11_mask 94 = .ok (.if_icmp .ge 58, 3) := by decide +kernel
theorem dX11_mask_97 : decode cX11_mask 97 = .ok (.iload 5, 2) := by decide +kernel
theorem dX11_mask_99 : decode cX11_mask 99 = .ok (.iload 11, 2) := by decide +kernel
theorem dX11_mask_101 : decode cX11_mask 101 = .ok (.iadd, 1) := by decide +kernel
theorem dX11_mask_102 : decode cX11_mask 102 = .ok (.istore 12, 2) := by decide +kernel
theorem dX11_mask_104 : decode cX11_mask 104 = .ok (.aload 9, 2) := by decide +kernel
theorem dX11_mask_106 : decode cX11_mask 106 = .ok (.iload 12, 2) := by decide +kernel
theorem dX11_mask_108 : decode cX11_mask 108 = .ok (.invokevirtual 185, 3) := by decide +kernel
theorem dX11_mask_111 : decode cX11_mask 111 = .ok (.ifCond .eq 35, 3) := by decide +kernel
theorem dX11_mask_114 : decode cX11_mask 114 = .ok (.aload 7, 2) := by decide +kernel
theorem dX11_mask_116 : decode cX11_mask 116 = .ok (.iload 11, 2) := by decide +kernel
theorem dX11_mask_118 : decode cX11_mask 118 = .ok (.aload 9, 2) := by decide +kernel
theorem dX11_mask_120 : decode cX11_mask 120 = .ok (.iload_n 2, 1) := by decide +kernel
theorem dX11_mask_121 : decode cX11_mask 121 = .ok (.iload 12, 2) := by decide +kernel
theorem dX11_mask_123 : decode cX11_mask 123 = .ok (.invokevirtual 186, 3) := by decide +kernel
theorem dX11_mask_126 : decode cX11_mask 126 = .ok (.invokevirtual 206, 3) := by decide +kernel
theorem dX11_mask_129 : decode cX11_mask 129 = .ok (.ifCond .ne 17, 3) := by decide +kernel
theorem dX11_mask_132 : decode cX11_mask 132 = .ok (.iload 10, 2) := by decide +kernel
theorem dX11_mask_134 : decode cX11_mask 134 = .ok (.ifCond .ne 9, 3) := by decide +kernel
theorem dX11_mask_137 : decode cX11_mask 137 = .ok (.aload_n 0, 1) := by decide +kernel
theorem dX11_mask_138 : decode cX11_mask 138 = .ok (.iload 12, 2) := by decide +kernel
theorem dX11_mask_140 : decode cX11_mask 140 = .ok (.putfield 53, 3) := by decide +kernel
theorem dX11_mask_143 : decode cX11_mask 143 = .ok (.iinc 10 1, 3) := by decide +kernel
theorem dX11_mask_146 : decode cX11_mask 146 = .ok (.iinc 11 1, 3) := by decide +kernel
theorem dX11_mask_149 : decode cX11_mask 149 = .ok (.goto (-59), 3) := by decide +kernel
theorem dX11_mask_152 : decode cX11_mask 152 = .ok (.iload 10, 2) := by decide +kernel
theorem dX11_mask_154 : decode cX11_mask 154 = .ok (.ireturn, 1) := by decide +kernel
theorem dX11_first_0 : decode cX11_first 0 = .ok (.aload_n 0, 1) := by decide +kernel
theorem dX11_first_1 : decode cX11_first 1 = .ok (.getfield 53, 3) := by decide +kernel
theorem dX11_first_4 : decode cX11_first 4 = .ok (.ireturn, 1) := by decide +kernel
theorem dX11_row_0 : decode cX11_row 0 = .ok (.iload_n 1, 1) := by decide +kernel
theorem dX11_row_1 : decode cX11_row 1 = .ok (.iconst 0, 1) := by decide +kernel
theorem dX11_row_2 : decode cX11_row 2 = .ok (.iconst 3, 1) := by decide +kernel
theorem dX11_row_3 : decode cX11_row 3 = .ok (.invokestatic 96, 3) := by decide +kernel
theorem dX11_row_6 : decode cX11_row 6 = .ok (.ifCond .eq 12, 3) := by decide +kernel
theorem dX11_row_9 : decode cX11_row 9 = .ok (.aload_n 0, 1) := by decide +kernel
theorem dX11_row_10 : decode cX11_row 10 = .ok (.iload_n 2, 1) := by decide +kernel
theorem dX11_row_11 : decode cX11_row 11 = .ok (.iload_n 3, 1) := by decide +kernel
theorem dX11_row_12 : decode cX11_row 12 = .ok (.invokevirtual 181, 3) := by decide +kernel
theorem dX11_row_15 : decode cX11_row 15 = .ok (.ifCond .ne 5, 3) := by decide +kernel
theorem dX11_row_18 : decode cX11_row 18 = .ok (.iconst (-1), 1) := by decide +kernel
theorem dX11_row_19 : decode cX11_row 19 = .ok (.ireturn, 1) := by decide +kernel
theorem dX11_row_20 : decode cX11_row 20 = .ok (.aload_n 0, 1) := by decide +kernel
theorem dX11_row_21 : decode cX11_row 21 = .ok (.getfield 41, 3) := by decide +kernel
theorem dX11_row_24 : decode cX11_row 24 = .ok (.iload_n 1, 1) := by decide +kernel
theorem dX11_row_25 : decode cX11_row 25 = .ok (.aaload, 1) := by decide +kernel
theorem dX11_row_26 : decode cX11_row 26 = .ok (.aload_n 0, 1) := by decide +kernel
theorem dX11_row_27 : decode cX11_row 27 = .ok (.getfield 28, 3) := by decide +kernel
theorem dX11_row_30 : decode cX11_row 30 = .ok (.getfield 109, 3) := by decide +kernel
theorem dX11_row_33 : decode cX11_row 33 = .ok (.iload_n 2, 1) := by decide +kernel
theorem dX11_row_34 : decode cX11_row 34 = .ok (.invokevirtual 169, 3) := by decide +kernel
theorem dX11_row_37 : decode cX11_row 37 = .ok (.iload_n 3, 1) := by decide +kernel
theorem dX11_row_38 : decode cX11_row 38 = .ok (.invokevirtual 209, 3) := by decide +kernel
theorem dX11_row_41 : decode cX11_row 41 = .ok (.aload_n 0, 1) := by decide +kernel
theorem dX11_row_42 : decode cX11_row 42 = .ok (.getfield 41, 3) := by decide +kernel
theorem dX11_row_45 : decode cX11_row 45 = .ok (.iload_n 1, 1) := by decide +kernel
theorem dX11_row_46 : decode cX11_row 46 = .ok (.aaload, 1) := by decide +kernel
theorem dX11_row_47 : decode cX11_row 47 = .ok (.getfield 130, 3) := by decide +kernel
theorem dX11_row_50 : decode cX11_row 50 = .ok (.ireturn, 1) := by decide +kernel
theorem dX11_reckon_0 : decode cX11_reckon 0 = .ok (.iload_n 1, 1) := by decide +kernel
theorem dX11_reckon_1 : decode cX11_reckon 1 = .ok (.iconst 0, 1) := by decide +kernel
theorem dX11_reckon_2 : decode cX11_reckon 2 = .ok (.iconst 3, 1) := by decide +kernel
theorem dX11_reckon_3 : decode cX11_reckon 3 = .ok (.invokestatic 96, 3) := by decide +kernel
theorem dX11_reckon_6 : decode cX11_reckon 6 = .ok (.ifCond .eq 21, 3) := by decide +kernel
theorem dX11_reckon_9 : decode cX11_reckon 9 = .ok (.iload_n 2, 1) := by decide +kernel
theorem dX11_reckon_10 : decode cX11_reckon 10 = .ok (.iconst 0, 1) := by decide +kernel
theorem dX11_reckon_11 : decode cX11_reckon 11 = .ok (.bipush 7, 2) := by decide +kernel
theorem dX11_reckon_13 : decode cX11_reckon 13 = .ok (.invokestatic 96, 3) := by decide +kernel
theorem dX11_reckon_16 : decode cX11_reckon 16 = .ok (.ifCond .eq 11, 3) := by decide +kernel
theorem dX11_reckon_19 : decode cX11_reckon 19 = .ok (.aload_n 0, 1) := by decide +kernel
theorem dX11_reckon_20 : decode cX11_reckon 20 = .ok (.iload_n 3, 1) := by decide +kernel
theorem dX11_reckon_21 : decode cX11_reckon 21 = .ok (.invokevirtual 213, 3) := by decide +kernel
theorem dX11_reckon_24 : decode cX11_reckon 24 = .ok (.ifCond .ne 5, 3) := by decide +kernel
theorem dX11_reckon_27 : decode cX11_reckon 27 = .ok (.iconst (-1), 1) := by decide +kernel
theorem dX11_reckon_28 : decode cX11_reckon 28 = .ok (.ireturn, 1) := by decide +kernel
theorem dX11_reckon_29 : decode cX11_reckon 29 = .ok (.iload_n 2, 1) := by decide +kernel
theorem dX11_reckon_30 : decode cX11_reckon 30 = .ok (.iconst 3, 1) := by decide +kernel
theorem dX11_reckon_31 : decode cX11_reckon 31 = .ok (.if_icmp .eq 8, 3) := by decide +kernel
theorem dX11_reckon_34 : decode cX11_reckon 34 = .ok (.iload_n 2, 1) := by decide +kernel
theorem dX11_reckon_35 : decode cX11_reckon 35 = .ok (.iconst 4, 1) := by decide +kernel
theorem dX11_reckon_36 : decode cX11_reckon 36 = .ok (.if_icmp .ne 7, 3) := by decide +kernel
theorem dX11_reckon_39 : decode cX11_reckon 39 = .ok (.iconst 1, 1) := by decide +kernel
theorem dX11_reckon_40 : decode cX11_reckon 40 = .ok (.goto 4, 3) := by decide +kernel
theorem dX11_reckon_43 : decode cX11_reckon 43 = .ok (.iconst 0, 1) := by decide +kernel
theorem dX11_reckon_44 : decode cX11_reckon 44 = .ok (.istore 6, 2) := by decide +kernel
theorem dX11_reckon_46 : decode cX11_reckon 46 = .ok (.iload 6, 2) := by decide +kernel
theorem dX11_reckon_48 : decode cX11_reckon 48 = .ok (.ifCond .eq 17, 3) := by decide +kernel
theorem dX11_reckon_51 : decode cX11_reckon 51 = .ok (.iload 5, 2) := by decide +kernel
theorem dX11_reckon_53 : decode cX11_reckon 53 = .ok (.iconst 1, 1) := by decide +kernel
theorem dX11_reckon_54 : decode cX11_reckon 54 = .ok (.bipush 64, 2) := by decide +kernel
theorem dX11_reckon_56 : decode cX11_reckon 56 = .ok (.invokestatic 96, 3) := by decide +kernel
theorem dX11_reckon_59 : decode cX11_reckon 59 = .ok (.ifCond .ne 22, 3) := by decide +kernel
theorem dX11_reckon_62 : decode cX11_reckon 62 = .ok (.goto 17, 3) := by decide +kernel
theorem dX11_reckon_65 : decode cX11_reckon 65 = .ok (.iload 5, 2) := by decide +kernel
theorem dX11_reckon_67 : decode cX11_reckon 67 = .ok (.sipush (-1000), 3) := by decide +kernel
theorem dX11_reckon_70 : decode cX11_reckon 70 = .ok (.sipush 1000, 3) := by decide +kernel
theorem dX11_reckon_73 : decode cX11_reckon 73 = .ok (.invokestatic 96, 3) := by decide +kernel
theorem dX11_reckon_76 : decode cX11_reckon 76 = .ok (.ifCond .ne 5, 3) := by decide +kernel
theorem dX11_reckon_79 : decode cX11_reckon 79 = .ok (.iconst (-1), 1) := by decide +kernel
theorem dX11_reckon_80 : decode cX11_reckon 80 = .ok (.ireturn, 1) := by decide +kernel
theorem dX11_reckon_81 : decode cX11_reckon 81 = .ok (.iload_n 2, 1) := by decide +kernel
theorem dX11_reckon_82 : decode cX11_reckon 82 = .ok (.iconst 3, 1) := by decide +kernel
theorem dX11_reckon_83 : decode cX11_reckon 83 = .ok (.if_icmp .lt 24, 3) := by decide +kernel
theorem dX11_reckon_86 : decode cX11_reckon 86 = .ok (.aload_n 0, 1) := by decide +kernel
theorem dX11_reckon_87 : decode cX11_reckon 87 = .ok (.getfield 41, 3) := by decide +kernel
theorem dX11_reckon_90 : decode cX11_reckon 90 = .ok (.iload_n 1, 1) := by decide +kernel
theorem dX11_reckon_91 : decode cX11_reckon 91 = .ok (.aaload, 1) := by decide +kernel
theorem dX11_reckon_92 : decode cX11_reckon 92 = .ok (.iload_n 2, 1) := by decide +kernel
theorem dX11_reckon_93 : decode cX11_reckon 93 = .ok (.aload_n 0, 1) := by decide +kernel
theorem dX11_reckon_94 : decode cX11_reckon 94 = .ok (.getfield 41, 3) := by decide +kernel
theorem dX11_reckon_97 : decode cX11_reckon 97 = .ok (.iload_n 3, 1) := by decide +kernel
theorem dX11_reckon_98 : decode cX11_reckon 98 = .ok (.aaload, 1) := by decide +kernel
theorem dX11_reckon_99 : decode cX11_reckon 99 = .ok (.iload 5, 2) := by decide +kernel
theorem dX11_reckon_101 : decode cX11_reckon 101 = .ok (.invokevirtual 216, 3) := by decide +kernel
theorem dX11_reckon_104 : decode cX11_reckon 104 = .ok (.goto 40, 3) := by decide +kernel
theorem dX11_reckon_107 : decode cX11_reckon 107 = .ok (.aload_n 0, 1) := by decide +kernel
theorem dX11_reckon_108 : decode cX11_reckon 108 = .ok (.iload 4, 2) := by decide +kernel
theorem dX11_reckon_110 : decode cX11_reckon 110 = .ok (.invokevirtual 213, 3) := by decide +kernel
theorem dX11_reckon_113 : decode cX11_reckon 113 = .ok (.ifCond .eq 29, 3) := by decide +kernel
theorem dX11_reckon_116 : decode cX11_reckon 116 = .ok (.aload_n 0, 1) := by decide +kernel
theorem dX11_reckon_117 : decode cX11_reckon 117 = .ok (.getfield 41, 3) := by decide +kernel
theorem dX11_reckon_120 : decode cX11_reckon 120 = .ok (.iload_n 1, 1) := by decide +kernel
theorem dX11_reckon_121 : decode cX11_reckon 121 = .ok (.aaload, 1) := by decide +kernel
theorem dX11_reckon_122 : decode cX11_reckon 122 = .ok (.iload_n 2, 1) := by decide +kernel
theorem dX11_reckon_123 : decode cX11_reckon 123 = .ok (.aload_n 0, 1) := by decide +kernel
theorem dX11_reckon_124 : decode cX11_reckon 124 = .ok (.getfield 41, 3) := by decide +kernel
theorem dX11_reckon_127 : decode cX11_reckon 127 = .ok (.iload_n 3, 1) := by decide +kernel
theorem dX11_reckon_128 : decode cX11_reckon 128 = .ok (.aaload, 1) := by decide +kernel
theorem dX11_reckon_129 : decode cX11_reckon 129 = .ok (.aload_n 0, 1) := by decide +kernel
theorem dX11_reckon_130 : decode cX11_reckon 130 = .ok (.getfield 41, 3) := by decide +kernel
theorem dX11_reckon_133 : decode cX11_reckon 133 = .ok (.iload 4, 2) := by decide +kernel
theorem dX11_reckon_135 : decode cX11_reckon 135 = .ok (.aaload, 1) := by decide +kernel
theorem dX11_reckon_136 : decode cX11_reckon 136 = .ok (.invokevirtual 220, 3) := by decide +kernel
theorem dX11_reckon_139 : decode cX11_reckon 139 = .ok (.goto 5, 3) := by decide +kernel
theorem dX11_reckon_142 : decode cX11_reckon 142 = .ok (.iconst (-1), 1) := by decide +kernel
theorem dX11_reckon_143 : decode cX11_reckon 143 = .ok (.ireturn, 1) := by decide +kernel
theorem dX11_reckon_144 : decode cX11_reckon 144 = .ok (.aload_n 0, 1) := by decide +kernel
theorem dX11_reckon_145 : decode cX11_reckon 145 = .ok (.getfield 41, 3) := by decide +kernel
theorem dX11_reckon_148 : decode cX11_reckon 148 = .ok (.iload_n 1, 1) := by decide +kernel
theorem dX11_reckon_149 : decode cX11_reckon 149 = .ok (.aaload, 1) := by decide +kernel
theorem dX11_reckon_150 : decode cX11_reckon 150 = .ok (.getfield 130, 3) := by decide +kernel
theorem dX11_reckon_153 : decode cX11_reckon 153 = .ok (.ireturn, 1) := by decide +kernel
theorem dX11_place_0 : decode cX11_place 0 = .ok (.iload_n 1, 1) := by decide +kernel
theorem dX11_place_1 : decode cX11_place 1 = .ok (.iconst 0, 1) := by decide +kernel
theorem dX11_place_2 : decode cX11_place 2 = .ok (.iconst 3, 1) := by decide +kernel
theorem dX11_place_3 : decode cX11_place 3 = .ok (.invokestatic 96, 3) := by decide +kernel
theorem dX11_place_6 : decode cX11_place 6 = .ok (.ifCond .eq 16, 3) := by decide +kernel
theorem dX11_place_9 : decode cX11_place 9 = .ok (.aload_n 0, 1) := by decide +kernel
theorem dX11_place_10 : decode cX11_place 10 = .ok (.getfield 41, 3) := by decide +kernel
theorem dX11_place_13 : decode cX11_place 13 = .ok (.iload_n 1, 1) := by decide +kernel
theorem dX11_place_14 : decode cX11_place 14 = .ok (.aaload, 1) := by decide +kernel
theorem dX11_place_15 : decode cX11_place 15 = .ok (.iload_n 2, 1) := by decide +kernel
theorem dX11_place_16 : decode cX11_place 16 = .ok (.invokevirtual 131, 3) := by decide +kernel
theorem dX11_place_19 : decode cX11_place 19 = .ok (.goto 4, 3) := by decide +kernel
theorem dX11_place_22 : decode cX11_place 22 = .ok (.lconst 0, 1) := by decide +kernel
theorem dX11_place_23 : decode cX11_place 23 = .ok (.lreturn, 1) := by decide +kernel
theorem dX11_about_0 : decode cX11_about 0 = .ok (.aload_n 0, 1) := by decide +kernel
theorem dX11_about_1 : decode cX11_about 1 = .ok (.iload_n 1, 1) := by decide +kernel
theorem dX11_about_2 : decode cX11_about 2 = .ok (.invokevirtual 213, 3) := by decide +kernel
theorem dX11_about_5 : decode cX11_about 5 = .ok (.ifCond .ne 5, 3) := by decide +kernel
theorem dX11_about_8 : decode cX11_about 8 = .ok (.iconst (-1), 1) := by decide +kernel
theorem dX11_about_9 : decode cX11_about 9 = .ok (.ireturn, 1) := by decide +kernel
theorem dX11_about_10 : decode cX11_about 10 = .ok (.iload_n 2, 1) := by decide +kernel
theorem dX11_about_11 : decode cX11_about 11 = .ok (.tableswitch 83 0 4 #[33, 43, 53, 63, 73], 33) := by decide +kernel
theorem dX11_about_44 : decode cX11_about 44 = .ok (.aload_n 0, 1) := by decide +kernel
theorem dX11_about_45 : decode cX11_about 45 = .ok (.getfield 41, 3) := by decide +kernel
theorem dX11_about_48 : decode cX11_about 48 = .ok (.iload_n 1, 1) := by decide +kernel
theorem dX11_about_49 : decode cX11_about 49 = .ok (.aaload, 1) := by decide +kernel
theorem dX11_about_50 : decode cX11_about 50 = .ok (.getfield 130, 3) := by decide +kernel
theorem dX11_about_53 : decode cX11_about 53 = .ok (.ireturn, 1) := by decide +kernel
theorem dX11_about_54 : decode cX11_about 54 = .ok (.aload_n 0, 1) := by decide +kernel
theorem dX11_about_55 : decode cX11_about 55 = .ok (.getfield 41, 3) := by decide +kernel
theorem dX11_about_58 : decode cX11_about 58 = .ok (.iload_n 1, 1) := by decide +kernel
theorem dX11_about_59 : decode cX11_about 59 = .ok (.aaload, 1) := by decide +kernel
theorem dX11_about_60 : decode cX11_about 60 = .ok (.invokevirtual 224, 3) := by decide +kernel
theorem dX11_about_63 : decode cX11_about 63 = .ok (.ireturn, 1) := by decide +kernel
theorem dX11_about_64 : decode cX11_about 64 = .ok (.aload_n 0, 1) := by decide +kernel
theorem dX11_about_65 : decode cX11_about 65 = .ok (.getfield 41, 3) := by decide +kernel
theorem dX11_about_68 : decode cX11_about 68 = .ok (.iload_n 1, 1) := by decide +kernel
theorem dX11_about_69 : decode cX11_about 69 = .ok (.aaload, 1) := by decide +kernel
theorem dX11_about_70 : decode cX11_about 70 = .ok (.invokevirtual 228, 3) := by decide +kernel
theorem dX11_about_73 : decode cX11_about 73 = .ok (.ireturn, 1) := by decide +kernel
theorem dX11_about_74 : decode cX11_about 74 = .ok (.aload_n 0, 1) := by decide +kernel
theorem dX11_about_75 : decode cX11_about 75 = .ok (.getfield 41, 3) := by decide +kernel
theorem dX11_about_78 : decode cX11_about 78 = .ok (.iload_n 1, 1) := by decide +kernel
theorem dX11_about_79 : decode cX11_about 79 = .ok (.aaload, 1) := by decide +kernel
theorem dX11_about_80 : decode cX11_about 80 = .ok (.invokevirtual 231, 3) := by decide +kernel
theorem dX11_about_83 : decode cX11_about 83 = .ok (.ireturn, 1) := by decide +kernel
theorem dX11_about_84 : decode cX11_about 84 = .ok (.aload_n 0, 1) := by decide +kernel
theorem dX11_about_85 : decode cX11_about 85 = .ok (.getfield 41, 3) := by decide +kernel
theorem dX11_about_88 : decode cX11_about 88 = .ok (.iload_n 1, 1) := by decide +kernel
theorem dX11_about_89 : decode cX11_about 89 = .ok (.aaload, 1) := by decide +kernel
theorem dX11_about_90 : decode cX11_about 90 = .ok (.invokevirtual 234, 3) := by decide +kernel
theorem dX11_about_93 : decode cX11_about 93 = .ok (.ireturn, 1) := by decide +kernel
theorem dX11_about_94 : decode cX11_about 94 = .ok (.iconst (-1), 1) := by decide +kernel
theorem dX11_about_95 : decode cX11_about 95 = .ok (.ireturn, 1) := by decide +kernel
theorem dX11_total_0 : decode cX11_total 0 = .ok (.aload_n 0, 1) := by decide +kernel
theorem dX11_total_1 : decode cX11_total 1 = .ok (.iload_n 1, 1) := by decide +kernel
theorem dX11_total_2 : decode cX11_total 2 = .ok (.invokevirtual 213, 3) := by decide +kernel
theorem dX11_total_5 : decode cX11_total 5 = .ok (.ifCond .eq 27, 3) := by decide +kernel
theorem dX11_total_8 : decode cX11_total 8 = .ok (.aload_n 0, 1) := by decide +kernel
theorem dX11_total_9 : decode cX11_total 9 = .ok (.getfield 41, 3) := by decide +kernel
theorem dX11_total_12 : decode cX11_total 12 = .ok (.iload_n 1, 1) := by decide +kernel
theorem dX11_total_13 : decode cX11_total 13 = .ok (.aaload, 1) := by decide +kernel
theorem dX11_total_14 : decode cX11_total 14 = .ok (.iconst 0, 1) := by decide +kernel
theorem dX11_total_15 : decode cX11_total 15 = .ok (.aload_n 0, 1) := by decide +kernel
theorem dX11_total_16 : decode cX11_total 16 = .ok (.getfield 41, 3) := by decide +kernel
theorem dX11_total_19 : decode cX11_total 19 = .ok (.iload_n 1, 1) := by decide +kernel
theorem dX11_total_20 : decode cX11_total 20 = .ok (.aaload, 1) := by decide +kernel
theorem dX11_total_21 : decode cX11_total 21 = .ok (.getfield 130, 3) := by decide +kernel
theorem dX11_total_24 : decode cX11_total 24 = .ok (.iconst 1, 1) := by decide +kernel
theorem dX11_total_25 : decode cX11_total 25 = .ok (.isub, 1) := by decide +kernel
theorem dX11_total_26 : decode cX11_total 26 = .ok (.invokevirtual 237, 3) := by decide +kernel
theorem dX11_total_29 : decode cX11_total 29 = .ok (.goto 4, 3) := by decide +kernel
theorem dX11_total_32 : decode cX11_total 32 = .ok (.lconst 0, 1) := by decide +kernel
theorem dX11_total_33 : decode cX11_total 33 = .ok (.lreturn, 1) := by decide +kernel
theorem dX11_turns_0 : decode cX11_turns 0 = .ok (.aload_n 0, 1) := by decide +kernel
theorem dX11_turns_1 : decode cX11_turns 1 = .ok (.iload_n 1, 1) := by decide +kernel
theorem dX11_turns_2 : decode cX11_turns 2 = .ok (.invokevirtual 213, 3) := by decide +kernel
theorem dX11_turns_5 : decode cX11_turns 5 = .ok (.ifCond .eq 13, 3) := by decide +kernel
theorem dX11_turns_8 : decode cX11_turns 8 = .ok (.iload 4, 2) := by decide +kernel
theorem dX11_turns_10 : decode cX11_turns 10 = .ok (.iconst 0, 1) := by decide +kernel
theorem dX11_turns_11 : decode cX11_turns 11 = .ok (.iconst 4, 1) := by decide +kernel
theorem dX11_turns_12 : decode cX11_turns 12 = .ok (.invokestatic 96, 3) := by decide +kernel
theorem dX11_turns_15 : decode cX11_turns 15 = .ok (.ifCond .ne 5, 3) := by decide +kernel
theorem dX11_turns_18 : decode cX11_turns 18 = .ok (.iconst (-1), 1) := by decide +kernel
theorem dX11_turns_19 : decode cX11_turns 19 = .ok (.ireturn, 1) := by decide +kernel
theorem dX11_turns_20 : decode cX11_turns 20 = .ok (.aload_n 0, 1) := by decide +kernel
theorem dX11_turns_21 : decode cX11_turns 21 = .ok (.getfield 41, 3) := by decide +kernel
theorem dX11_turns_24 : decode cX11_turns 24 = .ok (.iload_n 1, 1) := by decide +kernel
theorem dX11_turns_25 : decode cX11_turns 25 = .ok (.aaload, 1) := by decide +kernel
theorem dX11_turns_26 : decode cX11_turns 26 = .ok (.lload_n 2, 1) := by decide +kernel
theorem dX11_turns_27 : decode cX11_turns 27 = .ok (.iload 4, 2) := by decide +kernel
theorem dX11_turns_29 : decode cX11_turns 29 = .ok (.invokevirtual 241, 3) := by decide +kernel
theorem dX11_turns_32 : decode cX11_turns 32 = .ok (.ireturn, 1) := by decide +kernel
theorem dX11_eye_0 : decode cX11_eye 0 = .ok (.aload_n 0, 1) := by decide +kernel
theorem dX11_eye_1 : decode cX11_eye 1 = .ok (.iload_n 1, 1) := by decide +kernel
theorem dX11_eye_2 : decode cX11_eye 2 = .ok (.invokevirtual 213, 3) := by decide +kernel
theorem dX11_eye_5 : decode cX11_eye 5 = .ok (.ifCond .eq 29, 3) := by decide +kernel
theorem dX11_eye_8 : decode cX11_eye 8 = .ok (.iload_n 2, 1) := by decide +kernel
theorem dX11_eye_9 : decode cX11_eye 9 = .ok (.ifCond .lt 25, 3) := by decide +kernel
theorem dX11_eye_12 : decode cX11_eye 12 = .ok (.iload_n 3, 1) := by decide +kernel
theorem dX11_eye_13 : decode cX11_eye 13 = .ok (.iconst 1, 1) := by decide +kernel
theorem dX11_eye_14 : decode cX11_eye 14 = .ok (.bipush 32, 2) := by decide +kernel
theorem dX11_eye_16 : decode cX11_eye 16 = .ok (.invokestatic 96, 3) := by decide +kernel
theorem dX11_eye_19 : decode cX11_eye 19 = .ok (.ifCond .eq 15, 3) := by decide +kernel
theorem dX11_eye_22 : decode cX11_eye 22 = .ok (.iload 4, 2) := by decide +kernel
theorem dX11_eye_24 : decode cX11_eye 24 = .ok (.iconst 0, 1) := by decide +kernel
theorem dX11_eye_25 : decode cX11_eye 25 = .ok (.iload_n 3, 1) := by decide +kernel
theorem dX11_eye_26 : decode cX11_eye 26 = .ok (.iconst 1, 1) := by decide +kernel
theorem dX11_eye_27 : decode cX11_eye 27 = .ok (.isub, 1) := by decide +kernel
theorem dX11_eye_28 : decode cX11_eye 28 = .ok (.invokestatic 96, 3) := by decide +kernel
theorem dX11_eye_31 : decode cX11_eye 31 = .ok (.ifCond .ne 5, 3) := by decide +kernel
theorem dX11_eye_34 : decode cX11_eye 34 = .ok (.iconst (-1), 1) := by decide +kernel
theorem dX11_eye_35 : decode cX11_eye 35 = .ok (.ireturn, 1) := by decide +kernel
theorem dX11_eye_36 : decode cX11_eye 36 = .ok (.iload 7, 2) := by decide +kernel
theorem dX11_eye_38 : decode cX11_eye 38 = .ok (.iconst 1, 1) := by decide +kernel
theorem dX11_eye_39 : decode cX11_eye 39 = .ok (.sipush 1000, 3) := by decide +kernel
theorem dX11_eye_42 : decode cX11_eye 42 = .ok (.invokestatic 96, 3) := by decide +kernel
theorem dX11_eye_45 : decode cX11_eye 45 = .ok (.ifCond .eq 14, 3) := by decide +kernel
theorem dX11_eye_48 : decode cX11_eye 48 = .ok (.iload 8, 2) := by decide +kernel
theorem dX11_eye_50 : decode cX11_eye 50 = .ok (.iconst 0, 1) := by decide +kernel
theorem dX11_eye_51 : decode cX11_eye 51 = .ok (.bipush 15, 2) := by decide +kernel
theorem dX11_eye_53 : decode cX11_eye 53 = .ok (.invokestatic 96, 3) := by decide +kernel
theorem dX11_eye_56 : decode cX11_eye 56 = .ok (.ifCond .ne 5, 3) := by decide +kernel
theorem dX11_eye_59 : decode cX11_eye 59 = .ok (.iconst (-1), 1) := by decide +kernel
theorem dX11_eye_60 : decode cX11_eye 60 = .ok (.ireturn, 1) := by decide +kernel
theorem dX11_eye_61 : decode cX11_eye 61 = .ok (.aload_n 0, 1) := by decide +kernel
theorem dX11_eye_62 : decode cX11_eye 62 = .ok (.getfield 41, 3) := by decide +kernel
theorem dX11_eye_65 : decode cX11_eye 65 = .ok (.iload_n 1, 1) := by decide +kernel
theorem dX11_eye_66 : decode cX11_eye 66 = .ok (.aaload, 1) := by decide +kernel
theorem dX11_eye_67 : decode cX11_eye 67 = .ok (.astore 9, 2) := by decide +kernel
theorem dX11_eye_69 : decode cX11_eye 69 = .ok (.iconst 0, 1) := by decide +kernel
theorem dX11_eye_70 : decode cX11_eye 70 = .ok (.istore 10, 2) := by decide +kernel
theorem dX11_eye_72 : decode cX11_eye 72 = .ok (.iload_n 2, 1) := by decide +kernel
theorem dX11_eye_73 : decode cX11_eye 73 = .ok (.istore 11, 2) := by decide +kernel
theorem dX11_eye_75 : decode cX11_eye 75 = .ok (.iload 11, 2) := by decide +kernel
theorem dX11_eye_77 : decode cX11_eye 77 = .ok (.aload 9, 2) := by decide +kernel
theorem dX11_eye_79 : decode cX11_eye 79 = .ok (.getfield 130, 3) := by decide +kernel
theorem dX11_eye_82 : decode cX11_eye 82 = .ok (.if_icmp .ge 39, 3) := by decide +kernel
theorem dX11_eye_85 : decode cX11_eye 85 = .ok (.iload 11, 2) := by decide +kernel
theorem dX11_eye_87 : decode cX11_eye 87 = .ok (.iload_n 2, 1) := by decide +kernel
theorem dX11_eye_88 : decode cX11_eye 88 = .ok (.isub, 1) := by decide +kernel
theorem dX11_eye_89 : decode cX11_eye 89 = .ok (.iload_n 3, 1) := by decide +kernel
theorem dX11_eye_90 : decode cX11_eye 90 = .ok (.irem, 1) := by decide +kernel
theorem dX11_eye_91 : decode cX11_eye 91 = .ok (.iload 4, 2) := by decide +kernel
theorem dX11_eye_93 : decode cX11_eye 93 = .ok (.if_icmp .ne 22, 3) := by decide +kernel
theorem dX11_eye_96 : decode cX11_eye 96 = .ok (.aload 9, 2) := by decide +kernel
theorem dX11_eye_98 : decode cX11_eye 98 = .ok (.iload 11, 2) := by decide +kernel
theorem dX11_eye_100 : decode cX11_eye 100 = .ok (.lload 5, 2) := by decide +kernel
theorem dX11_eye_102 : decode cX11_eye 102 = .ok (.iload 7, 2) := by decide +kernel
theorem dX11_eye_104 : decode cX11_eye 104 = .ok (.iload 8, 2) := by decide +kernel
theorem dX11_eye_106 : decode cX11_eye 106 = .ok (.invokevirtual 245, 3) := by decide +kernel
theorem dX11_eye_109 : decode cX11_eye 109 = .ok (.ifCond .eq 6, 3) := by decide +kernel
theorem dX11_eye_112 : decode cX11_eye 112 = .ok (.iinc 10 1, 3) := by decide +kernel
theorem dX11_eye_115 : decode cX11_eye 115 = .ok (.iinc 11 1, 3) := by decide +kernel
theorem dX11_eye_118 : decode cX11_eye 118 = .ok (.goto (-43), 3) := by decide +kernel
theorem dX11_eye_121 : decode cX11_eye 121 = .ok (.iload 10, 2) := by decide +kernel
theorem dX11_eye_123 : decode cX11_eye 123 = .ok (.ireturn, 1) := by decide +kernel
theorem dX11_bytes_0 : decode cX11_bytes 0 = .ok (.aload_n 0, 1) := by decide +kernel
theorem dX11_bytes_1 : decode cX11_bytes 1 = .ok (.iload_n 1, 1) := by decide +kernel
theorem dX11_bytes_2 : decode cX11_bytes 2 = .ok (.iload_n 2, 1) := by decide +kernel
theorem dX11_bytes_3 : decode cX11_bytes 3 = .ok (.invokevirtual 181, 3) := by decide +kernel
theorem dX11_bytes_6 : decode cX11_bytes 6 = .ok (.ifCond .eq 13, 3) := by decide +kernel
theorem dX11_bytes_9 : decode cX11_bytes 9 = .ok (.iload_n 3, 1) := by decide +kernel
theorem dX11_bytes_10 : decode cX11_bytes 10 = .ok (.iconst 2, 1) := by decide +kernel
theorem dX11_bytes_11 : decode cX11_bytes 11 = .ok (.bipush 16, 2) := by decide +kernel
theorem dX11_bytes_13 : decode cX11_bytes 13 = .ok (.invokestatic 96, 3) := by decide +kernel
theorem dX11_bytes_16 : decode cX11_bytes 16 = .ok (.ifCond .ne 5, 3) := by decide +kernel
theorem dX11_bytes_19 : decode cX11_bytes 19 = .ok (.iconst (-1), 1) := by decide +kernel
theorem dX11_bytes_20 : decode cX11_bytes 20 = .ok (.ireturn, 1) := by decide +kernel
theorem dX11_bytes_21 : decode cX11_bytes 21 = .ok (.aload_n 0, 1) := by decide +kernel
theorem dX11_bytes_22 : decode cX11_bytes 22 = .ok (.getfield 49, 3) := by decide +kernel
theorem dX11_bytes_25 : decode cX11_bytes 25 = .ok (.aload_n 0, 1) := by decide +kernel
theorem dX11_bytes_26 : decode cX11_bytes 26 = .ok (.getfield 28, 3) := by decide +kernel
theorem dX11_bytes_29 : decode cX11_bytes 29 = .ok (.getfield 109, 3) := by decide +kernel
theorem dX11_bytes_32 : decode cX11_bytes 32 = .ok (.iload_n 1, 1) := by decide +kernel
theorem dX11_bytes_33 : decode cX11_bytes 33 = .ok (.invokevirtual 169, 3) := by decide +kernel
theorem dX11_bytes_36 : decode cX11_bytes 36 = .ok (.iload_n 2, 1) := by decide +kernel
theorem dX11_bytes_37 : decode cX11_bytes 37 = .ok (.iload_n 3, 1) := by decide +kernel
theorem dX11_bytes_38 : decode cX11_bytes 38 = .ok (.invokevirtual 249, 3) := by decide +kernel
theorem dX11_bytes_41 : decode cX11_bytes 41 = .ok (.aload_n 0, 1) := by decide +kernel
theorem dX11_bytes_42 : decode cX11_bytes 42 = .ok (.getfield 49, 3) := by decide +kernel
theorem dX11_bytes_45 : decode cX11_bytes 45 = .ok (.getfield 253, 3) := by decide +kernel
theorem dX11_bytes_48 : decode cX11_bytes 48 = .ok (.ireturn, 1) := by decide +kernel
theorem dX11_wires_0 : decode cX11_wires 0 = .ok (.aload_n 0, 1) := by decide +kernel
theorem dX11_wires_1 : decode cX11_wires 1 = .ok (.iload_n 1, 1) := by decide +kernel
theorem dX11_wires_2 : decode cX11_wires 2 = .ok (.iload_n 2, 1) := by decide +kernel
theorem dX11_wires_3 : decode cX11_wires 3 = .ok (.invokevirtual 181, 3) := by decide +kernel
theorem dX11_wires_6 : decode cX11_wires 6 = .ok (.ifCond .eq 15, 3) := by decide +kernel
theorem dX11_wires_9 : decode cX11_wires 9 = .ok (.iload_n 3, 1) := by decide +kernel
theorem dX11_wires_10 : decode cX11_wires 10 = .ok (.invokestatic 127, 3) := by decide +kernel
theorem dX11_wires_13 : decode cX11_wires 13 = .ok (.ifCond .eq 8, 3) := by decide +kernel
theorem dX11_wires_16 : decode cX11_wires 16 = .ok (.iload_n 2, 1) := by decide +kernel
theorem dX11_wires_17 : decode cX11_wires 17 = .ok (.iload_n 3, 1) := by decide +kernel
theorem dX11_wires_18 : decode cX11_wires 18 = .ok (.if_icmp .ne 5, 3) := by decide +kernel
theorem dX11_wires_21 : decode cX11_wires 21 = .ok (.iconst (-1), 1) := by decide +kernel
theorem dX11_wires_22 : decode cX11_wires 22 = .ok (.ireturn, 1) := by decide +kernel
theorem dX11_wires_23 : decode cX11_wires 23 = .ok (.aload_n 0, 1) := by decide +kernel
theorem dX11_wires_24 : decode cX11_wires 24 = .ok (.getfield 49, 3) := by decide +kernel
theorem dX11_wires_27 : decode cX11_wires 27 = .ok (.aload_n 0, 1) := by decide +kernel
theorem dX11_wires_28 : decode cX11_wires 28 = .ok (.getfield 28, 3) := by decide +kernel
theorem dX11_wires_31 : decode cX11_wires 31 = .ok (.getfield 109, 3) := by decide +kernel
theorem dX11_wires_34 : decode cX11_wires 34 = .ok (.iload_n 1, 1) := by decide +kernel
theorem dX11_wires_35 : decode cX11_wires 35 = .ok (.invokevirtual 169, 3) := by decide +kernel
theorem dX11_wires_38 : decode cX11_wires 38 = .ok (.iload_n 2, 1) := by decide +kernel
theorem dX11_wires_39 : decode cX11_wires 39 = .ok (.iload_n 3, 1) := by decide +kernel
theorem dX11_wires_40 : decode cX11_wires 40 = .ok (.invokevirtual 254, 3) := by decide +kernel
theorem dX11_wires_43 : decode cX11_wires 43 = .ok (.aload_n 0, 1) := by decide +kernel
theorem dX11_wires_44 : decode cX11_wires 44 = .ok (.getfield 49, 3) := by decide +kernel
theorem dX11_wires_47 : decode cX11_wires 47 = .ok (.getfield 253, 3) := by decide +kernel
theorem dX11_wires_50 : decode cX11_wires 50 = .ok (.ireturn, 1) := by decide +kernel
theorem dX11_got_0 : decode cX11_got 0 = .ok (.aload_n 0, 1) := by decide +kernel
theorem dX11_got_1 : decode cX11_got 1 = .ok (.getfield 49, 3) := by decide +kernel
theorem dX11_got_4 : decode cX11_got 4 = .ok (.iload_n 1, 1) := by decide +kernel
theorem dX11_got_5 : decode cX11_got 5 = .ok (.invokevirtual 257, 3) := by decide +kernel
theorem dX11_got_8 : decode cX11_got 8 = .ok (.ifCond .eq 15, 3) := by decide +kernel
theorem dX11_got_11 : decode cX11_got 11 = .ok (.aload_n 0, 1) := by decide +kernel
theorem dX11_got_12 : decode cX11_got 12 = .ok (.getfield 49, 3) := by decide +kernel
theorem dX11_got_15 : decode cX11_got 15 = .ok (.getfield 258, 3) := by decide +kernel
theorem dX11_got_18 : decode cX11_got 18 = .ok (.iload_n 1, 1) := by decide +kernel
theorem dX11_got_19 : decode cX11_got 19 = .ok (.iaload, 1) := by decide +kernel
theorem dX11_got_20 : decode cX11_got 20 = .ok (.goto 4, 3) := by decide +kernel
theorem dX11_got_23 : decode cX11_got 23 = .ok (.iconst (-1), 1) := by decide +kernel
theorem dX11_got_24 : decode cX11_got 24 = .ok (.ireturn, 1) := by decide +kernel
theorem dX11_when_0 : decode cX11_when 0 = .ok (.iload_n 1, 1) := by decide +kernel
theorem dX11_when_1 : decode cX11_when 1 = .ok (.iconst (-1), 1) := by decide +kernel
theorem dX11_when_2 : decode cX11_when 2 = .ok (.if_icmp .ne 11, 3) := by decide +kernel
theorem dX11_when_5 : decode cX11_when 5 = .ok (.aload_n 0, 1) := by decide +kernel
theorem dX11_when_6 : decode cX11_when 6 = .ok (.getfield 49, 3) := by decide +kernel
theorem dX11_when_9 : decode cX11_when 9 = .ok (.getfield 262, 3) := by decide +kernel
theorem dX11_when_12 : decode cX11_when 12 = .ok (.ireturn, 1) := by decide +kernel
theorem dX11_when_13 : decode cX11_when 13 = .ok (.aload_n 0, 1) := by decide +kernel
theorem dX11_when_14 : decode cX11_when 14 = .ok (.getfield 49, 3) := by decide +kernel
theorem dX11_when_17 : decode cX11_when 17 = .ok (.iload_n 1, 1) := by decide +kernel
theorem dX11_when_18 : decode cX11_when 18 = .ok (.invokevirtual 257, 3) := by decide +kernel
theorem dX11_when_21 : decode cX11_when 21 = .ok (.ifCond .eq 15, 3) := by decide +kernel
theorem dX11_when_24 : decode cX11_when 24 = .ok (.aload_n 0, 1) := by decide +kernel
theorem dX11_when_25 : decode cX11_when 25 = .ok (.getfield 49, 3) := by decide +kernel
theorem dX11_when_28 : decode cX11_when 28 = .ok (.getfield 265, 3) := by decide +kernel
theorem dX11_when_31 : decode cX11_when 31 = .ok (.iload_n 1, 1) := by decide +kernel
theorem dX11_when_32 : decode cX11_when 32 = .ok (.iaload, 1) := by decide +kernel
theorem dX11_when_33 : decode cX11_when 33 = .ok (.goto 4, 3) := by decide +kernel
theorem dX11_when_36 : decode cX11_when 36 = .ok (.iconst (-1), 1) := by decide +kernel
theorem dX11_when_37 : decode cX11_when 37 = .ok (.ireturn, 1) := by decide +kernel
theorem dX11_frame_0 : decode cX11_frame 0 = .ok (.iload_n 1, 1) := by decide +kernel
theorem dX11_frame_1 : decode cX11_frame 1 = .ok (.ifCond .ge 7, 3) := by decide +kernel
theorem dX11_frame_4 : decode cX11_frame 4 = .ok (.iconst (-1), 1) := by decide +kernel
theorem dX11_frame_5 : decode cX11_frame 5 = .ok (.goto 11, 3) := by decide +kernel
theorem dX11_frame_8 : decode cX11_frame 8 = .ok (.aload_n 0, 1) := by decide +kernel
theorem dX11_frame_9 : decode cX11_frame 9 = .ok (.getfield 49, 3) := by decide +kernel
theorem dX11_frame_12 : decode cX11_frame 12 = .ok (.iload_n 1, 1) := by decide +kernel
theorem dX11_frame_13 : decode cX11_frame 13 = .ok (.invokevirtual 268, 3) := by decide +kernel
theorem dX11_frame_16 : decode cX11_frame 16 = .ok (.ireturn, 1) := by decide +kernel
theorem dX11_isIn_0 : decode cX11_isIn 0 = .ok (.iload_n 0, 1) := by decide +kernel
theorem dX11_isIn_1 : decode cX11_isIn 1 = .ok (.iload_n 1, 1) := by decide +kernel
theorem dX11_isIn_2 : decode cX11_isIn 2 = .ok (.if_icmp .lt 12, 3) := by decide +kernel
theorem dX11_isIn_5 : decode cX11_isIn 5 = .ok (.iload_n 0, 1) := by decide +kernel
theorem dX11_isIn_6 : decode cX11_isIn 6 = .ok (.iload_n 2, 1) := by decide +kernel
theorem dX11_isIn_7 : decode cX11_isIn 7 = .ok (.if_icmp .gt 7, 3) := by decide +kernel
theorem dX11_isIn_10 : decode cX11_isIn 10 = .ok (.iconst 1, 1) := by decide +kernel
theorem dX11_isIn_11 : decode cX11_isIn 11 = .ok (.goto 4, 3) := by decide +kernel
theorem dX11_isIn_14 : decode cX11_isIn 14 = .ok (.iconst 0, 1) := by decide +kernel
theorem dX11_isIn_15 : decode cX11_isIn 15 = .ok (.ireturn, 1) := by decide +kernel
theorem dX11_isTrace_0 : decode cX11_isTrace 0 = .ok (.iload_n 0, 1) := by decide +kernel
theorem dX11_isTrace_1 : decode cX11_isTrace 1 = .ok (.iconst 0, 1) := by decide +kernel
theorem dX11_isTrace_2 : decode cX11_isTrace 2 = .ok (.iconst 3, 1) := by decide +kernel
theorem dX11_isTrace_3 : decode cX11_isTrace 3 = .ok (.invokestatic 96, 3) := by decide +kernel
theorem dX11_isTrace_6 : decode cX11_isTrace 6 = .ok (.ireturn, 1) := by decide +kernel
theorem dX11_hasTrace_0 : decode cX11_hasTrace 0 = .ok (.aload_n 0, 1) := by decide +kernel
theorem dX11_hasTrace_1 : decode cX11_hasTrace 1 = .ok (.getfield 28, 3) := by decide +kernel
theorem dX11_hasTrace_4 : decode cX11_hasTrace 4 = .ok (.getfield 109, 3) := by decide +kernel
theorem dX11_hasTrace_7 : decode cX11_hasTrace 7 = .ok (.iload_n 1, 1) := by decide +kernel
theorem dX11_hasTrace_8 : decode cX11_hasTrace 8 = .ok (.invokevirtual 168, 3) := by decide +kernel
theorem dX11_hasTrace_11 : decode cX11_hasTrace 11 = .ok (.ifCond .eq 14, 3) := by decide +kernel
theorem dX11_hasTrace_14 : decode cX11_hasTrace 14 = .ok (.iload_n 2, 1) := by decide +kernel
theorem dX11_hasTrace_15 : decode cX11_hasTrace 15 = .ok (.invokestatic 127, 3) := by decide +kernel
theorem dX11_hasTrace_18 : decode cX11_hasTrace 18 = .ok (.ifCond .eq 7, 3) := by decide +kernel
theorem dX11_hasTrace_21 : decode cX11_hasTrace 21 = .ok (.iconst 1, 1) := by decide +kernel
theorem dX11_hasTrace_22 : decode cX11_hasTrace 22 = .ok (.goto 4, 3) := by decide +kernel
theorem dX11_hasTrace_25 : decode cX11_hasTrace 25 = .ok (.iconst 0, 1) := by decide +kernel
theorem dX11_hasTrace_26 : decode cX11_hasTrace 26 = .ok (.ireturn, 1) := by decide +kernel
theorem dX11_isFilled_0 : decode cX11_isFilled 0 = .ok (.iload_n 1, 1) := by decide +kernel
theorem dX11_isFilled_1 : decode cX11_isFilled 1 = .ok (.iconst 0, 1) := by decide +kernel
theorem dX11_isFilled_2 : decode cX11_isFilled 2 = .ok (.iconst 3, 1) := by decide +kernel
theorem dX11_isFilled_3 : decode cX11_isFilled 3 = .ok (.invokestatic 96, 3) := by decide +kernel
theorem dX11_isFilled_6 : decode cX11_isFilled 6 = .ok (.ifCond .eq 19, 3) := by decide +kernel
theorem dX11_isFilled_9 : decode cX11_isFilled 9 = .ok (.aload_n 0, 1) := by decide +kernel
theorem dX11_isFilled_10 : decode cX11_isFilled 10 = .ok (.getfield 41, 3) := by decide +kernel
theorem dX11_isFilled_13 : decode cX11_isFilled 13 = .ok (.iload_n 1, 1) := by decide +kernel
theorem dX11_isFilled_14 : decode cX11_isFilled 14 = .ok (.aaload, 1) := by decide +kernel
theorem dX11_isFilled_15 : decode cX11_isFilled 15 = .ok (.getfield 130, 3) := by decide +kernel
theorem dX11_isFilled_18 : decode cX11_isFilled 18 = .ok (.ifCond .le 7, 3) := by decide +kernel
theorem dX11_isFilled_21 : decode cX11_isFilled 21 = .ok (.iconst 1, 1) := by decide +kernel
theorem dX11_isFilled_22 : decode cX11_isFilled 22 = .ok (.goto 4, 3) := by decide +kernel
theorem dX11_isFilled_25 : decode cX11_isFilled 25 = .ok (.iconst 0, 1) := by decide +kernel
theorem dX11_isFilled_26 : decode cX11_isFilled 26 = .ok (.ireturn, 1) := by decide +kernel
theorem dX11_numberOn_0 : decode cX11_numberOn 0 = .ok (.iload_n 1, 1) := by decide +kernel
theorem dX11_numberOn_1 : decode cX11_numberOn 1 = .ok (.bipush 24, 2) := by decide +kernel
theorem dX11_numberOn_3 : decode cX11_numberOn 3 = .ok (.bipush 8, 2) := by decide +kernel
theorem dX11_numberOn_5 : decode cX11_numberOn 5 = .ok (.iload_n 0, 1) := by decide +kernel
theorem dX11_numberOn_6 : decode cX11_numberOn 6 = .ok (.imul, 1) := by decide +kernel
theorem dX11_numberOn_7 : decode cX11_numberOn 7 = .ok (.isub, 1) := by decide +kernel
theorem dX11_numberOn_8 : decode cX11_numberOn 8 = .ok (.ishr, 1) := by decide +kernel
theorem dX11_numberOn_9 : decode cX11_numberOn 9 = .ok (.i2b, 1) := by decide +kernel
theorem dX11_numberOn_10 : decode cX11_numberOn 10 = .ok (.ireturn, 1) := by decide +kernel
theorem dX11_sampleOn_0 : decode cX11_sampleOn 0 = .ok (.iload_n 1, 1) := by decide +kernel
theorem dX11_sampleOn_1 : decode cX11_sampleOn 1 = .ok (.sipush 255, 3) := by decide +kernel
theorem dX11_sampleOn_4 : decode cX11_sampleOn 4 = .ok (.iand, 1) := by decide +kernel
theorem dX11_sampleOn_5 : decode cX11_sampleOn 5 = .ok (.bipush 24, 2) := by decide +kernel
theorem dX11_sampleOn_7 : decode cX11_sampleOn 7 = .ok (.bipush 8, 2) := by decide +kernel
theorem dX11_sampleOn_9 : decode cX11_sampleOn 9 = .ok (.iload_n 0, 1) := by decide +kernel
theorem dX11_sampleOn_10 : decode cX11_sampleOn 10 = .ok (.imul, 1) := by decide +kernel
theorem dX11_sampleOn_11 : decode cX11_sampleOn 11 = .ok (.isub, 1) := by decide +kernel
theorem dX11_sampleOn_12 : decode cX11_sampleOn 12 = .ok (.ishl, 1) := by decide +kernel
theorem dX11_sampleOn_13 : decode cX11_sampleOn 13 = .ok (.ireturn, 1) := by decide +kernel
theorem dX12_init_0 : decode cX12_init 0 = .ok (.aload_n 0, 1) := by decide +kernel
theorem dX12_init_1 : decode cX12_init 1 = .ok (.invokespecial 1, 3) := by decide +kernel
theorem dX12_init_4 : decode cX12_init 4 = .ok (.aload_n 0, 1) := by decide +kernel
theorem dX12_init_5 : decode cX12_init 5 = .ok (.sipush 200, 3) := by decide +kernel
theorem dX12_init_8 : decode cX12_init 8 = .ok (.newarray .int, 2) := by decide +kernel
theorem dX12_init_10 : decode cX12_init 10 = .ok (.putfield 7, 3) := by decide +kernel
theorem dX12_init_13 : decode cX12_init 13 = .ok (.aload_n 0, 1) := by decide +kernel
theorem dX12_init_14 : decode cX12_init 14 = .ok (.ldc 13, 2) := by decide +kernel
theorem dX12_init_16 : decode cX12_init 16 = .ok (.newarray .int, 2) := by decide +kernel
theorem dX12_init_18 : decode cX12_init 18 = .ok (.putfield 14, 3) := by decide +kernel
theorem dX12_init_21 : decode cX12_init 21 = .ok (.aload_n 0, 1) := by decide +kernel
theorem dX12_init_22 : decode cX12_init 22 = .ok (.bipush 6, 2) := by decide +kernel
theorem dX12_init_24 : decode cX12_init 24 = .ok (.newarray .int, 2) := by decide +kernel
theorem dX12_init_26 : decode cX12_init 26 = .ok (.putfield 17, 3) := by decide +kernel
theorem dX12_init_29 : decode cX12_init 29 = .ok (.aload_n 0, 1) := by decide +kernel
theorem dX12_init_30 : decode cX12_init 30 = .ok (.bipush 6, 2) := by decide +kernel
theorem dX12_init_32 : decode cX12_init 32 = .ok (.newarray .int, 2) := by decide +kernel
theorem dX12_init_34 : decode cX12_init 34 = .ok (.putfield 20, 3) := by decide +kernel
theorem dX12_init_37 : decode cX12_init 37 = .ok (.aload_n 0, 1) := by decide +kernel
theorem dX12_init_38 : decode cX12_init 38 = .ok (.bipush 6, 2) := by decide +kernel
theorem dX12_init_40 : decode cX12_init 40 = .ok (.newarray .int, 2) := by decide +kernel
theorem dX12_init_42 : decode cX12_init 42 = .ok (.putfield 23, 3) := by decide +kernel
theorem dX12_init_45 : decode cX12_init 45 = .ok (.aload_n 0, 1) := by decide +kernel
theorem dX12_init_46 : decode cX12_init 46 = .ok (.bipush 6, 2) := by decide +kernel
theorem dX12_init_48 : decode cX12_init 48 = .ok (.newarray .int, 2) := by decide +kernel
theorem dX12_init_50 : decode cX12_init 50 = .ok (.putfield 26, 3) := by decide +kernel
theorem dX12_init_53 : decode cX12_init 53 = .ok (.aload_n 0, 1) := by decide +kernel
theorem dX12_init_54 : decode cX12_init 54 = .ok (.bipush 6, 2) := by decide +kernel
theorem dX12_init_56 : decode cX12_init 56 = .ok (.newarray .int, 2) := by decide +kernel
theorem dX12_init_58 : decode cX12_init 58 = .ok (.putfield 29, 3) := by decide +kernel
theorem dX12_init_61 : decode cX12_init 61 = .ok (.aload_n 0, 1) := by decide +kernel
theorem dX12_init_62 : decode cX12_init 62 = .ok (.bipush 6, 2) := by decide +kernel
theorem dX12_init_64 : decode cX12_init 64 = .ok (.newarray .int, 2) := by decide +kernel
theorem dX12_init_66 : decode cX12_init 66 = .ok (.putfield 32, 3) := by decide +kernel
theorem dX12_init_69 : decode cX12_init 69 = .ok (.aload_n 0, 1) := by decide +kernel
theorem dX12_init_70 : decode cX12_init 70 = .ok (.bipush 6, 2) := by decide +kernel
theorem dX12_init_72 : decode cX12_init 72 = .ok (.newarray .int, 2) := by decide +kernel
theorem dX12_init_74 : decode cX12_init 74 = .ok (.putfield 35, 3) := by decide +kernel
theorem dX12_init_77 : decode cX12_init 77 = .ok (.aload_n 0, 1) := by decide +kernel
theorem dX12_init_78 : decode cX12_init 78 = .ok (.bipush 6, 2) := by decide +kernel
theorem dX12_init_80 : decode cX12_init 80 = .ok (.newarray .int, 2) := by decide +kernel
theorem dX12_init_82 : decode cX12_init 82 = .ok (.putfield 38, 3) := by decide +kernel
theorem dX12_init_85 : decode cX12_init 85 = .ok (.aload_n 0, 1) := by decide +kernel
theorem dX12_init_86 : decode cX12_init 86 = .ok (.bipush 6, 2) := by decide +kernel
theorem dX12_init_88 : decode cX12_init 88 = .ok (.newarray .int, 2) := by decide +kernel
theorem dX12_init_90 : decode cX12_init 90 = .ok (.putfield 41, 3) := by decide +kernel
theorem dX12_init_93 : decode cX12_init 93 = .ok (.aload_n 0, 1) := by decide +kernel
theorem dX12_init_94 : decode cX12_init 94 = .ok (.bipush 6, 2) := by decide +kernel
theorem dX12_init_96 : decode cX12_init 96 = .ok (.newarray .int, 2) := by decide +kernel
theorem dX12_init_98 : decode cX12_init 98 = .ok (.putfield 44, 3) := by decide +kernel
theorem dX12_init_101 : decode cX12_init 101 = .ok (.aload_n 0, 1) := by decide +kernel
theorem dX12_init_102 : decode cX12_init 102 = .ok (.bipush 6, 2) := by decide +kernel
theorem dX12_init_104 : decode cX12_init 104 = .ok (.newarray .int, 2) := by decide +kernel
theorem dX12_init_106 : decode cX12_init 106 = .ok (.putfield 47, 3) := by decide +kernel
theorem dX12_init_109 : decode cX12_init 109 = .ok (.aload_n 0, 1) := by decide +kernel
theorem dX12_init_110 : decode cX12_init 110 = .ok (.bipush 6, 2) := by decide +kernel
theorem dX12_init_112 : decode cX12_init 112 = .ok (.newarray .int, 2) := by decide +kernel
theorem dX12_init_114 : decode cX12_init 114 = .ok (.putfield 50, 3) := by decide +kernel
theorem dX12_init_117 : decode cX12_init 117 = .ok (.aload_n 0, 1) := by decide +kernel
theorem dX12_init_118 : decode cX12_init 118 = .ok (.bipush 8, 2) := by decide +kernel
theorem dX12_init_120 : decode cX12_init 120 = .ok (.putfield 53, 3) := by decide +kernel
theorem dX12_init_123 : decode cX12_init 123 = .ok (.aload_n 0, 1) := by decide +kernel
theorem dX12_init_124 : decode cX12_init 124 = .ok (.bipush 8, 2) := by decide +kernel
theorem dX12_init_126 : decode cX12_init 126 = .ok (.putfield 57, 3) := by decide +kernel
theorem dX12_init_129 : decode cX12_init 129 = .ok (.aload_n 0, 1) := by decide +kernel
theorem dX12_init_130 : decode cX12_init 130 = .ok (.bipush 8, 2) := by decide +kernel
theorem dX12_init_132 : decode cX12_init 132 = .ok (.newarray .int, 2) := by decide +kernel
theorem dX12_init_134 : decode cX12_init 134 = .ok (.putfield 60, 3) := by decide +kernel
theorem dX12_init_137 : decode cX12_init 137 = .ok (.aload_n 0, 1) := by decide +kernel
theorem dX12_init_138 : decode cX12_init 138 = .ok (.bipush 8, 2) := by decide +kernel
theorem dX12_init_140 : decode cX12_init 140 = .ok (.newarray .int, 2) := by decide +kernel
theorem dX12_init_142 : decode cX12_init 142 = .ok (.putfield 63, 3) := by decide +kernel
theorem dX12_init_145 : decode cX12_init 145 = .ok (.aload_n 0, 1) := by decide +kernel
theorem dX12_init_146 : decode cX12_init 146 = .ok (.bipush 8, 2) := by decide +kernel
theorem dX12_init_148 : decode cX12_init 148 = .ok (.newarray .int, 2) := by decide +kernel
theorem dX12_init_150 : decode cX12_init 150 = .ok (.putfield 66, 3) := by decide +kernel
theorem dX12_init_153 : decode cX12_init 153 = .ok (.aload_n 0, 1) := by decide +kernel
theorem dX12_init_154 : decode cX12_init 154 = .ok (.sipush 1608, 3) := by decide +kernel
theorem dX12_init_157 : decode cX12_init 157 = .ok (.newarray .int, 2) := by decide +kernel
theorem dX12_init_159 : decode cX12_init 159 = .ok (.putfield 69, 3) := by decide +kernel
theorem dX12_init_162 : decode cX12_init 162 = .ok (.aload_n 0, 1) := by decide +kernel
theorem dX12_init_163 : decode cX12_init 163 = .ok (.iconst 4, 1) := by decide +kernel
theorem dX12_init_164 : decode cX12_init 164 = .ok (.newarray .int, 2) := by decide +kernel
theorem dX12_init_166 : decode cX12_init 166 = .ok (.putfield 72, 3) := by decide +kernel
theorem dX12_init_169 : decode cX12_init 169 = .ok (.aload_n 0, 1) := by decide +kernel
theorem dX12_init_170 : decode cX12_init 170 = .ok (.iconst 4, 1) := by decide +kernel
theorem dX12_init_171 : decode cX12_init 171 = .ok (.newarray .int, 2) := by decide +kernel
theorem dX12_init_173 : decode cX12_init 173 = .ok (.putfield 75, 3) := by decide +kernel
theorem dX12_init_176 : decode cX12_init 176 = .ok (.aload_n 0, 1) := by decide +kernel
theorem dX12_init_177 : decode cX12_init 177 = .ok (.sipush 256, 3) := by decide +kernel
theorem dX12_init_180 : decode cX12_init 180 = .ok (.newarray .int, 2) := by decide +kernel
theorem dX12_init_182 : decode cX12_init 182 = .ok (.putfield 78, 3) := by decide +kernel
theorem dX12_init_185 : decode cX12_init 185 = .ok (.aload_n 0, 1) := by decide +kernel
theorem dX12_init_186 : decode cX12_init 186 = .ok (.bipush (-4), 2) := by decide +kernel
theorem dX12_init_188 : decode cX12_init 188 = .ok (.putfield 81, 3) := by decide +kernel
theorem dX12_init_191 : decode cX12_init 191 = .ok (.aload_n 0, 1) := by decide +kernel
theorem dX12_init_192 : decode cX12_init 192 = .ok (.iconst 4, 1) := by decide +kernel
theorem dX12_init_193 : decode cX12_init 193 = .ok (.newarray .int, 2) := by decide +kernel
theorem dX12_init_195 : decode cX12_init 195 = .ok (.putfield 84, 3) := by decide +kernel
theorem dX12_init_198 : decode cX12_init 198 = .ok (.aload_n 0, 1) := by decide +kernel
theorem dX12_init_199 : decode cX12_init 199 = .ok (.sipush 804, 3) := by decide +kernel
theorem dX12_init_202 : decode cX12_init 202 = .ok (.newarray .long, 2) := by decide +kernel
theorem dX12_init_204 : decode cX12_init 204 = .ok (.putfield 87, 3) := by decide +kernel
theorem dX12_init_207 : decode cX12_init 207 = .ok (.aload_n 0, 1) := by decide +kernel
theorem dX12_init_208 : decode cX12_init 208 = .ok (.sipush 804, 3) := by decide +kernel
theorem dX12_init_211 : decode cX12_init 211 = .ok (.newarray .boolean, 2) := by decide +kernel
theorem dX12_init_213 : decode cX12_init 213 = .ok (.putfield 91, 3) := by decide +kernel
theorem dX12_init_216 : decode cX12_init 216 = .ok (.aload_n 0, 1) := by decide +kernel
theorem dX12_init_217 : decode cX12_init 217 = .ok (.sipush 201, 3) := by decide +kernel
theorem dX12_init_220 : decode cX12_init 220 = .ok (.newarray .long, 2) := by decide +kernel
theorem dX12_init_222 : decode cX12_init 222 = .ok (.putfield 95, 3) := by decide +kernel
theorem dX12_init_225 : decode cX12_init 225 = .ok (.aload_n 0, 1) := by decide +kernel
theorem dX12_init_226 : decode cX12_init 226 = .ok (.sipush 201, 3) := by decide +kernel
theorem dX12_init_229 : decode cX12_init 229 = .ok (.newarray .boolean, 2) := by decide +kernel
theorem dX12_init_231 : decode cX12_init 231 = .ok (.putfield 98, 3) := by decide +kernel
theorem dX12_init_234 : decode cX12_init 234 = .ok (.aload_n 0, 1) := by decide +kernel
theorem dX12_init_235 : decode cX12_init 235 = .ok (.bipush 20, 2) := by decide +kernel
theorem dX12_init_237 : decode cX12_init 237 = .ok (.newarray .int, 2) := by decide +kernel
theorem dX12_init_239 : decode cX12_init 239 = .ok (.putfield 101, 3) := by decide +kernel
theorem dX12_init_242 : decode cX12_init 242 = .ok (.aload_n 0, 1) := by decide +kernel
theorem dX12_init_243 : decode cX12_init 243 = .ok (.bipush 20, 2) := by decide +kernel
theorem dX12_init_245 : decode cX12_init 245 = .ok (.newarray .int, 2) := by decide +kernel
theorem dX12_init_247 : decode cX12_init 247 = .ok (.putfield 104, 3) := by decide +kernel
theorem dX12_init_250 : decode cX12_init 250 = .ok (.aload_n 0, 1) := by decide +kernel
theorem dX12_init_251 : decode cX12_init 251 = .ok (.bipush (-4), 2) := by decide +kernel
theorem dX12_init_253 : decode cX12_init 253 = .ok (.putfield 107, 3) := by decide +kernel
theorem dX12_init_256 : decode cX12_init 256 = .ok (.iconst 0, 1) := by decide +kernel
theorem dX12_init_257 : decode cX12_init 257 = .ok (.istore_n 1, 1) := by decide +kernel
theorem dX12_init_258 : decode cX12_init 258 = .ok (.iload_n 1, 1) := by decide +kernel
theorem dX12_init_259 : decode cX12_init 259 = .ok (.iconst 4, 1) := by decide +kernel
theorem dX12_init_260 : decode cX12_init 260 = .ok (.if_icmp .ge 25, 3) := by decide +kernel
theorem dX12_init_263 : decode cX12_init 263 = .ok (.aload_n 0, 1) := by decide +kernel
theorem dX12_init_264 : decode cX12_init 264 = .ok (.getfield 72, 3) := by decide +kernel
theorem dX12_init_267 : decode cX12_init 267 = .ok (.iload_n 1, 1) := by decide +kernel
theorem dX12_init_268 : decode cX12_init 268 = .ok (.bipush (-4), 2) := by decide +kernel
theorem dX12_init_270 : decode cX12_init 270 = .ok (.iastore, 1) := by decide +kernel
theorem dX12_init_271 : decode cX12_init 271 = .ok (.aload_n 0, 1) := by decide +kernel
theorem dX12_init_272 : decode cX12_init 272 = .ok (.getfield 84, 3) := by decide +kernel
theorem dX12_init_275 : decode cX12_init 275 = .ok (.iload_n 1, 1) := by decide +kernel
theorem dX12_init_276 : decode cX12_init 276 = .ok (.bipush (-4), 2) := by decide +kernel
theorem dX12_init_278 : decode cX12_init 278 = .ok (.iastore, 1) := by decide +kernel
theorem dX12_init_279 : decode cX12_init 279 = .ok (.iinc 1 1, 3) := by decide +kernel
theorem dX12_init_282 : decode cX12_init 282 = .ok (.goto (-24), 3) := by decide +kernel
theorem dX12_init_285 : decode cX12_init 285 = .ok (.return_, 1) := by decide +kernel
theorem dX12_in_0 : decode cX12_in 0 = .ok (.lload_n 0, 1) := by decide +kernel
theorem dX12_in_1 : decode cX12_in 1 = .ok (.lload_n 2, 1) := by decide +kernel
theorem dX12_in_2 : decode cX12_in 2 = .ok (.lcmp, 1) := by decide +kernel
theorem dX12_in_3 : decode cX12_in 3 = .ok (.ifCond .lt 14, 3) := by decide +kernel
theorem dX12_in_6 : decode cX12_in 6 = .ok (.lload_n 0, 1) := by decide +kernel
theorem dX12_in_7 : decode cX12_in 7 = .ok (.lload 4, 2) := by decide +kernel
theorem dX12_in_9 : decode cX12_in 9 = .ok (.lcmp, 1) := by decide +kernel
theorem dX12_in_10 : decode cX12_in 10 = .ok (.ifCond .gt 7, 3) := by decide +kernel
theorem dX12_in_13 : decode cX12_in 13 = .ok (.iconst 1, 1) := by decide +kernel
theorem dX12_in_14 : decode cX12_in 14 = .ok (.goto 4, 3) := by decide +kernel
theorem dX12_in_17 : decode cX12_in 17 = .ok (.iconst 0, 1) := by decide +kernel
theorem dX12_in_18 : decode cX12_in 18 = .ok (.ireturn, 1) := by decide +kernel
theorem dX12_feed_0 : decode cX12_feed 0 = .ok (.aload_n 0, 1) := by decide +kernel
theorem dX12_feed_1 : decode cX12_feed 1 = .ok (.getfield 110, 3) := by decide +kernel
theorem dX12_feed_4 : decode cX12_feed 4 = .ok (.bipush 8, 2) := by decide +kernel
theorem dX12_feed_6 : decode cX12_feed 6 = .ok (.iadd, 1) := by decide +kernel
theorem dX12_feed_7 : decode cX12_feed 7 = .ok (.sipush 200, 3) := by decide +kernel
theorem dX12_feed_10 : decode cX12_feed 10 = .ok (.if_icmp .le 6, 3) := by decide +kernel
theorem dX12_feed_13 : decode cX12_feed 13 = .ok (.bipush (-3), 2) := by decide +kernel
theorem dX12_feed_15 : decode cX12_feed 15 = .ok (.ireturn, 1) := by decide +kernel
theorem dX12_feed_16 : decode cX12_feed 16 = .ok (.bipush 56, 2) := by decide +kernel
theorem dX12_feed_18 : decode cX12_feed 18 = .ok (.istore_n 3, 1) := by decide +kernel
theorem dX12_feed_19 : decode cX12_feed 19 = .ok (.iload_n 3, 1) := by decide +kernel
theorem dX12_feed_20 : decode cX12_feed 20 = .ok (.ifCond .lt 36, 3) := by decide +kernel
theorem dX12_feed_23 : decode cX12_feed 23 = .ok (.aload_n 0, 1) := by decide +kernel
theorem dX12_feed_24 : decode cX12_feed 24 = .ok (.getfield 7, 3) := by decide +kernel
theorem dX12_feed_27 : decode cX12_feed 27 = .ok (.aload_n 0, 1) := by decide +kernel
theorem dX12_feed_28 : decode cX12_feed 28 = .ok (.getfield 110, 3) := by decide +kernel
theorem dX12_feed_31 : decode cX12_feed 31 = .ok (.lload_n 1, 1) := by decide +kernel
theorem dX12_feed_32 : decode cX12_feed 32 = .ok (.iload_n 3, 1) := by decide +kernel
theorem dX12_feed_33 : decode cX12_feed 33 = .ok (.lshr, 1) := by decide +kernel
theorem dX12_feed_34 : decode cX12_feed 34 = .ok (.ldc2_w 113, 3) := by decide +kernel
theorem dX12_feed_37 : decode cX12_feed 37 = .ok (.land, 1) := by decide +kernel
theorem dX12_feed_38 : decode cX12_feed 38 = .ok (.l2i, 1) := by decide +kernel
theorem dX12_feed_39 : decode cX12_feed 39 = .ok (.iastore, 1) := by decide +kernel
theorem dX12_feed_40 : decode cX12_feed 40 = .ok (.aload_n 0, 1) := by decide +kernel
theorem dX12_feed_41 : decode cX12_feed 41 = .ok (.dup, 1) := by decide +kernel
theorem dX12_feed_42 : decode cX12_feed 42 = .ok (.getfield 110, 3) := by decide +kernel
theorem dX12_feed_45 : decode cX12_feed 45 = .ok (.iconst 1, 1) := by decide +kernel
theorem dX12_feed_46 : decode cX12_feed 46 = .ok (.iadd, 1) := by decide +kernel
theorem dX12_feed_47 : decode cX12_feed 47 = .ok (.putfield 110, 3) := by decide +kernel
theorem dX12_feed_50 : decode cX12_feed 50 = .ok (.iinc 3 (-8), 3) := by decide +kernel
theorem dX12_feed_53 : decode cX12_feed 53 = .ok (.goto (-34), 3) := by decide +kernel
theorem dX12_feed_56 : decode cX12_feed 56 = .ok (.aload_n 0, 1) := by decide +kernel
theorem dX12_feed_57 : decode cX12_feed 57 = .ok (.getfield 110, 3) := by decide +kernel
theorem dX12_feed_60 : decode cX12_feed 60 = .ok (.ireturn, 1) := by decide +kernel
theorem dX12_end_0 : decode cX12_end 0 = .ok (.iload_n 1, 1) := by decide +kernel
theorem dX12_end_1 : decode cX12_end 1 = .ok (.i2l, 1) := by decide +kernel
theorem dX12_end_2 : decode cX12_end 2 = .ok (.lconst 0, 1) := by decide +kernel
theorem dX12_end_3 : decode cX12_end 3 = .ok (.aload_n 0, 1) := by decide +kernel
theorem dX12_end_4 : decode cX12_end 4 = .ok (.getfield 110, 3) := by decide +kernel
theorem dX12_end_7 : decode cX12_end 7 = .ok (.i2l, 1) := by decide +kernel
theorem dX12_end_8 : decode cX12_end 8 = .ok (.invokestatic 115, 3) := by decide +kernel
theorem dX12_end_11 : decode cX12_end 11 = .ok (.ifCond .ne 5, 3) := by decide +kernel
theorem dX12_end_14 : decode cX12_end 14 = .ok (.iconst (-1), 1) := by decide +kernel
theorem dX12_end_15 : decode cX12_end 15 = .ok (.ireturn, 1) := by decide +kernel
theorem dX12_end_16 : decode cX12_end 16 = .ok (.aload_n 0, 1) := by decide +kernel
theorem dX12_end_17 : decode cX12_end 17 = .ok (.getfield 110, 3) := by decide +kernel
theorem dX12_end_20 : decode cX12_end 20 = .ok (.istore_n 2, 1) := by decide +kernel
theorem dX12_end_21 : decode cX12_end 21 = .ok (.aload_n 0, 1) := by decide +kernel
theorem dX12_end_22 : decode cX12_end 22 = .ok (.iload_n 1, 1) := by decide +kernel
theorem dX12_end_23 : decode cX12_end 23 = .ok (.putfield 110, 3) := by decide +kernel
theorem dX12_end_26 : decode cX12_end 26 = .ok (.iload_n 2, 1) := by decide +kernel
theorem dX12_end_27 : decode cX12_end 27 = .ok (.ireturn, 1) := by decide +kernel
theorem dX12_fails_0 : decode cX12_fails 0 = .ok (.aload_n 0, 1) := by decide +kernel
theorem dX12_fails_1 : decode cX12_fails 1 = .ok (.getfield 119, 3) := by decide +kernel
theorem dX12_fails_4 : decode cX12_fails 4 = .ok (.ifCond .ne 13, 3) := by decide +kernel
theorem dX12_fails_7 : decode cX12_fails 7 = .ok (.aload_n 0, 1) := by decide +kernel
theorem dX12_fails_8 : decode cX12_fails 8 = .ok (.iload_n 1, 1) := by decide +kernel
theorem dX12_fails_9 : decode cX12_fails 9 = .ok (.putfield 119, 3) := by decide +kernel
theorem dX12_fails_12 : decode cX12_fails 12 = .ok (.aload_n 0, 1) := by decide +kernel
theorem dX12_fails_13 : decode cX12_fails 13 = .ok (.iload_n 2, 1) := by decide +kernel
theorem dX12_fails_14 : decode cX12_fails 14 = .ok (.putfield 122, 3) := by decide +kernel
theorem dX12_fails_17 : decode cX12_fails 17 = .ok (.return_, 1) := by decide +kernel
theorem dX12_look_0 : decode cX12_look 0 = .ok (.aload_n 0, 1) := by decide +kernel
theorem dX12_look_1 : decode cX12_look 1 = .ok (.getfield 125, 3) := by decide +kernel
theorem dX12_look_4 : decode cX12_look 4 = .ok (.aload_n 0, 1) := by decide +kernel
theorem dX12_look_5 : decode cX12_look 5 = .ok (.getfield 110, 3) := by decide +kernel
theorem dX12_look_8 : decode cX12_look 8 = .ok (.if_icmp .ge 15, 3) := by decide +kernel
theorem dX12_look_11 : decode cX12_look 11 = .ok (.aload_n 0, 1) := by decide +kernel
theorem dX12_look_12 : decode cX12_look 12 = .ok (.getfield 7, 3) := by decide +kernel
theorem dX12_look_15 : decode cX12_look 15 = .ok (.aload_n 0, 1) := by decide +kernel
theorem dX12_look_16 : decode cX12_look 16 = .ok (.getfield 125, 3) := by decide +kernel
theorem dX12_look_19 : decode cX12_look 19 = .ok (.iaload, 1) := by decide +kernel
theorem dX12_look_20 : decode cX12_look 20 = .ok (.goto 4, 3) := by decide +kernel
theorem dX12_look_23 : decode cX12_look 23 = .ok (.iconst (-1), 1) := by decide +kernel
theorem dX12_look_24 : decode cX12_look 24 = .ok (.ireturn, 1) := by decide +kernel
theorem dX12_packed_0 : decode cX12_packed 0 = .ok (.lconst 0, 1) := by decide +kernel
theorem dX12_packed_1 : decode cX12_packed 1 = .ok (.lstore 6, 2) := by decide +kernel
theorem dX12_packed_3 : decode cX12_packed 3 = .ok (.iload_n 0, 1) := by decide +kernel
theorem dX12_packed_4 : decode cX12_packed 4 = .ok (.ifCond .le 19, 3) := by decide +kernel
theorem dX12_packed_7 : decode cX12_packed 7 = .ok (.ldc2_w 128, 3) := by decide +kernel
theorem dX12_packed_10 : decode cX12_packed 10 = .ok (.lload 6, 2) := by decide +kernel
theorem dX12_packed_12 : decode cX12_packed 12 = .ok (.lmul, 1) := by decide +kernel
theorem dX12_packed_13 : decode cX12_packed 13 = .ok (.iload_n 0, 1) := by decide +kernel
theorem dX12_packed_14 : decode cX12_packed 14 = .ok (.i2l, 1) := by decide +kernel
theorem dX12_packed_15 : decode cX12_packed 15 = .ok (.ladd, 1) := by decide +kernel
theorem dX12_packed_16 : decode cX12_packed 16 = .ok (.ldc2_w 130, 3) := by decide +kernel
theorem dX12_packed_19 : decode cX12_packed 19 = .ok (.lsub, 1) := by decide +kernel
theorem dX12_packed_20 : decode cX12_packed 20 = .ok (.goto 5, 3) := by decide +kernel
theorem dX12_packed_23 : decode cX12_packed 23 = .ok (.lload 6, 2) := by decide +kernel
theorem dX12_packed_25 : decode cX12_packed 25 = .ok (.lstore 6, 2) := by decide +kernel
theorem dX12_packed_27 : decode cX12_packed 27 = .ok (.iload_n 1, 1) := by decide +kernel
theorem dX12_packed_28 : decode cX12_packed 28 = .ok (.ifCond .le 19, 3) := by decide +kernel
theorem dX12_packed_31 : decode cX12_packed 31 = .ok (.ldc2_w 128, 3) := by decide +kernel
theorem dX12_packed_34 : decode cX12_packed 34 = .ok (.lload 6, 2) := by decide +kernel
theorem dX12_packed_36 : decode cX12_packed 36 = .ok (.lmul, 1) := by decide +kernel
theorem dX12_packed_37 : decode cX12_packed 37 = .ok (.iload_n 1, 1) := by decide +kernel
theorem dX12_packed_38 : decode cX12_packed 38 = .ok (.i2l, 1) := by decide +kernel
theorem dX12_packed_39 : decode cX12_packed 39 = .ok (.ladd, 1) := by decide +kernel
theorem dX12_packed_40 : decode cX12_packed 40 = .ok (.ldc2_w 130, 3) := by decide +kernel
theorem dX12_packed_43 : decode cX12_packed 43 = .ok (.lsub, 1) := by decide +kernel
theorem dX12_packed_44 : decode cX12_packed 44 = .ok (.goto 5, 3) := by decide +kernel
theorem dX12_packed_47 : decode cX12_packed 47 = .ok (.lload 6, 2) := by decide +kernel
theorem dX12_packed_49 : decode cX12_packed 49 = .ok (.lstore 6, 2) := by decide +kernel
theorem dX12_packed_51 : decode cX12_packed 51 = .ok (.iload_n 2, 1) := by decide +kernel
theorem dX12_packed_52 : decode cX12_packed 52 = .ok (.ifCond .le 19, 3) := by decide +kernel
theorem dX12_packed_55 : decode cX12_packed 55 = .ok (.ldc2_w 128, 3) := by decide +kernel
theorem dX12_packed_58 : decode cX12_packed 58 = .ok (.lload 6, 2) := by decide +kernel
theorem dX12_packed_60 : decode cX12_packed 60 = .ok (.lmul, 1) := by decide +kernel
theorem dX12_packed_61 : decode cX12_packed 61 = .ok (.iload_n 2, 1) := by decide +kernel
theorem dX12_packed_62 : decode cX12_packed 62 = .ok (.i2l, 1) := by decide +kernel
theorem dX12_packed_63 : decode cX12_packed 63 = .ok (.ladd, 1) := by decide +kernel
theorem dX12_packed_64 : decode cX12_packed 64 = .ok (.ldc2_w 130, 3) := by decide +kernel
theorem dX12_packed_67 : decode cX12_packed 67 = .ok (.lsub, 1) := by decide +kernel
theorem dX12_packed_68 : decode cX12_packed 68 = .ok (.goto 5, 3) := by decide +kernel
theorem dX12_packed_71 : decode cX12_packed 71 = .ok (.lload 6, 2) := by decide +kernel
theorem dX12_packed_73 : decode cX12_packed 73 = .ok (.lstore 6, 2) := by decide +kernel
theorem dX12_packed_75 : decode cX12_packed 75 = .ok (.iload_n 3, 1) := by decide +kernel
theorem dX12_packed_76 : decode cX12_packed 76 = .ok (.ifCond .le 19, 3) := by decide +kernel
theorem dX12_packed_79 : decode cX12_packed 79 = .ok (.ldc2_w 128, 3) := by decide +kernel
theorem dX12_packed_82 : decode cX12_packed 82 = .ok (.lload 6, 2) := by decide +kernel
theorem dX12_packed_84 : decode cX12_packed 84 = .ok (.lmul, 1) := by decide +kernel
theorem dX12_packed_85 : decode cX12_packed 85 = .ok (.iload_n 3, 1) := by decide +kernel
theorem dX12_packed_86 : decode cX12_packed 86 = .ok (.i2l, 1) := by decide +kernel
theorem dX12_packed_87 : decode cX12_packed 87 = .ok (.ladd, 1) := by decide +kernel
theorem dX12_packed_88 : decode cX12_packed 88 = .ok (.ldc2_w 130, 3) := by decide +kernel
theorem dX12_packed_91 : decode cX12_packed 91 = .ok (.lsub, 1) := by decide +kernel
theorem dX12_packed_92 : decode cX12_packed 92 = .ok (.goto 5, 3) := by decide +kernel
theorem dX12_packed_95 : decode cX12_packed 95 = .ok (.lload 6, 2) := by decide +kernel
theorem dX12_packed_97 : decode cX12_packed 97 = .ok (.lstore 6, 2) := by decide +kernel
theorem dX12_packed_99 : decode cX12_packed 99 = .ok (.iload 4, 2) := by decide +kernel
theorem dX12_packed_101 : decode cX12_packed 101 = .ok (.ifCond .le 20, 3) := by decide +kernel
theorem dX12_packed_104 : decode cX12_packed 104 = .ok (.ldc2_w 128, 3) := by decide +kernel
theorem dX12_packed_107 : decode cX12_packed 107 = .ok (.lload 6, 2) := by decide +kernel
theorem dX12_packed_109 : decode cX12_packed 109 = .ok (.lmul, 1) := by decide +kernel
theorem dX12_packed_110 : decode cX12_packed 110 = .ok (.iload 4, 2) := by decide +kernel
theorem dX12_packed_112 : decode cX12_packed 112 = .ok (.i2l, 1) := by decide +kernel
theorem dX12_packed_113 : decode cX12_packed 113 = .ok (.ladd, 1) := by decide +kernel
theorem dX12_packed_114 : decode cX12_packed 114 = .ok (.ldc2_w 130, 3) := by decide +kernel
theorem dX12_packed_117 : decode cX12_packed 117 = .ok (.lsub, 1) := by decide +kernel
theorem dX12_packed_118 : decode cX12_packed 118 = .ok (.goto 5, 3) := by decide +kernel
theorem dX12_packed_121 : decode cX12_packed 121 = .ok (.lload 6, 2) := by decide +kernel
theorem dX12_packed_123 : decode cX12_packed 123 = .ok (.lstore 6, 2) := by decide +kernel
theorem dX12_packed_125 : decode cX12_packed 125 = .ok (.iload 5, 2) := by decide +kernel
theorem dX12_packed_127 : decode cX12_packed 127 = .ok (.ifCond .le 20, 3) := by decide +kernel
theorem dX12_packed_130 : decode cX12_packed 130 = .ok (.ldc2_w 128, 3) := by decide +kernel
theorem dX12_packed_133 : decode cX12_packed 133 = .ok (.lload 6, 2) := by decide +kernel
theorem dX12_packed_135 : decode cX12_packed 135 = .ok (.lmul, 1) := by decide +kernel
theorem dX12_packed_136 : decode cX12_packed 136 = .ok (.iload 5, 2) := by decide +kernel
theorem dX12_packed_138 : decode cX12_packed 138 = .ok (.i2l, 1) := by decide +kernel
theorem dX12_packed_139 : decode cX12_packed 139 = .ok (.ladd, 1) := by decide +kernel
theorem dX12_packed_140 : decode cX12_packed 140 = .ok (.ldc2_w 130, 3) := by decide +kernel
theorem dX12_packed_143 : decode cX12_packed 143 = .ok (.lsub, 1) := by decide +kernel
theorem dX12_packed_144 : decode cX12_packed 144 = .ok (.goto 5, 3) := by decide +kernel
theorem dX12_packed_147 : decode cX12_packed 147 = .ok (.lload 6, 2) := by decide +kernel
theorem dX12_packed_149 : decode cX12_packed 149 = .ok (.lstore 6, 2) := by decide +kernel
theorem dX12_packed_151 : decode cX12_packed 151 = .ok (.lload 6, 2) := by decide +kernel
theorem dX12_packed_153 : decode cX12_packed 153 = .ok (.lreturn, 1) := by decide +kernel
theorem dX12_named_0 : decode cX12_named 0 = .ok (.lload_n 0, 1) := by decide +kernel
theorem dX12_named_1 : decode cX12_named 1 = .ok (.bipush 114, 2) := by decide +kernel
theorem dX12_named_3 : decode cX12_named 3 = .ok (.bipush 105, 2) := by decide +kernel
theorem dX12_named_5 : decode cX12_named 5 = .ok (.bipush 115, 2) := by decide +kernel
theorem dX12_named_7 : decode cX12_named 7 = .ok (.bipush 101, 2) := by decide +kernel
theorem dX12_named_9 : decode cX12_named 9 = .ok (.iconst 0, 1) := by decide +kernel
theorem dX12_named_10 : decode cX12_named 10 = .ok (.iconst 0, 1) := by decide +kernel
theorem dX12_named_11 : decode cX12_named 11 = .ok (.invokestatic 132, 3) := by decide +kernel
theorem dX12_named_14 : decode cX12_named 14 = .ok (.lcmp, 1) := by decide +kernel
theorem dX12_named_15 : decode cX12_named 15 = .ok (.ifCond .ne 5, 3) := by decide +kernel
theorem dX12_named_18 : decode cX12_named 18 = .ok (.iconst 0, 1) := by decide +kernel
theorem dX12_named_19 : decode cX12_named 19 = .ok (.ireturn, 1) := by decide +kernel
theorem dX12_named_20 : decode cX12_named 20 = .ok (.lload_n 0, 1) := by decide +kernel
theorem dX12_named_21 : decode cX12_named 21 = .ok (.bipush 102, 2) := by decide +kernel
theorem dX12_named_23 : decode cX12_named 23 = .ok (.bipush 97, 2) := by decide +kernel
theorem dX12_named_25 : decode cX12_named 25 = .ok (.bipush 108, 2) := by decide +kernel
theorem dX12_named_27 : decode cX12_named 27 = .ok (.bipush 108, 2) := by decide +kernel
theorem dX12_named_29 : decode cX12_named 29 = .ok (.iconst 0, 1) := by decide +kernel
theorem dX12_named_30 : decode cX12_named 30 = .ok (.iconst 0, 1) := by decide +kernel
theorem dX12_named_31 : decode cX12_named 31 = .ok (.invokestatic 132, 3) := by decide +kernel
theorem dX12_named_34 : decode cX12_named 34 = .ok (.lcmp, 1) := by decide +kernel
theorem dX12_named_35 : decode cX12_named 35 = .ok (.ifCond .ne 5, 3) := by decide +kernel
theorem dX12_named_38 : decode cX12_named 38 = .ok (.iconst 1, 1) := by decide +kernel
theorem dX12_named_39 : decode cX12_named 39 = .ok (.ireturn, 1) := by decide +kernel
theorem dX12_named_40 : decode cX12_named 40 = .ok (.lload_n 0, 1) := by decide +kernel
theorem dX12_named_41 : decode cX12_named 41 = .ok (.bipush 119, 2) := by decide +kernel
theorem dX12_named_43 : decode cX12_named 43 = .ok (.bipush 105, 2) := by decide +kernel
theorem dX12_named_45 : decode cX12_named 45 = .ok (.bipush 100, 2) := by decide +kernel
theorem dX12_named_47 : decode cX12_named 47 = .ok (.bipush 101, 2) := by decide +kernel
theorem dX12_named_49 : decode cX12_named 49 = .ok (.iconst 0, 1) := by decide +kernel
theorem dX12_named_50 : decode cX12_named 50 = .ok (.iconst 0, 1) := by decide +kernel
theorem dX12_named_51 : decode cX12_named 51 = .ok (.invokestatic 132, 3) := by decide +kernel
theorem dX12_named_54 : decode cX12_named 54 = .ok (.lcmp, 1) := by decide +kernel
theorem dX12_named_55 : decode cX12_named 55 = .ok (.ifCond .ne 5, 3) := by decide +kernel
theorem dX12_named_58 : decode cX12_named 58 = .ok (.iconst 2, 1) := by decide +kernel
theorem dX12_named_59 : decode cX12_named 59 = .ok (.ireturn, 1) := by decide +kernel
theorem dX12_named_60 : decode cX12_named 60 = .ok (.lload_n 0, 1) := by decide +kernel
theorem dX12_named_61 : decode cX12_named 61 = .ok (.bipush 116, 2) := by decide +kernel
theorem dX12_named_63 : decode cX12_named 63 = .ok (.bipush 104, 2) := by decide +kernel
theorem dX12_named_65 : decode cX12_named 65 = .ok (.bipush 105, 2) := by decide +kernel
theorem dX12_named_67 : decode cX12_named 67 = .ok (.bipush 110, 2) := by decide +kernel
theorem dX12_named_69 : decode cX12_named 69 = .ok (.iconst 0, 1) := by decide +kernel
theorem dX12_named_70 : decode cX12_named 70 = .ok (.iconst 0, 1) := by decide +kernel
theorem dX12_named_71 : decode cX12_named 71 = .ok (.invokestatic 132, 3) := by decide +kernel
theorem dX12_named_74 : decode cX12_named 74 = .ok (.lcmp, 1) := by decide +kernel
theorem dX12_named_75 : decode cX12_named 75 = .ok (.ifCond .ne 5, 3) := by decide +kernel
theorem dX12_named_78 : decode cX12_named 78 = .ok (.iconst 3, 1) := by decide +kernel
theorem dX12_named_79 : decode cX12_named 79 = .ok (.ireturn, 1) := by decide +kernel
theorem dX12_named_80 : decode cX12_named 80 = .ok (.lload_n 0, 1) := by decide +kernel
theorem dX12_named_81 : decode cX12_named 81 = .ok (.bipush 114, 2) := by decide +kernel
theorem dX12_named_83 : decode cX12_named 83 = .ok (.bipush 117, 2) := by decide +kernel
theorem dX12_named_85 : decode cX12_named 85 = .ok (.bipush 110, 2) := by decide +kernel
theorem dX12_named_87 : decode cX12_named 87 = .ok (.bipush 116, 2) := by decide +kernel
theorem dX12_named_89 : decode cX12_named 89 = .ok (.iconst 0, 1) := by decide +kernel
theorem dX12_named_90 : decode cX12_named 90 = .ok (.iconst 0, 1) := by decide +kernel
theorem dX12_named_91 : decode cX12_named 91 = .ok (.invokestatic 132, 3) := by decide +kernel
theorem dX12_named_94 : decode cX12_named 94 = .ok (.lcmp, 1) := by decide +kernel
theorem dX12_named_95 : decode cX12_named 95 = .ok (.ifCond .ne 5, 3) := by decide +kernel
theorem dX12_named_98 : decode cX12_named 98 = .ok (.iconst 4, 1) := by decide +kernel
theorem dX12_named_99 : decode cX12_named 99 = .ok (.ireturn, 1) := by decide +kernel
theorem dX12_named_100 : decode cX12_named 100 = .ok (.lload_n 0, 1) := by decide +kernel
theorem dX12_named_101 : decode cX12_named 101 = .ok (.bipush 105, 2) := by decide +kernel
theorem dX12_named_103 : decode cX12_named 103 = .ok (.bipush 110, 2) := by decide +kernel
theorem dX12_named_105 : decode cX12_named 105 = .ok (.iconst 0, 1) := by decide +kernel
theorem dX12_named_106 : decode cX12_named 106 = .ok (.iconst 0, 1) := by decide +kernel
theorem dX12_named_107 : decode cX12_named 107 = .ok (.iconst 0, 1) := by decide +kernel
theorem dX12_named_108 : decode cX12_named 108 = .ok (.iconst 0, 1) := by decide +kernel
theorem dX12_named_109 : decode cX12_named 109 = .ok (.invokestatic 132, 3) := by decide +kernel
theorem dX12_named_112 : decode cX12_named 112 = .ok (.lcmp, 1) := by decide +kernel
theorem dX12_named_113 : decode cX12_named 113 = .ok (.ifCond .ne 5, 3) := by decide +kernel
theorem dX12_named_116 : decode cX12_named 116 = .ok (.iconst 5, 1) := by decide +kernel
theorem dX12_named_117 : decode cX12_named 117 = .ok (.ireturn, 1) := by decide +kernel
theorem dX12_named_118 : decode cX12_named 118 = .ok (.lload_n 0, 1) := by decide +kernel
theorem dX12_named_119 : decode cX12_named 119 = .ok (.bipush 111, 2) := by decide +kernel
theorem dX12_named_121 : decode cX12_named 121 = .ok (.bipush 117, 2) := by decide +kernel
theorem dX12_named_123 : decode cX12_named 123 = .ok (.bipush 116, 2) := by decide +kernel
theorem dX12_named_125 : decode cX12_named 125 = .ok (.iconst 0, 1) := by decide +kernel
theorem dX12_named_126 : decode cX12_named 126 = .ok (.iconst 0, 1) := by decide +kernel
theorem dX12_named_127 : decode cX12_named 127 = .ok (.iconst 0, 1) := by decide +kernel
theorem dX12_named_128 : decode cX12_named 128 = .ok (.invokestatic 132, 3) := by decide +kernel
theorem dX12_named_131 : decode cX12_named 131 = .ok (.lcmp, 1) := by decide +kernel
theorem dX12_named_132 : decode cX12_named 132 = .ok (.ifCond .ne 6, 3) := by decide +kernel
theorem dX12_named_135 : decode cX12_named 135 = .ok (.bipush 6, 2) := by decide +kernel
theorem dX12_named_137 : decode cX12_named 137 = .ok (.ireturn, 1) := by decide +kernel
theorem dX12_named_138 : decode cX12_named 138 = .ok (.lload_n 0, 1) := by decide +kernel
theorem dX12_named_139 : decode cX12_named 139 = .ok (.bipush 101, 2) := by decide +kernel
theorem dX12_named_141 : decode cX12_named 141 = .ok (.bipush 113, 2) := by decide +kernel
theorem dX12_named_143 : decode cX12_named 143 = .ok (.bipush 117, 2) := by decide +kernel
theorem dX12_named_145 : decode cX12_named 145 = .ok (.bipush 97, 2) := by decide +kernel
theorem dX12_named_147 : decode cX12_named 147 = .ok (.bipush 108, 2) := by decide +kernel
theorem dX12_named_149 : decode cX12_named 149 = .ok (.iconst 0, 1) := by decide +kernel
theorem dX12_named_150 : decode cX12_named 150 = .ok (.invokestatic 132, 3) := by decide +kernel
theorem dX12_named_153 : decode cX12_named 153 = .ok (.lcmp, 1) := by decide +kernel
theorem dX12_named_154 : decode cX12_named 154 = .ok (.ifCond .ne 6, 3) := by decide +kernel
theorem dX12_named_157 : decode cX12_named 157 = .ok (.bipush 7, 2) := by decide +kernel
theorem dX12_named_159 : decode cX12_named 159 = .ok (.ireturn, 1) := by decide +kernel
theorem dX12_named_160 : decode cX12_named 160 = .ok (.lload_n 0, 1) := by decide +kernel
theorem dX12_named_161 : decode cX12_named 161 = .ok (.bipush 119, 2) := by decide +kernel
theorem dX12_named_163 : decode cX12_named 163 = .ok (.bipush 105, 2) := by decide +kernel
theorem dX12_named_165 : decode cX12_named 165 = .ok (.bipush 116, 2) := by decide +kernel
theorem dX12_named_167 : decode cX12_named 167 = .ok (.bipush 104, 2) := by decide +kernel
theorem dX12_named_169 : decode cX12_named 169 = .ok (.bipush 105, 2) := by decide +kernel
theorem dX12_named_171 : decode cX12_named 171 = .ok (.bipush 110, 2) := by decide +kernel
theorem dX12_named_173 : decode cX12_named 173 = .ok (.invokestatic 132, 3) := by decide +kernel
theorem dX12_named_176 : decode cX12_named 176 = .ok (.lcmp, 1) := by decide +kernel
theorem dX12_named_177 : decode cX12_named 177 = .ok (.ifCond .ne 8, 3) := by decide +kernel
theorem dX12_named_180 : decode cX12_named 180 = .ok (.bipush 8, 2) := by decide +kernel
theorem dX12_named_182 : decode cX12_named 182 = .ok (.goto 5, 3) := by decide +kernel
theorem dX12_named_185 : decode cX12_named 185 = .ok (.bipush (-4), 2) := by decide +kernel
theorem dX12_named_187 : decode cX12_named 187 = .ok (.ireturn, 1) := by decide +kernel
theorem dX12_next_0 : decode cX12_next 0 = .ok (.aload_n 0, 1) := by decide +kernel
theorem dX12_next_1 : decode cX12_next 1 = .ok (.invokevirtual 136, 3) := by decide +kernel
theorem dX12_next_4 : decode cX12_next 4 = .ok (.bipush 32, 2) := by decide +kernel
theorem dX12_next_6 : decode cX12_next 6 = .ok (.if_icmp .ne 16, 3) := by decide +kernel
theorem dX12_next_9 : decode cX12_next 9 = .ok (.aload_n 0, 1) := by decide +kernel
theorem dX12_next_10 : decode cX12_next 10 = .ok (.dup, 1) := by decide +kernel
theorem dX12_next_11 : decode cX12_next 11 = .ok (.getfield 125, 3) := by decide +kernel
theorem dX12_next_14 : decode cX12_next 14 = .ok (.iconst 1, 1) := by decide +kernel
theorem dX12_next_15 : decode cX12_next 15 = .ok (.iadd, 1) := by decide +kernel
theorem dX12_next_16 : decode cX12_next 16 = .ok (.putfield 125, 3) := by decide +kernel
theorem dX12_next_19 : decode cX12_next 19 = .ok (.goto (-19), 3) := by decide +kernel
theorem dX12_next_22 : decode cX12_next 22 = .ok (.aload_n 0, 1) := by decide +kernel
theorem dX12_next_23 : decode cX12_next 23 = .ok (.aload_n 0, 1) := by decide +kernel
theorem dX12_next_24 : decode cX12_next 24 = .ok (.getfield 125, 3) := by decide +kernel
theorem dX12_next_27 : decode cX12_next 27 = .ok (.putfield 140, 3) := by decide +kernel
theorem dX12_next_30 : decode cX12_next 30 = .ok (.aload_n 0, 1) := by decide +kernel
theorem dX12_next_31 : decode cX12_next 31 = .ok (.invokevirtual 136, 3) := by decide +kernel
theorem dX12_next_34 : decode cX12_next 34 = .ok (.istore_n 1, 1) := by decide +kernel
theorem dX12_next_35 : decode cX12_next 35 = .ok (.iload_n 1, 1) := by decide +kernel
theorem dX12_next_36 : decode cX12_next 36 = .ok (.ifCond .ge 11, 3) := by decide +kernel
theorem dX12_next_39 : decode cX12_next 39 = .ok (.aload_n 0, 1) := by decide +kernel
theorem dX12_next_40 : decode cX12_next 40 = .ok (.iconst 0, 1) := by decide +kernel
theorem dX12_next_41 : decode cX12_next 41 = .ok (.putfield 143, 3) := by decide +kernel
theorem dX12_next_44 : decode cX12_next 44 = .ok (.goto 348, 3) := by decide +kernel
theorem dX12_next_47 : decode cX12_next 47 = .ok (.iload_n 1, 1) := by decide +kernel
theorem dX12_next_48 : decode cX12_next 48 = .ok (.i2l, 1) := by decide +kernel
theorem dX12_next_49 : decode cX12_next 49 = .ok (.ldc2_w 146, 3) := by decide +kernel
theorem dX12_next_52 : decode cX12_next 52 = .ok (.ldc2_w 148, 3) := by decide +kernel
theorem dX12_next_55 : decode cX12_next 55 = .ok (.invokestatic 115, 3) := by decide +kernel
theorem dX12_next_58 : decode cX12_next 58 = .ok (.ifCond .eq 117, 3) := by decide +kernel
theorem dX12_next_61 : decode cX12_next 61 = .ok (.aload_n 0, 1) := by decide +kernel
theorem dX12_next_62 : decode cX12_next 62 = .ok (.iconst 1, 1) := by decide +kernel
theorem dX12_next_63 : decode cX12_next 63 = .ok (.putfield 143, 3) := by decide +kernel
theorem dX12_next_66 : decode cX12_next 66 = .ok (.aload_n 0, 1) := by decide +kernel
theorem dX12_next_67 : decode cX12_next 67 = .ok (.lconst 0, 1) := by decide +kernel
theorem dX12_next_68 : decode cX12_next 68 = .ok (.putfield 150, 3) := by decide +kernel
theorem dX12_next_71 : decode cX12_next 71 = .ok (.aload_n 0, 1) := by decide +kernel
theorem dX12_next_72 : decode cX12_next 72 = .ok (.invokevirtual 136, 3) := by decide +kernel
theorem dX12_next_75 : decode cX12_next 75 = .ok (.i2l, 1) := by decide +kernel
theorem dX12_next_76 : decode cX12_next 76 = .ok (.ldc2_w 146, 3) := by decide +kernel
theorem dX12_next_79 : decode cX12_next 79 = .ok (.ldc2_w 148, 3) := by decide +kernel
theorem dX12_next_82 : decode cX12_next 82 = .ok (.invokestatic 115, 3) := by decide +kernel
theorem dX12_next_85 : decode cX12_next 85 = .ok (.ifCond .eq 58, 3) := by decide +kernel
theorem dX12_next_88 : decode cX12_next 88 = .ok (.aload_n 0, 1) := by decide +kernel
theorem dX12_next_89 : decode cX12_next 89 = .ok (.aload_n 0, 1) := by decide +kernel
theorem dX12_next_90 : decode cX12_next 90 = .ok (.getfield 125, 3) := by decide +kernel
theorem dX12_next_93 : decode cX12_next 93 = .ok (.aload_n 0, 1) := by decide +kernel
theorem dX12_next_94 : decode cX12_next 94 = .ok (.getfield 140, 3) := by decide +kernel
theorem dX12_next_97 : decode cX12_next 97 = .ok (.isub, 1) := by decide +kernel
theorem dX12_next_98 : decode cX12_next 98 = .ok (.bipush 6, 2) := by decide +kernel
theorem dX12_next_100 : decode cX12_next 100 = .ok (.if_icmp .ge 24, 3) := by decide +kernel
theorem dX12_next_103 : decode cX12_next 103 = .ok (.ldc2_w 128, 3) := by decide +kernel
theorem dX12_next_106 : decode cX12_next 106 = .ok (.aload_n 0, 1) := by decide +kernel
theorem dX12_next_107 : decode cX12_next 107 = .ok (.getfield 150, 3) := by decide +kernel
theorem dX12_next_110 : decode cX12_next 110 = .ok (.lmul, 1) := by decide +kernel
theorem dX12_next_111 : decode cX12_next 111 = .ok (.aload_n 0, 1) := by decide +kernel
theorem dX12_next_112 : decode cX12_next 112 = .ok (.invokevirtual 136, 3) := by decide +kernel
theorem dX12_next_115 : decode cX12_next 115 = .ok (.i2l, 1) := by decide +kernel
theorem dX12_next_116 : decode cX12_next 116 = .ok (.ladd, 1) := by decide +kernel
theorem dX12_next_117 : decode cX12_next 117 = .ok (.ldc2_w 130, 3) := by decide +kernel
theorem dX12_next_120 : decode cX12_next 120 = .ok (.lsub, 1) := by decide +kernel
theorem dX12_next_121 : decode cX12_next 121 = .ok (.goto 6, 3) := by decide +kernel
theorem dX12_next_124 : decode cX12_next 124 = .ok (.ldc2_w 154, 3) := by decide +kernel
theorem dX12_next_127 : decode cX12_next 127 = .ok (.putfield 150, 3) := by decide +kernel
theorem dX12_next_130 : decode cX12_next 130 = .ok (.aload_n 0, 1) := by decide +kernel
theorem dX12_next_131 : decode cX12_next 131 = .ok (.dup, 1) := by decide +kernel
theorem dX12_next_132 : decode cX12_next 132 = .ok (.getfield 125, 3) := by decide +kernel
theorem dX12_next_135 : decode cX12_next 135 = .ok (.iconst 1, 1) := by decide +kernel
theorem dX12_next_136 : decode cX12_next 136 = .ok (.iadd, 1) := by decide +kernel
theorem dX12_next_137 : decode cX12_next 137 = .ok (.putfield 125, 3) := by decide +kernel
theorem dX12_next_140 : decode cX12_next 140 = .ok (.goto (-69), 3) := by decide +kernel
theorem dX12_next_143 : decode cX12_next 143 = .ok (.aload_n 0, 1) := by decide +kernel
theorem dX12_next_144 : decode cX12_next 144 = .ok (.aload_n 0, 1) := by decide +kernel
theorem dX12_next_145 : decode cX12_next 145 = .ok (.getfield 150, 3) := by decide +kernel
theorem dX12_next_148 : decode cX12_next 148 = .ok (.invokestatic 156, 3) := by decide +kernel
theorem dX12_next_151 : decode cX12_next 151 = .ok (.putfield 160, 3) := by decide +kernel
theorem dX12_next_154 : decode cX12_next 154 = .ok (.aload_n 0, 1) := by decide +kernel
theorem dX12_next_155 : decode cX12_next 155 = .ok (.getfield 160, 3) := by decide +kernel
theorem dX12_next_158 : decode cX12_next 158 = .ok (.bipush (-4), 2) := by decide +kernel
theorem dX12_next_160 : decode cX12_next 160 = .ok (.if_icmp .ne 232, 3) := by decide +kernel
theorem dX12_next_163 : decode cX12_next 163 = .ok (.aload_n 0, 1) := by decide +kernel
theorem dX12_next_164 : decode cX12_next 164 = .ok (.iconst 1, 1) := by decide +kernel
theorem dX12_next_165 : decode cX12_next 165 = .ok (.aload_n 0, 1) := by decide +kernel
theorem dX12_next_166 : decode cX12_next 166 = .ok (.getfield 140, 3) := by decide +kernel
theorem dX12_next_169 : decode cX12_next 169 = .ok (.invokevirtual 163, 3) := by decide +kernel
theorem dX12_next_172 : decode cX12_next 172 = .ok (.goto 220, 3) := by decide +kernel
theorem dX12_next_175 : decode cX12_next 175 = .ok (.iload_n 1, 1) := by decide +kernel
theorem dX12_next_176 : decode cX12_next 176 = .ok (.bipush 45, 2) := by decide +kernel
theorem dX12_next_178 : decode cX12_next 178 = .ok (.if_icmp .eq 17, 3) := by decide +kernel
theorem dX12_next_181 : decode cX12_next 181 = .ok (.iload_n 1, 1) := by decide +kernel
theorem dX12_next_182 : decode cX12_next 182 = .ok (.i2l, 1) := by decide +kernel
theorem dX12_next_183 : decode cX12_next 183 = .ok (.ldc2_w 167, 3) := by decide +kernel
theorem dX12_next_186 : decode cX12_next 186 = .ok (.ldc2_w 169, 3) := by decide +kernel
theorem dX12_next_189 : decode cX12_next 189 = .ok (.invokestatic 115, 3) := by decide +kernel
theorem dX12_next_192 : decode cX12_next 192 = .ok (.ifCond .eq 156, 3) := by decide +kernel
theorem dX12_next_195 : decode cX12_next 195 = .ok (.aload_n 0, 1) := by decide +kernel
theorem dX12_next_196 : decode cX12_next 196 = .ok (.iconst 2, 1) := by decide +kernel
theorem dX12_next_197 : decode cX12_next 197 = .ok (.putfield 143, 3) := by decide +kernel
theorem dX12_next_200 : decode cX12_next 200 = .ok (.aload_n 0, 1) := by decide +kernel
theorem dX12_next_201 : decode cX12_next 201 = .ok (.dup, 1) := by decide +kernel
theorem dX12_next_202 : decode cX12_next 202 = .ok (.getfield 125, 3) := by decide +kernel
theorem dX12_next_205 : decode cX12_next 205 = .ok (.iload_n 1, 1) := by decide +kernel
theorem dX12_next_206 : decode cX12_next 206 = .ok (.bipush 45, 2) := by decide +kernel
theorem dX12_next_208 : decode cX12_next 208 = .ok (.if_icmp .ne 7, 3) := by decide +kernel
theorem dX12_next_211 : decode cX12_next 211 = .ok (.iconst 1, 1) := by decide +kernel
theorem dX12_next_212 : decode cX12_next 212 = .ok (.goto 4, 3) := by decide +kernel
theorem dX12_next_215 : decode cX12_next 215 = .ok (.iconst 0, 1) := by decide +kernel
theorem dX12_next_216 : decode cX12_next 216 = .ok (.iadd, 1) := by decide +kernel
theorem dX12_next_217 : decode cX12_next 217 = .ok (.putfield 125, 3) := by decide +kernel
theorem dX12_next_220 : decode cX12_next 220 = .ok (.aload_n 0, 1) := by decide +kernel
theorem dX12_next_221 : decode cX12_next 221 = .ok (.getfield 125, 3) := by decide +kernel
theorem dX12_next_224 : decode cX12_next 224 = .ok (.istore_n 2, 1) := by decide +kernel
theorem dX12_next_225 : decode cX12_next 225 = .ok (.aload_n 0, 1) := by decide +kernel
theorem dX12_next_226 : decode cX12_next 226 = .ok (.iconst 0, 1) := by decide +kernel
theorem dX12_next_227 : decode cX12_next 227 = .ok (.putfield 160, 3) := by decide +kernel
theorem dX12_next_230 : decode cX12_next 230 = .ok (.aload_n 0, 1) := by decide +kernel
theorem dX12_next_231 : decode cX12_next 231 = .ok (.invokevirtual 136, 3) := by decide +kernel
theorem dX12_next_234 : decode cX12_next 234 = .ok (.i2l, 1) := by decide +kernel
theorem dX12_next_235 : decode cX12_next 235 = .ok (.ldc2_w 167, 3) := by decide +kernel
theorem dX12_next_238 : decode cX12_next 238 = .ok (.ldc2_w 169, 3) := by decide +kernel
theorem dX12_next_241 : decode cX12_next 241 = .ok (.invokestatic 115, 3) := by decide +kernel
theorem dX12_next_244 : decode cX12_next 244 = .ok (.ifCond .eq 52, 3) := by decide +kernel
theorem dX12_next_247 : decode cX12_next 247 = .ok (.aload_n 0, 1) := by decide +kernel
theorem dX12_next_248 : decode cX12_next 248 = .ok (.aload_n 0, 1) := by decide +kernel
theorem dX12_next_249 : decode cX12_next 249 = .ok (.getfield 125, 3) := by decide +kernel
theorem dX12_next_252 : decode cX12_next 252 = .ok (.iload_n 2, 1) := by decide +kernel
theorem dX12_next_253 : decode cX12_next 253 = .ok (.isub, 1) := by decide +kernel
theorem dX12_next_254 : decode cX12_next 254 = .ok (.iconst 3, 1) := by decide +kernel
theorem dX12_next_255 : decode cX12_next 255 = .ok (.if_icmp .ge 21, 3) := by decide +kernel
theorem dX12_next_258 : decode cX12_next 258 = .ok (.bipush 10, 2) := by decide +kernel
theorem dX12_next_260 : decode cX12_next 260 = .ok (.aload_n 0, 1) := by decide +kernel
theorem dX12_next_261 : decode cX12_next 261 = .ok (.getfield 160, 3) := by decide +kernel
theorem dX12_next_264 : decode cX12_next 264 = .ok (.imul, 1) := by decide +kernel
theorem dX12_next_265 : decode cX12_next 265 = .ok (.aload_n 0, 1) := by decide +kernel
theorem dX12_next_266 : decode cX12_next 266 = .ok (.invokevirtual 136, 3) := by decide +kernel
theorem dX12_next_269 : decode cX12_next 269 = .ok (.iadd, 1) := by decide +kernel
theorem dX12_next_270 : decode cX12_next 270 = .ok (.bipush 48, 2) := by decide +kernel
theorem dX12_next_272 : decode cX12_next 272 = .ok (.isub, 1) := by decide +kernel
theorem dX12_next_273 : decode cX12_next 273 = .ok (.goto 7, 3) := by decide +kernel
theorem dX12_next_276 : decode cX12_next 276 = .ok (.aload_n 0, 1) := by decide +kernel
theorem dX12_next_277 : decode cX12_next 277 = .ok (.getfield 160, 3) := by decide +kernel
theorem dX12_next_280 : decode cX12_next 280 = .ok (.putfield 160, 3) := by decide +kernel
theorem dX12_next_283 : decode cX12_next 283 = .ok (.aload_n 0, 1) := by decide +kernel
theorem dX12_next_284 : decode cX12_next 284 = .ok (.dup, 1) := by decide +kernel
theorem dX12_next_285 : decode cX12_next 285 = .ok (.getfield 125, 3) := by decide +kernel
theorem dX12_next_288 : decode cX12_next 288 = .ok (.iconst 1, 1) := by decide +kernel
theorem dX12_next_289 : decode cX12_next 289 = .ok (.iadd, 1) := by decide +kernel
theorem dX12_next_290 : decode cX12_next 290 = .ok (.putfield 125, 3) := by decide +kernel
theorem dX12_next_293 : decode cX12_next 293 = .ok (.goto (-63), 3) := by decide +kernel
theorem dX12_next_296 : decode cX12_next 296 = .ok (.aload_n 0, 1) := by decide +kernel
theorem dX12_next_297 : decode cX12_next 297 = .ok (.iload_n 1, 1) := by decide +kernel
theorem dX12_next_298 : decode cX12_next 298 = .ok (.bipush 45, 2) := by decide +kernel
theorem dX12_next_300 : decode cX12_next 300 = .ok (.if_icmp .ne 11, 3) := by decide +kernel
theorem dX12_next_303 : decode cX12_next 303 = .ok (.aload_n 0, 1) := by decide +kernel
theorem dX12_next_304 : decode cX12_next 304 = .ok (.getfield 160, 3) := by decide +kernel
theorem dX12_next_307 : decode cX12_next 307 = .ok (.ineg, 1) := by decide +kernel
theorem dX12_next_308 : decode cX12_next 308 = .ok (.goto 7, 3) := by decide +kernel
theorem dX12_next_311 : decode cX12_next 311 = .ok (.aload_n 0, 1) := by decide +kernel
theorem dX12_next_312 : decode cX12_next 312 = .ok (.getfield 160, 3) := by decide +kernel
theorem dX12_next_315 : decode cX12_next 315 = .ok (.putfield 160, 3) := by decide +kernel
theorem dX12_next_318 : decode cX12_next 318 = .ok (.aload_n 0, 1) := by decide +kernel
theorem dX12_next_319 : decode cX12_next 319 = .ok (.getfield 125, 3) := by decide +kernel
theorem dX12_next_322 : decode cX12_next 322 = .ok (.iload_n 2, 1) := by decide +kernel
theorem dX12_next_323 : decode cX12_next 323 = .ok (.if_icmp .eq 13, 3) := by decide +kernel
theorem dX12_next_326 : decode cX12_next 326 = .ok (.aload_n 0, 1) := by decide +kernel
theorem dX12_next_327 : decode cX12_next 327 = .ok (.getfield 125, 3) := by decide +kernel
theorem dX12_next_330 : decode cX12_next 330 = .ok (.iload_n 2, 1) := by decide +kernel
theorem dX12_next_331 : decode cX12_next 331 = .ok (.isub, 1) := by decide +kernel
theorem dX12_next_332 : decode cX12_next 332 = .ok (.iconst 3, 1) := by decide +kernel
theorem dX12_next_333 : decode cX12_next 333 = .ok (.if_icmp .le 12, 3) := by decide +kernel
theorem dX12_next_336 : decode cX12_next 336 = .ok (.aload_n 0, 1) := by decide +kernel
theorem dX12_next_337 : decode cX12_next 337 = .ok (.iconst 1, 1) := by decide +kernel
theorem dX12_next_338 : decode cX12_next 338 = .ok (.aload_n 0, 1) := by decide +kernel
theorem dX12_next_339 : decode cX12_next 339 = .ok (.getfield 140, 3) := by decide +kernel
theorem dX12_next_342 : decode cX12_next 342 = .ok (.invokevirtual 163, 3) := by decide +kernel
theorem dX12_next_345 : decode cX12_next 345 = .ok (.goto 47, 3) := by decide +kernel
theorem dX12_next_348 : decode cX12_next 348 = .ok (.iload_n 1, 1) := by decide +kernel
theorem dX12_next_349 : decode cX12_next 349 = .ok (.bipush 42, 2) := by decide +kernel
theorem dX12_next_351 : decode cX12_next 351 = .ok (.if_icmp .eq 9, 3) := by decide +kernel
theorem dX12_next_354 : decode cX12_next 354 = .ok (.iload_n 1, 1) := by decide +kernel
theorem dX12_next_355 : decode cX12_next 355 = .ok (.bipush 59, 2) := by decide +kernel
theorem dX12_next_357 : decode cX12_next 357 = .ok (.if_icmp .ne 26, 3) := by decide +kernel
theorem dX12_next_360 : decode cX12_next 360 = .ok (.aload_n 0, 1) := by decide +kernel
theorem dX12_next_361 : decode cX12_next 361 = .ok (.iconst 3, 1) := by decide +kernel
theorem dX12_next_362 : decode cX12_next 362 = .ok (.putfield 143, 3) := by decide +kernel
theorem dX12_next_365 : decode cX12_next 365 = .ok (.aload_n 0, 1) := by decide +kernel
theorem dX12_next_366 : decode cX12_next 366 = .ok (.iload_n 1, 1) := by decide +kernel
theorem dX12_next_367 : decode cX12_next 367 = .ok (.putfield 160, 3) := by decide +kernel
theorem dX12_next_370 : decode cX12_next 370 = .ok (.aload_n 0, 1) := by decide +kernel
theorem dX12_next_371 : decode cX12_next 371 = .ok (.dup, 1) := by decide +kernel
theorem dX12_next_372 : decode cX12_next 372 = .ok (.getfield 125, 3) := by decide +kernel
theorem dX12_next_375 : decode cX12_next 375 = .ok (.iconst 1, 1) := by decide +kernel
theorem dX12_next_376 : decode cX12_next 376 = .ok (.iadd, 1) := by decide +kernel
theorem dX12_next_377 : decode cX12_next 377 = .ok (.putfield 125, 3) := by decide +kernel
theorem dX12_next_380 : decode cX12_next 380 = .ok (.goto 12, 3) := by decide +kernel
theorem dX12_next_383 : decode cX12_next 383 = .ok (.aload_n 0, 1) := by decide +kernel
theorem dX12_next_384 : decode cX12_next 384 = .ok (.iconst 1, 1) := by decide +kernel
theorem dX12_next_385 : decode cX12_next 385 = .ok (.aload_n 0, 1) := by decide +kernel
theorem dX12_next_386 : decode cX12_next 386 = .ok (.getfield 140, 3) := by decide +kernel
theorem dX12_next_389 : decode cX12_next 389 = .ok (.invokevirtual 163, 3) := by decide +kernel
theorem dX12_next_392 : decode cX12_next 392 = .ok (.return_, 1) := by decide +kernel
theorem dX12_taken_0 : decode cX12_taken 0 = .ok (.aload_n 0, 1) := by decide +kernel
theorem dX12_taken_1 : decode cX12_taken 1 = .ok (.getfield 119, 3) := by decide +kernel
theorem dX12_taken_4 : decode cX12_taken 4 = .ok (.ifCond .ne 20, 3) := by decide +kernel
theorem dX12_taken_7 : decode cX12_taken 7 = .ok (.aload_n 0, 1) := by decide +kernel
theorem dX12_taken_8 : decode cX12_taken 8 = .ok (.getfield 143, 3) := by decide +kernel
theorem dX12_taken_11 : decode cX12_taken 11 = .ok (.iconst 2, 1) := by decide +kernel
theorem dX12_taken_12 : decode cX12_taken 12 = .ok (.if_icmp .eq 12, 3) := by decide +kernel
theorem dX12_taken_15 : decode cX12_taken 15 = .ok (.aload_n 0, 1) := by decide +kernel
theorem dX12_taken_16 : decode cX12_taken 16 = .ok (.iconst 2, 1) := by decide +kernel
theorem dX12_taken_17 : decode cX12_taken 17 = .ok (.aload_n 0, 1) := by decide +kernel
theorem dX12_taken_18 : decode cX12_taken 18 = .ok (.getfield 140, 3) := by decide +kernel
theorem dX12_taken_21 : decode cX12_taken 21 = .ok (.invokevirtual 163, 3) := by decide +kernel
theorem dX12_taken_24 : decode cX12_taken 24 = .ok (.aload_n 0, 1) := by decide +kernel
theorem dX12_taken_25 : decode cX12_taken 25 = .ok (.getfield 119, 3) := by decide +kernel
theorem dX12_taken_28 : decode cX12_taken 28 = .ok (.ifCond .ne 27, 3) := by decide +kernel
theorem dX12_taken_31 : decode cX12_taken 31 = .ok (.aload_n 0, 1) := by decide +kernel
theorem dX12_taken_32 : decode cX12_taken 32 = .ok (.getfield 160, 3) := by decide +kernel
theorem dX12_taken_35 : decode cX12_taken 35 = .ok (.i2l, 1) := by decide +kernel
theorem dX12_taken_36 : decode cX12_taken 36 = .ok (.iload_n 1, 1) := by decide +kernel
theorem dX12_taken_37 : decode cX12_taken 37 = .ok (.i2l, 1) := by decide +kernel
theorem dX12_taken_38 : decode cX12_taken 38 = .ok (.iload_n 2, 1) := by decide +kernel
theorem dX12_taken_39 : decode cX12_taken 39 = .ok (.i2l, 1) := by decide +kernel
theorem dX12_taken_40 : decode cX12_taken 40 = .ok (.invokestatic 115, 3) := by decide +kernel
theorem dX12_taken_43 : decode cX12_taken 43 = .ok (.ifCond .ne 12, 3) := by decide +kernel
theorem dX12_taken_46 : decode cX12_taken 46 = .ok (.aload_n 0, 1) := by decide +kernel
theorem dX12_taken_47 : decode cX12_taken 47 = .ok (.iconst 3, 1) := by decide +kernel
theorem dX12_taken_48 : decode cX12_taken 48 = .ok (.aload_n 0, 1) := by decide +kernel
theorem dX12_taken_49 : decode cX12_taken 49 = .ok (.getfield 140, 3) := by decide +kernel
theorem dX12_taken_52 : decode cX12_taken 52 = .ok (.invokevirtual 163, 3) := by decide +kernel
theorem dX12_taken_55 : decode cX12_taken 55 = .ok (.aload_n 0, 1) := by decide +kernel
theorem dX12_taken_56 : decode cX12_taken 56 = .ok (.getfield 160, 3) := by decide +kernel
theorem dX12_taken_59 : decode cX12_taken 59 = .ok (.istore_n 3, 1) := by decide +kernel
theorem dX12_taken_60 : decode cX12_taken 60 = .ok (.aload_n 0, 1) := by decide +kernel
theorem dX12_taken_61 : decode cX12_taken 61 = .ok (.getfield 119, 3) := by decide +kernel
theorem dX12_taken_64 : decode cX12_taken 64 = .ok (.ifCond .ne 7, 3) := by decide +kernel
theorem dX12_taken_67 : decode cX12_taken 67 = .ok (.aload_n 0, 1) := by decide +kernel
theorem dX12_taken_68 : decode cX12_taken 68 = .ok (.invokevirtual 171, 3) := by decide +kernel
theorem dX12_taken_71 : decode cX12_taken 71 = .ok (.iload_n 3, 1) := by decide +kernel
theorem dX12_taken_72 : decode cX12_taken 72 = .ok (.ireturn, 1) := by decide +kernel
theorem dX12_readEvent_0 : decode cX12_readEvent 0 = .ok (.aload_n 0, 1) := by decide +kernel
theorem dX12_readEvent_1 : decode cX12_readEvent 1 = .ok (.getfield 119, 3) := by decide +kernel
theorem dX12_readEvent_4 : decode cX12_readEvent 4 = .ok (.ifCond .ne 29, 3) := by decide +kernel
theorem dX12_readEvent_7 : decode cX12_readEvent 7 = .ok (.aload_n 0, 1) := by decide +kernel
theorem dX12_readEvent_8 : decode cX12_readEvent 8 = .ok (.getfield 143, 3) := by decide +kernel
theorem dX12_readEvent_11 : decode cX12_readEvent 11 = .ok (.iconst 1, 1) := by decide +kernel
theorem dX12_readEvent_12 : decode cX12_readEvent 12 = .ok (.if_icmp .ne 12, 3) := by decide +kernel
theorem dX12_readEvent_15 : decode cX12_readEvent 15 = .ok (.aload_n 0, 1) := by decide +kernel
theorem dX12_readEvent_16 : decode cX12_readEvent 16 = .ok (.getfield 160, 3) := by decide +kernel
theorem dX12_readEvent_19 : decode cX12_readEvent 19 = .ok (.bipush 8, 2) := by decide +kernel
theorem dX12_readEvent_21 : decode cX12_readEvent 21 = .ok (.if_icmp .ne 12, 3) := by decide +kernel
theorem dX12_readEvent_24 : decode cX12_readEvent 24 = .ok (.aload_n 0, 1) := by decide +kernel
theorem dX12_readEvent_25 : decode cX12_readEvent 25 = .ok (.iconst 2, 1) := by decide +kernel
theorem dX12_readEvent_26 : decode cX12_readEvent 26 = .ok (.aload_n 0, 1) := by decide +kernel
theorem dX12_readEvent_27 : decode cX12_readEvent 27 = .ok (.getfield 140, 3) := by decide +kernel
theorem dX12_readEvent_30 : decode cX12_readEvent 30 = .ok (.invokevirtual 163, 3) := by decide +kernel
theorem dX12_readEvent_33 : decode cX12_readEvent 33 = .ok (.aload_n 0, 1) := by decide +kernel
theorem dX12_readEvent_34 : decode cX12_readEvent 34 = .ok (.getfield 119, 3) := by decide +kernel
theorem dX12_readEvent_37 : decode cX12_readEvent 37 = .ok (.ifCond .le 4, 3) := by decide +kernel
theorem dX12_readEvent_40 : decode cX12_readEvent 40 = .ok (.return_, 1) := by decide +kernel
theorem dX12_readEvent_41 : decode cX12_readEvent 41 = .ok (.aload_n 0, 1) := by decide +kernel
theorem dX12_readEvent_42 : decode cX12_readEvent 42 = .ok (.getfield 160, 3) := by decide +kernel
theorem dX12_readEvent_45 : decode cX12_readEvent 45 = .ok (.istore_n 2, 1) := by decide +kernel
theorem dX12_readEvent_46 : decode cX12_readEvent 46 = .ok (.aload_n 0, 1) := by decide +kernel
theorem dX12_readEvent_47 : decode cX12_readEvent 47 = .ok (.getfield 38, 3) := by decide +kernel
theorem dX12_readEvent_50 : decode cX12_readEvent 50 = .ok (.iload_n 1, 1) := by decide +kernel
theorem dX12_readEvent_51 : decode cX12_readEvent 51 = .ok (.iload_n 2, 1) := by decide +kernel
theorem dX12_readEvent_52 : decode cX12_readEvent 52 = .ok (.iastore, 1) := by decide +kernel
theorem dX12_readEvent_53 : decode cX12_readEvent 53 = .ok (.aload_n 0, 1) := by decide +kernel
theorem dX12_readEvent_54 : decode cX12_readEvent 54 = .ok (.invokevirtual 171, 3) := by decide +kernel
theorem dX12_readEvent_57 : decode cX12_readEvent 57 = .ok (.aload_n 0, 1) := by decide +kernel
theorem dX12_readEvent_58 : decode cX12_readEvent 58 = .ok (.getfield 41, 3) := by decide +kernel
theorem dX12_readEvent_61 : decode cX12_readEvent 61 = .ok (.iload_n 1, 1) := by decide +kernel
theorem dX12_readEvent_62 : decode cX12_readEvent 62 = .ok (.aload_n 0, 1) := by decide +kernel
theorem dX12_readEvent_63 : decode cX12_readEvent 63 = .ok (.iconst 0, 1) := by decide +kernel
theorem dX12_readEvent_64 : decode cX12_readEvent 64 = .ok (.iconst 3, 1) := by decide +kernel
theorem dX12_readEvent_65 : decode cX12_readEvent 65 = .ok (.invokevirtual 174, 3) := by decide +kernel
theorem dX12_readEvent_68 : decode cX12_readEvent 68 = .ok (.iastore, 1) := by decide +kernel
theorem dX12_readEvent_69 : decode cX12_readEvent 69 = .ok (.aload_n 0, 1) := by decide +kernel
theorem dX12_readEvent_70 : decode cX12_readEvent 70 = .ok (.getfield 44, 3) := by decide +kernel
theorem dX12_readEvent_73 : decode cX12_readEvent 73 = .ok (.iload_n 1, 1) := by decide +kernel
theorem dX12_readEvent_74 : decode cX12_readEvent 74 = .ok (.iload_n 2, 1) := by decide +kernel
theorem dX12_readEvent_75 : decode cX12_readEvent 75 = .ok (.bipush 7, 2) := by decide +kernel
theorem dX12_readEvent_77 : decode cX12_readEvent 77 = .ok (.if_icmp .ne 12, 3) := by decide +kernel
theorem dX12_readEvent_80 : decode cX12_readEvent 80 = .ok (.aload_n 0, 1) := by decide +kernel
theorem dX12_readEvent_81 : decode cX12_readEvent 81 = .ok (.iconst 0, 1) := by decide +kernel
theorem dX12_readEvent_82 : decode cX12_readEvent 82 = .ok (.iconst 3, 1) := by decide +kernel
theorem dX12_readEvent_83 : decode cX12_readEvent 83 = .ok (.invokevirtual 174, 3) := by decide +kernel
theorem dX12_readEvent_86 : decode cX12_readEvent 86 = .ok (.goto 11, 3) := by decide +kernel
theorem dX12_readEvent_89 : decode cX12_readEvent 89 = .ok (.aload_n 0, 1) := by decide +kernel
theorem dX12_readEvent_90 : decode cX12_readEvent 90 = .ok (.bipush (-128), 2) := by decide +kernel
theorem dX12_readEvent_92 : decode cX12_readEvent 92 = .ok (.bipush 127, 2) := by decide +kernel
theorem dX12_readEvent_94 : decode cX12_readEvent 94 = .ok (.invokevirtual 174, 3) := by decide +kernel
theorem dX12_readEvent_97 : decode cX12_readEvent 97 = .ok (.iastore, 1) := by decide +kernel
theorem dX12_readEvent_98 : decode cX12_readEvent 98 = .ok (.aload_n 0, 1) := by decide +kernel
theorem dX12_readEvent_99 : decode cX12_readEvent 99 = .ok (.getfield 47, 3) := by decide +kernel
theorem dX12_readEvent_102 : decode cX12_readEvent 102 = .ok (.iload_n 1, 1) := by decide +kernel
theorem dX12_readEvent_103 : decode cX12_readEvent 103 = .ok (.iconst 0, 1) := by decide +kernel
theorem dX12_readEvent_104 : decode cX12_readEvent 104 = .ok (.iastore, 1) := by decide +kernel
theorem dX12_readEvent_105 : decode cX12_readEvent 105 = .ok (.iload_n 2, 1) := by decide +kernel
theorem dX12_readEvent_106 : decode cX12_readEvent 106 = .ok (.iconst 2, 1) := by decide +kernel
theorem dX12_readEvent_107 : decode cX12_readEvent 107 = .ok (.if_icmp .eq 8, 3) := by decide +kernel
theorem dX12_readEvent_110 : decode cX12_readEvent 110 = .ok (.iload_n 2, 1) := by decide +kernel
theorem dX12_readEvent_111 : decode cX12_readEvent 111 = .ok (.iconst 3, 1) := by decide +kernel
theorem dX12_readEvent_112 : decode cX12_readEvent 112 = .ok (.if_icmp .ne 20, 3) := by decide +kernel
theorem dX12_readEvent_115 : decode cX12_readEvent 115 = .ok (.aload_n 0, 1) := by decide +kernel
theorem dX12_readEvent_116 : decode cX12_readEvent 116 = .ok (.getfield 47, 3) := by decide +kernel
theorem dX12_readEvent_119 : decode cX12_readEvent 119 = .ok (.iload_n 1, 1) := by decide +kernel
theorem dX12_readEvent_120 : decode cX12_readEvent 120 = .ok (.aload_n 0, 1) := by decide +kernel
theorem dX12_readEvent_121 : decode cX12_readEvent 121 = .ok (.iconst 1, 1) := by decide +kernel
theorem dX12_readEvent_122 : decode cX12_readEvent 122 = .ok (.sipush 200, 3) := by decide +kernel
theorem dX12_readEvent_125 : decode cX12_readEvent 125 = .ok (.invokevirtual 174, 3) := by decide +kernel
theorem dX12_readEvent_128 : decode cX12_readEvent 128 = .ok (.iastore, 1) := by decide +kernel
theorem dX12_readEvent_129 : decode cX12_readEvent 129 = .ok (.goto 87, 3) := by decide +kernel
theorem dX12_readEvent_132 : decode cX12_readEvent 132 = .ok (.iload_n 2, 1) := by decide +kernel
theorem dX12_readEvent_133 : decode cX12_readEvent 133 = .ok (.iconst 4, 1) := by decide +kernel
theorem dX12_readEvent_134 : decode cX12_readEvent 134 = .ok (.if_icmp .eq 14, 3) := by decide +kernel
theorem dX12_readEvent_137 : decode cX12_readEvent 137 = .ok (.iload_n 2, 1) := by decide +kernel
theorem dX12_readEvent_138 : decode cX12_readEvent 138 = .ok (.iconst 5, 1) := by decide +kernel
theorem dX12_readEvent_139 : decode cX12_readEvent 139 = .ok (.if_icmp .eq 9, 3) := by decide +kernel
theorem dX12_readEvent_142 : decode cX12_readEvent 142 = .ok (.iload_n 2, 1) := by decide +kernel
theorem dX12_readEvent_143 : decode cX12_readEvent 143 = .ok (.bipush 6, 2) := by decide +kernel
theorem dX12_readEvent_145 : decode cX12_readEvent 145 = .ok (.if_icmp .ne 71, 3) := by decide +kernel
theorem dX12_readEvent_148 : decode cX12_readEvent 148 = .ok (.aload_n 0, 1) := by decide +kernel
theorem dX12_readEvent_149 : decode cX12_readEvent 149 = .ok (.getfield 119, 3) := by decide +kernel
theorem dX12_readEvent_152 : decode cX12_readEvent 152 = .ok (.ifCond .ne 50, 3) := by decide +kernel
theorem dX12_readEvent_155 : decode cX12_readEvent 155 = .ok (.aload_n 0, 1) := by decide +kernel
theorem dX12_readEvent_156 : decode cX12_readEvent 156 = .ok (.getfield 143, 3) := by decide +kernel
theorem dX12_readEvent_159 : decode cX12_readEvent 159 = .ok (.iconst 2, 1) := by decide +kernel
theorem dX12_readEvent_160 : decode cX12_readEvent 160 = .ok (.if_icmp .ne 42, 3) := by decide +kernel
theorem dX12_readEvent_163 : decode cX12_readEvent 163 = .ok (.aload_n 0, 1) := by decide +kernel
theorem dX12_readEvent_164 : decode cX12_readEvent 164 = .ok (.getfield 160, 3) := by decide +kernel
theorem dX12_readEvent_167 : decode cX12_readEvent 167 = .ok (.i2l, 1) := by decide +kernel
theorem dX12_readEvent_168 : decode cX12_readEvent 168 = .ok (.ldc2_w 178, 3) := by decide +kernel
theorem dX12_readEvent_171 : decode cX12_readEvent 171 = .ok (.ldc2_w 180, 3) := by decide +kernel
theorem dX12_readEvent_174 : decode cX12_readEvent 174 = .ok (.invokestatic 115, 3) := by decide +kernel
theorem dX12_readEvent_177 : decode cX12_readEvent 177 = .ok (.ifCond .eq 25, 3) := by decide +kernel
theorem dX12_readEvent_180 : decode cX12_readEvent 180 = .ok (.aload_n 0, 1) := by decide +kernel
theorem dX12_readEvent_181 : decode cX12_readEvent 181 = .ok (.getfield 160, 3) := by decide +kernel
theorem dX12_readEvent_184 : decode cX12_readEvent 184 = .ok (.aload_n 0, 1) := by decide +kernel
theorem dX12_readEvent_185 : decode cX12_readEvent 185 = .ok (.getfield 44, 3) := by decide +kernel
theorem dX12_readEvent_188 : decode cX12_readEvent 188 = .ok (.iload_n 1, 1) := by decide +kernel
theorem dX12_readEvent_189 : decode cX12_readEvent 189 = .ok (.iaload, 1) := by decide +kernel
theorem dX12_readEvent_190 : decode cX12_readEvent 190 = .ok (.if_icmp .gt 12, 3) := by decide +kernel
theorem dX12_readEvent_193 : decode cX12_readEvent 193 = .ok (.aload_n 0, 1) := by decide +kernel
theorem dX12_readEvent_194 : decode cX12_readEvent 194 = .ok (.iconst 5, 1) := by decide +kernel
theorem dX12_readEvent_195 : decode cX12_readEvent 195 = .ok (.aload_n 0, 1) := by decide +kernel
theorem dX12_readEvent_196 : decode cX12_readEvent 196 = .ok (.getfield 140, 3) := by decide +kernel
theorem dX12_readEvent_199 : decode cX12_readEvent 199 = .ok (.invokevirtual 163, 3) := by decide +kernel
theorem dX12_readEvent_202 : decode cX12_readEvent 202 = .ok (.aload_n 0, 1) := by decide +kernel
theorem dX12_readEvent_203 : decode cX12_readEvent 203 = .ok (.getfield 47, 3) := by decide +kernel
theorem dX12_readEvent_206 : decode cX12_readEvent 206 = .ok (.iload_n 1, 1) := by decide +kernel
theorem dX12_readEvent_207 : decode cX12_readEvent 207 = .ok (.aload_n 0, 1) := by decide +kernel
theorem dX12_readEvent_208 : decode cX12_readEvent 208 = .ok (.bipush (-128), 2) := by decide +kernel
theorem dX12_readEvent_210 : decode cX12_readEvent 210 = .ok (.bipush 127, 2) := by decide +kernel
theorem dX12_readEvent_212 : decode cX12_readEvent 212 = .ok (.invokevirtual 174, 3) := by decide +kernel
theorem dX12_readEvent_215 : decode cX12_readEvent 215 = .ok (.iastore, 1) := by decide +kernel
theorem dX12_readEvent_216 : decode cX12_readEvent 216 = .ok (.return_, 1) := by decide +kernel
theorem dX12_readStage_0 : decode cX12_readStage 0 = .ok (.aload_n 0, 1) := by decide +kernel
theorem dX12_readStage_1 : decode cX12_readStage 1 = .ok (.getfield 182, 3) := by decide +kernel
theorem dX12_readStage_4 : decode cX12_readStage 4 = .ok (.istore_n 1, 1) := by decide +kernel
theorem dX12_readStage_5 : decode cX12_readStage 5 = .ok (.aload_n 0, 1) := by decide +kernel
theorem dX12_readStage_6 : decode cX12_readStage 6 = .ok (.getfield 35, 3) := by decide +kernel
theorem dX12_readStage_9 : decode cX12_readStage 9 = .ok (.iload_n 1, 1) := by decide +kernel
theorem dX12_readStage_10 : decode cX12_readStage 10 = .ok (.iconst 1, 1) := by decide +kernel
theorem dX12_readStage_11 : decode cX12_readStage 11 = .ok (.iastore, 1) := by decide +kernel
theorem dX12_readStage_12 : decode cX12_readStage 12 = .ok (.aload_n 0, 1) := by decide +kernel
theorem dX12_readStage_13 : decode cX12_readStage 13 = .ok (.getfield 119, 3) := by decide +kernel
theorem dX12_readStage_16 : decode cX12_readStage 16 = .ok (.ifCond .ne 68, 3) := by decide +kernel
theorem dX12_readStage_19 : decode cX12_readStage 19 = .ok (.aload_n 0, 1) := by decide +kernel
theorem dX12_readStage_20 : decode cX12_readStage 20 = .ok (.getfield 143, 3) := by decide +kernel
theorem dX12_readStage_23 : decode cX12_readStage 23 = .ok (.iconst 2, 1) := by decide +kernel
theorem dX12_readStage_24 : decode cX12_readStage 24 = .ok (.if_icmp .ne 60, 3) := by decide +kernel
theorem dX12_readStage_27 : decode cX12_readStage 27 = .ok (.aload_n 0, 1) := by decide +kernel
theorem dX12_readStage_28 : decode cX12_readStage 28 = .ok (.getfield 35, 3) := by decide +kernel
theorem dX12_readStage_31 : decode cX12_readStage 31 = .ok (.iload_n 1, 1) := by decide +kernel
theorem dX12_readStage_32 : decode cX12_readStage 32 = .ok (.aload_n 0, 1) := by decide +kernel
theorem dX12_readStage_33 : decode cX12_readStage 33 = .ok (.iconst 1, 1) := by decide +kernel
theorem dX12_readStage_34 : decode cX12_readStage 34 = .ok (.bipush 20, 2) := by decide +kernel
theorem dX12_readStage_36 : decode cX12_readStage 36 = .ok (.invokevirtual 174, 3) := by decide +kernel
theorem dX12_readStage_39 : decode cX12_readStage 39 = .ok (.iastore, 1) := by decide +kernel
theorem dX12_readStage_40 : decode cX12_readStage 40 = .ok (.aload_n 0, 1) := by decide +kernel
theorem dX12_readStage_41 : decode cX12_readStage 41 = .ok (.getfield 119, 3) := by decide +kernel
theorem dX12_readStage_44 : decode cX12_readStage 44 = .ok (.ifCond .ne 29, 3) := by decide +kernel
theorem dX12_readStage_47 : decode cX12_readStage 47 = .ok (.aload_n 0, 1) := by decide +kernel
theorem dX12_readStage_48 : decode cX12_readStage 48 = .ok (.getfield 143, 3) := by decide +kernel
theorem dX12_readStage_51 : decode cX12_readStage 51 = .ok (.iconst 3, 1) := by decide +kernel
theorem dX12_readStage_52 : decode cX12_readStage 52 = .ok (.if_icmp .ne 12, 3) := by decide +kernel
theorem dX12_readStage_55 : decode cX12_readStage 55 = .ok (.aload_n 0, 1) := by decide +kernel
theorem dX12_readStage_56 : decode cX12_readStage 56 = .ok (.getfield 160, 3) := by decide +kernel
theorem dX12_readStage_59 : decode cX12_readStage 59 = .ok (.bipush 42, 2) := by decide +kernel
theorem dX12_readStage_61 : decode cX12_readStage 61 = .ok (.if_icmp .eq 12, 3) := by decide +kernel
theorem dX12_readStage_64 : decode cX12_readStage 64 = .ok (.aload_n 0, 1) := by decide +kernel
theorem dX12_readStage_65 : decode cX12_readStage 65 = .ok (.iconst 2, 1) := by decide +kernel
theorem dX12_readStage_66 : decode cX12_readStage 66 = .ok (.aload_n 0, 1) := by decide +kernel
theorem dX12_readStage_67 : decode cX12_readStage 67 = .ok (.getfield 140, 3) := by decide +kernel
theorem dX12_readStage_70 : decode cX12_readStage 70 = .ok (.invokevirtual 163, 3) := by decide +kernel
theorem dX12_readStage_73 : decode cX12_readStage 73 = .ok (.aload_n 0, 1) := by decide +kernel
theorem dX12_readStage_74 : decode cX12_readStage 74 = .ok (.getfield 119, 3) := by decide +kernel
theorem dX12_readStage_77 : decode cX12_readStage 77 = .ok (.ifCond .ne 7, 3) := by decide +kernel
theorem dX12_readStage_80 : decode cX12_readStage 80 = .ok (.aload_n 0, 1) := by decide +kernel
theorem dX12_readStage_81 : decode cX12_readStage 81 = .ok (.invokevirtual 171, 3) := by decide +kernel
theorem dX12_readStage_84 : decode cX12_readStage 84 = .ok (.aload_n 0, 1) := by decide +kernel
theorem dX12_readStage_85 : decode cX12_readStage 85 = .ok (.iload_n 1, 1) := by decide +kernel
theorem dX12_readStage_86 : decode cX12_readStage 86 = .ok (.invokevirtual 185, 3) := by decide +kernel
theorem dX12_readStage_89 : decode cX12_readStage 89 = .ok (.aload_n 0, 1) := by decide +kernel
theorem dX12_readStage_90 : decode cX12_readStage 90 = .ok (.getfield 50, 3) := by decide +kernel
theorem dX12_readStage_93 : decode cX12_readStage 93 = .ok (.iload_n 1, 1) := by decide +kernel
theorem dX12_readStage_94 : decode cX12_readStage 94 = .ok (.iconst 0, 1) := by decide +kernel
theorem dX12_readStage_95 : decode cX12_readStage 95 = .ok (.iastore, 1) := by decide +kernel
theorem dX12_readStage_96 : decode cX12_readStage 96 = .ok (.aload_n 0, 1) := by decide +kernel
theorem dX12_readStage_97 : decode cX12_readStage 97 = .ok (.getfield 119, 3) := by decide +kernel
theorem dX12_readStage_100 : decode cX12_readStage 100 = .ok (.ifCond .ne 38, 3) := by decide +kernel
theorem dX12_readStage_103 : decode cX12_readStage 103 = .ok (.aload_n 0, 1) := by decide +kernel
theorem dX12_readStage_104 : decode cX12_readStage 104 = .ok (.getfield 143, 3) := by decide +kernel
theorem dX12_readStage_107 : decode cX12_readStage 107 = .ok (.iconst 1, 1) := by decide +kernel
theorem dX12_readStage_108 : decode cX12_readStage 108 = .ok (.if_icmp .ne 30, 3) := by decide +kernel
theorem dX12_readStage_111 : decode cX12_readStage 111 = .ok (.aload_n 0, 1) := by decide +kernel
theorem dX12_readStage_112 : decode cX12_readStage 112 = .ok (.getfield 160, 3) := by decide +kernel
theorem dX12_readStage_115 : decode cX12_readStage 115 = .ok (.bipush 8, 2) := by decide +kernel
theorem dX12_readStage_117 : decode cX12_readStage 117 = .ok (.if_icmp .ne 21, 3) := by decide +kernel
theorem dX12_readStage_120 : decode cX12_readStage 120 = .ok (.aload_n 0, 1) := by decide +kernel
theorem dX12_readStage_121 : decode cX12_readStage 121 = .ok (.invokevirtual 171, 3) := by decide +kernel
theorem dX12_readStage_124 : decode cX12_readStage 124 = .ok (.aload_n 0, 1) := by decide +kernel
theorem dX12_readStage_125 : decode cX12_readStage 125 = .ok (.getfield 50, 3) := by decide +kernel
theorem dX12_readStage_128 : decode cX12_readStage 128 = .ok (.iload_n 1, 1) := by decide +kernel
theorem dX12_readStage_129 : decode cX12_readStage 129 = .ok (.aload_n 0, 1) := by decide +kernel
theorem dX12_readStage_130 : decode cX12_readStage 130 = .ok (.iconst 1, 1) := by decide +kernel
theorem dX12_readStage_131 : decode cX12_readStage 131 = .ok (.sipush 200, 3) := by decide +kernel
theorem dX12_readStage_134 : decode cX12_readStage 134 = .ok (.invokevirtual 174, 3) := by decide +kernel
theorem dX12_readStage_137 : decode cX12_readStage 137 = .ok (.iastore, 1) := by decide +kernel
theorem dX12_readStage_138 : decode cX12_readStage 138 = .ok (.aload_n 0, 1) := by decide +kernel
theorem dX12_readStage_139 : decode cX12_readStage 139 = .ok (.dup, 1) := by decide +kernel
theorem dX12_readStage_140 : decode cX12_readStage 140 = .ok (.getfield 182, 3) := by decide +kernel
theorem dX12_readStage_143 : decode cX12_readStage 143 = .ok (.iconst 1, 1) := by decide +kernel
theorem dX12_readStage_144 : decode cX12_readStage 144 = .ok (.iadd, 1) := by decide +kernel
theorem dX12_readStage_145 : decode cX12_readStage 145 = .ok (.putfield 182, 3) := by decide +kernel
theorem dX12_readStage_148 : decode cX12_readStage 148 = .ok (.return_, 1) := by decide +kernel
theorem dX12_readTrigger_0 : decode cX12_readTrigger 0 = .ok (.aload_n 0, 1) := by decide +kernel
theorem dX12_readTrigger_1 : decode cX12_readTrigger 1 = .ok (.iconst 0, 1) := by decide +kernel
theorem dX12_readTrigger_2 : decode cX12_readTrigger 2 = .ok (.putfield 125, 3) := by decide +kernel
theorem dX12_readTrigger_5 : decode cX12_readTrigger 5 = .ok (.aload_n 0, 1) := by decide +kernel
theorem dX12_readTrigger_6 : decode cX12_readTrigger 6 = .ok (.iconst 0, 1) := by decide +kernel
theorem dX12_readTrigger_7 : decode cX12_readTrigger 7 = .ok (.putfield 182, 3) := by decide +kernel
theorem dX12_readTrigger_10 : decode cX12_readTrigger 10 = .ok (.aload_n 0, 1) := by decide +kernel
theorem dX12_readTrigger_11 : decode cX12_readTrigger 11 = .ok (.invokevirtual 171, 3) := by decide +kernel
theorem dX12_readTrigger_14 : decode cX12_readTrigger 14 = .ok (.iconst 1, 1) := by decide +kernel
theorem dX12_readTrigger_15 : decode cX12_readTrigger 15 = .ok (.istore_n 1, 1) := by decide +kernel
theorem dX12_readTrigger_16 : decode cX12_readTrigger 16 = .ok (.iload_n 1, 1) := by decide +kernel
theorem dX12_readTrigger_17 : decode cX12_readTrigger 17 = .ok (.ifCond .eq 103, 3) := by decide +kernel
theorem dX12_readTrigger_20 : decode cX12_readTrigger 20 = .ok (.aload_n 0, 1) := by decide +kernel
theorem dX12_readTrigger_21 : decode cX12_readTrigger 21 = .ok (.getfield 119, 3) := by decide +kernel
theorem dX12_readTrigger_24 : decode cX12_readTrigger 24 = .ok (.ifCond .ne 96, 3) := by decide +kernel
theorem dX12_readTrigger_27 : decode cX12_readTrigger 27 = .ok (.aload_n 0, 1) := by decide +kernel
theorem dX12_readTrigger_28 : decode cX12_readTrigger 28 = .ok (.getfield 182, 3) := by decide +kernel
theorem dX12_readTrigger_31 : decode cX12_readTrigger 31 = .ok (.bipush 6, 2) := by decide +kernel
theorem dX12_readTrigger_33 : decode cX12_readTrigger 33 = .ok (.if_icmp .ne 15, 3) := by decide +kernel
theorem dX12_readTrigger_36 : decode cX12_readTrigger 36 = .ok (.aload_n 0, 1) := by decide +kernel
theorem dX12_readTrigger_37 : decode cX12_readTrigger 37 = .ok (.iconst 4, 1) := by decide +kernel
theorem dX12_readTrigger_38 : decode cX12_readTrigger 38 = .ok (.aload_n 0, 1) := by decide +kernel
theorem dX12_readTrigger_39 : decode cX12_readTrigger 39 = .ok (.getfield 140, 3) := by decide +kernel
theorem dX12_readTrigger_42 : decode cX12_readTrigger 42 = .ok (.invokevirtual 163, 3) := by decide +kernel
theorem dX12_readTrigger_45 : decode cX12_readTrigger 45 = .ok (.goto 7, 3) := by decide +kernel
theorem dX12_readTrigger_48 : decode cX12_readTrigger 48 = .ok (.aload_n 0, 1) := by decide +kernel
theorem dX12_readTrigger_49 : decode cX12_readTrigger 49 = .ok (.invokevirtual 189, 3) := by decide +kernel
theorem dX12_readTrigger_52 : decode cX12_readTrigger 52 = .ok (.aload_n 0, 1) := by decide +kernel
theorem dX12_readTrigger_53 : decode cX12_readTrigger 53 = .ok (.getfield 119, 3) := by decide +kernel
theorem dX12_readTrigger_56 : decode cX12_readTrigger 56 = .ok (.ifCond .ne 24, 3) := by decide +kernel
theorem dX12_readTrigger_59 : decode cX12_readTrigger 59 = .ok (.aload_n 0, 1) := by decide +kernel
theorem dX12_readTrigger_60 : decode cX12_readTrigger 60 = .ok (.getfield 143, 3) := by decide +kernel
theorem dX12_readTrigger_63 : decode cX12_readTrigger 63 = .ok (.iconst 3, 1) := by decide +kernel
theorem dX12_readTrigger_64 : decode cX12_readTrigger 64 = .ok (.if_icmp .ne 16, 3) := by decide +kernel
theorem dX12_readTrigger_67 : decode cX12_readTrigger 67 = .ok (.aload_n 0, 1) := by decide +kernel
theorem dX12_readTrigger_68 : decode cX12_readTrigger 68 = .ok (.getfield 160, 3) := by decide +kernel
theorem dX12_readTrigger_71 : decode cX12_readTrigger 71 = .ok (.bipush 59, 2) := by decide +kernel
theorem dX12_readTrigger_73 : decode cX12_readTrigger 73 = .ok (.if_icmp .ne 7, 3) := by decide +kernel
theorem dX12_readTrigger_76 : decode cX12_readTrigger 76 = .ok (.iconst 1, 1) := by decide +kernel
theorem dX12_readTrigger_77 : decode cX12_readTrigger 77 = .ok (.goto 4, 3) := by decide +kernel
theorem dX12_readTrigger_80 : decode cX12_readTrigger 80 = .ok (.iconst 0, 1) := by decide +kernel
theorem dX12_readTrigger_81 : decode cX12_readTrigger 81 = .ok (.istore_n 1, 1) := by decide +kernel
theorem dX12_readTrigger_82 : decode cX12_readTrigger 82 = .ok (.aload_n 0, 1) := by decide +kernel
theorem dX12_readTrigger_83 : decode cX12_readTrigger 83 = .ok (.getfield 119, 3) := by decide +kernel
theorem dX12_readTrigger_86 : decode cX12_readTrigger 86 = .ok (.ifCond .ne 23, 3) := by decide +kernel
theorem dX12_readTrigger_89 : decode cX12_readTrigger 89 = .ok (.iload_n 1, 1) := by decide +kernel
theorem dX12_readTrigger_90 : decode cX12_readTrigger 90 = .ok (.ifCond .ne 19, 3) := by decide +kernel
theorem dX12_readTrigger_93 : decode cX12_readTrigger 93 = .ok (.aload_n 0, 1) := by decide +kernel
theorem dX12_readTrigger_94 : decode cX12_readTrigger 94 = .ok (.getfield 143, 3) := by decide +kernel
theorem dX12_readTrigger_97 : decode cX12_readTrigger 97 = .ok (.ifCond .eq 12, 3) := by decide +kernel
theorem dX12_readTrigger_100 : decode cX12_readTrigger 100 = .ok (.aload_n 0, 1) := by decide +kernel
theorem dX12_readTrigger_101 : decode cX12_readTrigger 101 = .ok (.iconst 2, 1) := by decide +kernel
theorem dX12_readTrigger_102 : decode cX12_readTrigger 102 = .ok (.aload_n 0, 1) := by decide +kernel
theorem dX12_readTrigger_103 : decode cX12_readTrigger 103 = .ok (.getfield 140, 3) := by decide +kernel
theorem dX12_readTrigger_106 : decode cX12_readTrigger 106 = .ok (.invokevirtual 163, 3) := by decide +kernel
theorem dX12_readTrigger_109 : decode cX12_readTrigger 109 = .ok (.iload_n 1, 1) := by decide +kernel
theorem dX12_readTrigger_110 : decode cX12_readTrigger 110 = .ok (.ifCond .eq (-94), 3) := by decide +kernel
theorem dX12_readTrigger_113 : decode cX12_readTrigger 113 = .ok (.aload_n 0, 1) := by decide +kernel
theorem dX12_readTrigger_114 : decode cX12_readTrigger 114 = .ok (.invokevirtual 171, 3) := by decide +kernel
theorem dX12_readTrigger_117 : decode cX12_readTrigger 117 = .ok (.goto (-101), 3) := by decide +kernel
theorem dX12_readTrigger_120 : decode cX12_readTrigger 120 = .ok (.return_, 1) := by decide +kernel
theorem dX12_trigger_0 : decode cX12_trigger 0 = .ok (.aload_n 0, 1) := by decide +kernel
theorem dX12_trigger_1 : decode cX12_trigger 1 = .ok (.iconst 0, 1) := by decide +kernel
theorem dX12_trigger_2 : decode cX12_trigger 2 = .ok (.putfield 119, 3) := by decide +kernel
theorem dX12_trigger_5 : decode cX12_trigger 5 = .ok (.aload_n 0, 1) := by decide +kernel
theorem dX12_trigger_6 : decode cX12_trigger 6 = .ok (.invokevirtual 192, 3) := by decide +kernel
theorem dX12_trigger_9 : decode cX12_trigger 9 = .ok (.aload_n 0, 1) := by decide +kernel
theorem dX12_trigger_10 : decode cX12_trigger 10 = .ok (.iconst 0, 1) := by decide +kernel
theorem dX12_trigger_11 : decode cX12_trigger 11 = .ok (.putfield 110, 3) := by decide +kernel
theorem dX12_trigger_14 : decode cX12_trigger 14 = .ok (.aload_n 0, 1) := by decide +kernel
theorem dX12_trigger_15 : decode cX12_trigger 15 = .ok (.getfield 119, 3) := by decide +kernel
theorem dX12_trigger_18 : decode cX12_trigger 18 = .ok (.ifCond .le 11, 3) := by decide +kernel
theorem dX12_trigger_21 : decode cX12_trigger 21 = .ok (.bipush (-10), 2) := by decide +kernel
theorem dX12_trigger_23 : decode cX12_trigger 23 = .ok (.aload_n 0, 1) := by decide +kernel
theorem dX12_trigger_24 : decode cX12_trigger 24 = .ok (.getfield 122, 3) := by decide +kernel
theorem dX12_trigger_27 : decode cX12_trigger 27 = .ok (.isub, 1) := by decide +kernel
theorem dX12_trigger_28 : decode cX12_trigger 28 = .ok (.ireturn, 1) := by decide +kernel
theorem dX12_trigger_29 : decode cX12_trigger 29 = .ok (.aload_n 0, 1) := by decide +kernel
theorem dX12_trigger_30 : decode cX12_trigger 30 = .ok (.aload_n 0, 1) := by decide +kernel
theorem dX12_trigger_31 : decode cX12_trigger 31 = .ok (.getfield 182, 3) := by decide +kernel
theorem dX12_trigger_34 : decode cX12_trigger 34 = .ok (.putfield 195, 3) := by decide +kernel
theorem dX12_trigger_37 : decode cX12_trigger 37 = .ok (.iconst 0, 1) := by decide +kernel
theorem dX12_trigger_38 : decode cX12_trigger 38 = .ok (.istore_n 1, 1) := by decide +kernel
theorem dX12_trigger_39 : decode cX12_trigger 39 = .ok (.iload_n 1, 1) := by decide +kernel
theorem dX12_trigger_40 : decode cX12_trigger 40 = .ok (.aload_n 0, 1) := by decide +kernel
theorem dX12_trigger_41 : decode cX12_trigger 41 = .ok (.getfield 195, 3) := by decide +kernel
theorem dX12_trigger_44 : decode cX12_trigger 44 = .ok (.if_icmp .ge 81, 3) := by decide +kernel
theorem dX12_trigger_47 : decode cX12_trigger 47 = .ok (.aload_n 0, 1) := by decide +kernel
theorem dX12_trigger_48 : decode cX12_trigger 48 = .ok (.getfield 17, 3) := by decide +kernel
theorem dX12_trigger_51 : decode cX12_trigger 51 = .ok (.iload_n 1, 1) := by decide +kernel
theorem dX12_trigger_52 : decode cX12_trigger 52 = .ok (.aload_n 0, 1) := by decide +kernel
theorem dX12_trigger_53 : decode cX12_trigger 53 = .ok (.getfield 35, 3) := by decide +kernel
theorem dX12_trigger_56 : decode cX12_trigger 56 = .ok (.iload_n 1, 1) := by decide +kernel
theorem dX12_trigger_57 : decode cX12_trigger 57 = .ok (.iaload, 1) := by decide +kernel
theorem dX12_trigger_58 : decode cX12_trigger 58 = .ok (.iastore, 1) := by decide +kernel
theorem dX12_trigger_59 : decode cX12_trigger 59 = .ok (.aload_n 0, 1) := by decide +kernel
theorem dX12_trigger_60 : decode cX12_trigger 60 = .ok (.getfield 20, 3) := by decide +kernel
theorem dX12_trigger_63 : decode cX12_trigger 63 = .ok (.iload_n 1, 1) := by decide +kernel
theorem dX12_trigger_64 : decode cX12_trigger 64 = .ok (.aload_n 0, 1) := by decide +kernel
theorem dX12_trigger_65 : decode cX12_trigger 65 = .ok (.getfield 38, 3) := by decide +kernel
theorem dX12_trigger_68 : decode cX12_trigger 68 = .ok (.iload_n 1, 1) := by decide +kernel
theorem dX12_trigger_69 : decode cX12_trigger 69 = .ok (.iaload, 1) := by decide +kernel
theorem dX12_trigger_70 : decode cX12_trigger 70 = .ok (.iastore, 1) := by decide +kernel
theorem dX12_trigger_71 : decode cX12_trigger 71 = .ok (.aload_n 0, 1) := by decide +kernel
theorem dX12_trigger_72 : decode cX12_trigger 72 = .ok (.getfield 23, 3) := by decide +kernel
theorem dX12_trigger_75 : decode cX12_trigger 75 = .ok (.iload_n 1, 1) := by decide +kernel
theorem dX12_trigger_76 : decode cX12_trigger 76 = .ok (.aload_n 0, 1) := by decide +kernel
theorem dX12_trigger_77 : decode cX12_trigger 77 = .ok (.getfield 41, 3) := by decide +kernel
theorem dX12_trigger_80 : decode cX12_trigger 80 = .ok (.iload_n 1, 1) := by decide +kernel
theorem dX12_trigger_81 : decode cX12_trigger 81 = .ok (.iaload, 1) := by decide +kernel
theorem dX12_trigger_82 : decode cX12_trigger 82 = .ok (.iastore, 1) := by decide +kernel
theorem dX12_trigger_83 : decode cX12_trigger 83 = .ok (.aload_n 0, 1) := by decide +kernel
theorem dX12_trigger_84 : decode cX12_trigger 84 = .ok (.getfield 26, 3) := by decide +kernel
theorem dX12_trigger_87 : decode cX12_trigger 87 = .ok (.iload_n 1, 1) := by decide +kernel
theorem dX12_trigger_88 : decode cX12_trigger 88 = .ok (.aload_n 0, 1) := by decide +kernel
theorem dX12_trigger_89 : decode cX12_trigger 89 = .ok (.getfield 44, 3) := by decide +kernel
theorem dX12_trigger_92 : decode cX12_trigger 92 = .ok (.iload_n 1, 1) := by decide +kernel
theorem dX12_trigger_93 : decode cX12_trigger 93 = .ok (.iaload, 1) := by decide +kernel
theorem dX12_trigger_94 : decode cX12_trigger 94 = .ok (.iastore, 1) := by decide +kernel
theorem dX12_trigger_95 : decode cX12_trigger 95 = .ok (.aload_n 0, 1) := by decide +kernel
theorem dX12_trigger_96 : decode cX12_trigger 96 = .ok (.getfield 29, 3) := by decide +kernel
theorem dX12_trigger_99 : decode cX12_trigger 99 = .ok (.iload_n 1, 1) := by decide +kernel
theorem dX12_trigger_100 : decode cX12_trigger 100 = .ok (.aload_n 0, 1) := by decide +kernel
theorem dX12_trigger_101 : decode cX12_trigger 101 = .ok (.getfield 47, 3) := by decide +kernel
theorem dX12_trigger_104 : decode cX12_trigger 104 = .ok (.iload_n 1, 1) := by decide +kernel
theorem dX12_trigger_105 : decode cX12_trigger 105 = .ok (.iaload, 1) := by decide +kernel
theorem dX12_trigger_106 : decode cX12_trigger 106 = .ok (.iastore, 1) := by decide +kernel
theorem dX12_trigger_107 : decode cX12_trigger 107 = .ok (.aload_n 0, 1) := by decide +kernel
theorem dX12_trigger_108 : decode cX12_trigger 108 = .ok (.getfield 32, 3) := by decide +kernel
theorem dX12_trigger_111 : decode cX12_trigger 111 = .ok (.iload_n 1, 1) := by decide +kernel
theorem dX12_trigger_112 : decode cX12_trigger 112 = .ok (.aload_n 0, 1) := by decide +kernel
theorem dX12_trigger_113 : decode cX12_trigger 113 = .ok (.getfield 50, 3) := by decide +kernel
theorem dX12_trigger_116 : decode cX12_trigger 116 = .ok (.iload_n 1, 1) := by decide +kernel
theorem dX12_trigger_117 : decode cX12_trigger 117 = .ok (.iaload, 1) := by decide +kernel
theorem dX12_trigger_118 : decode cX12_trigger 118 = .ok (.iastore, 1) := by decide +kernel
theorem dX12_trigger_119 : decode cX12_trigger 119 = .ok (.iinc 1 1, 3) := by decide +kernel
theorem dX12_trigger_122 : decode cX12_trigger 122 = .ok (.goto (-83), 3) := by decide +kernel
theorem dX12_trigger_125 : decode cX12_trigger 125 = .ok (.aload_n 0, 1) := by decide +kernel
theorem dX12_trigger_126 : decode cX12_trigger 126 = .ok (.iconst 0, 1) := by decide +kernel
theorem dX12_trigger_127 : decode cX12_trigger 127 = .ok (.putfield 198, 3) := by decide +kernel
theorem dX12_trigger_130 : decode cX12_trigger 130 = .ok (.aload_n 0, 1) := by decide +kernel
theorem dX12_trigger_131 : decode cX12_trigger 131 = .ok (.getfield 195, 3) := by decide +kernel
theorem dX12_trigger_134 : decode cX12_trigger 134 = .ok (.ireturn, 1) := by decide +kernel
theorem dX12_fault_0 : decode cX12_fault 0 = .ok (.aload_n 0, 1) := by decide +kernel
theorem dX12_fault_1 : decode cX12_fault 1 = .ok (.getfield 119, 3) := by decide +kernel
theorem dX12_fault_4 : decode cX12_fault 4 = .ok (.ireturn, 1) := by decide +kernel
theorem dX12_of_0 : decode cX12_of 0 = .ok (.aload_n 0, 1) := by decide +kernel
theorem dX12_of_1 : decode cX12_of 1 = .ok (.getfield 14, 3) := by decide +kernel
theorem dX12_of_4 : decode cX12_of 4 = .ok (.iload_n 1, 1) := by decide +kernel
theorem dX12_of_5 : decode cX12_of 5 = .ok (.iaload, 1) := by decide +kernel
theorem dX12_of_6 : decode cX12_of 6 = .ok (.bipush 24, 2) := by decide +kernel
theorem dX12_of_8 : decode cX12_of 8 = .ok (.bipush 8, 2) := by decide +kernel
theorem dX12_of_10 : decode cX12_of 10 = .ok (.iload_n 2, 1) := by decide +kernel
theorem dX12_of_11 : decode cX12_of 11 = .ok (.imul, 1) := by decide +kernel
theorem dX12_of_12 : decode cX12_of 12 = .ok (.isub, 1) := by decide +kernel
theorem dX12_of_13 : decode cX12_of 13 = .ok (.ishr, 1) := by decide +kernel
theorem dX12_of_14 : decode cX12_of 14 = .ok (.i2b, 1) := by decide +kernel
theorem dX12_of_15 : decode cX12_of 15 = .ok (.ireturn, 1) := by decide +kernel
theorem dX12_keep_0 : decode cX12_keep 0 = .ok (.iload_n 1, 1) := by decide +kernel
theorem dX12_keep_1 : decode cX12_keep 1 = .ok (.i2l, 1) := by decide +kernel
theorem dX12_keep_2 : decode cX12_keep 2 = .ok (.lconst 0, 1) := by decide +kernel
theorem dX12_keep_3 : decode cX12_keep 3 = .ok (.ldc2_w 201, 3) := by decide +kernel
theorem dX12_keep_6 : decode cX12_keep 6 = .ok (.invokestatic 115, 3) := by decide +kernel
theorem dX12_keep_9 : decode cX12_keep 9 = .ok (.ifCond .eq 15, 3) := by decide +kernel
theorem dX12_keep_12 : decode cX12_keep 12 = .ok (.iload_n 2, 1) := by decide +kernel
theorem dX12_keep_13 : decode cX12_keep 13 = .ok (.i2l, 1) := by decide +kernel
theorem dX12_keep_14 : decode cX12_keep 14 = .ok (.lconst 0, 1) := by decide +kernel
theorem dX12_keep_15 : decode cX12_keep 15 = .ok (.ldc2_w 201, 3) := by decide +kernel
theorem dX12_keep_18 : decode cX12_keep 18 = .ok (.invokestatic 115, 3) := by decide +kernel
theorem dX12_keep_21 : decode cX12_keep 21 = .ok (.ifCond .ne 5, 3) := by decide +kernel
theorem dX12_keep_24 : decode cX12_keep 24 = .ok (.iconst (-1), 1) := by decide +kernel
theorem dX12_keep_25 : decode cX12_keep 25 = .ok (.ireturn, 1) := by decide +kernel
theorem dX12_keep_26 : decode cX12_keep 26 = .ok (.aload_n 0, 1) := by decide +kernel
theorem dX12_keep_27 : decode cX12_keep 27 = .ok (.getfield 198, 3) := by decide +kernel
theorem dX12_keep_30 : decode cX12_keep 30 = .ok (.iconst 1, 1) := by decide +kernel
theorem dX12_keep_31 : decode cX12_keep 31 = .ok (.if_icmp .eq 11, 3) := by decide +kernel
theorem dX12_keep_34 : decode cX12_keep 34 = .ok (.aload_n 0, 1) := by decide +kernel
theorem dX12_keep_35 : decode cX12_keep 35 = .ok (.getfield 198, 3) := by decide +kernel
theorem dX12_keep_38 : decode cX12_keep 38 = .ok (.iconst 2, 1) := by decide +kernel
theorem dX12_keep_39 : decode cX12_keep 39 = .ok (.if_icmp .ne 6, 3) := by decide +kernel
theorem dX12_keep_42 : decode cX12_keep 42 = .ok (.bipush (-2), 2) := by decide +kernel
theorem dX12_keep_44 : decode cX12_keep 44 = .ok (.ireturn, 1) := by decide +kernel
theorem dX12_keep_45 : decode cX12_keep 45 = .ok (.aload_n 0, 1) := by decide +kernel
theorem dX12_keep_46 : decode cX12_keep 46 = .ok (.iload_n 1, 1) := by decide +kernel
theorem dX12_keep_47 : decode cX12_keep 47 = .ok (.putfield 53, 3) := by decide +kernel
theorem dX12_keep_50 : decode cX12_keep 50 = .ok (.aload_n 0, 1) := by decide +kernel
theorem dX12_keep_51 : decode cX12_keep 51 = .ok (.iload_n 2, 1) := by decide +kernel
theorem dX12_keep_52 : decode cX12_keep 52 = .ok (.putfield 57, 3) := by decide +kernel
theorem dX12_keep_55 : decode cX12_keep 55 = .ok (.iconst 1, 1) := by decide +kernel
theorem dX12_keep_56 : decode cX12_keep 56 = .ok (.ireturn, 1) := by decide +kernel
theorem dX12_arms_0 : decode cX12_arms 0 = .ok (.aload_n 0, 1) := by decide +kernel
theorem dX12_arms_1 : decode cX12_arms 1 = .ok (.iconst 1, 1) := by decide +kernel
theorem dX12_arms_2 : decode cX12_arms 2 = .ok (.putfield 198, 3) := by decide +kernel
theorem dX12_arms_5 : decode cX12_arms 5 = .ok (.aload_n 0, 1) := by decide +kernel
theorem dX12_arms_6 : decode cX12_arms 6 = .ok (.aload_n 0, 1) := by decide +kernel
theorem dX12_arms_7 : decode cX12_arms 7 = .ok (.getfield 203, 3) := by decide +kernel
theorem dX12_arms_10 : decode cX12_arms 10 = .ok (.putfield 206, 3) := by decide +kernel
theorem dX12_arms_13 : decode cX12_arms 13 = .ok (.aload_n 0, 1) := by decide +kernel
theorem dX12_arms_14 : decode cX12_arms 14 = .ok (.iconst 0, 1) := by decide +kernel
theorem dX12_arms_15 : decode cX12_arms 15 = .ok (.putfield 209, 3) := by decide +kernel
theorem dX12_arms_18 : decode cX12_arms 18 = .ok (.aload_n 0, 1) := by decide +kernel
theorem dX12_arms_19 : decode cX12_arms 19 = .ok (.iconst 0, 1) := by decide +kernel
theorem dX12_arms_20 : decode cX12_arms 20 = .ok (.putfield 212, 3) := by decide +kernel
theorem dX12_arms_23 : decode cX12_arms 23 = .ok (.aload_n 0, 1) := by decide +kernel
theorem dX12_arms_24 : decode cX12_arms 24 = .ok (.aload_n 0, 1) := by decide +kernel
theorem dX12_arms_25 : decode cX12_arms 25 = .ok (.getfield 203, 3) := by decide +kernel
theorem dX12_arms_28 : decode cX12_arms 28 = .ok (.putfield 215, 3) := by decide +kernel
theorem dX12_arms_31 : decode cX12_arms 31 = .ok (.aload_n 0, 1) := by decide +kernel
theorem dX12_arms_32 : decode cX12_arms 32 = .ok (.iconst 0, 1) := by decide +kernel
theorem dX12_arms_33 : decode cX12_arms 33 = .ok (.putfield 218, 3) := by decide +kernel
theorem dX12_arms_36 : decode cX12_arms 36 = .ok (.return_, 1) := by decide +kernel
theorem dX12_arm_0 : decode cX12_arm 0 = .ok (.aload_n 0, 1) := by decide +kernel
theorem dX12_arm_1 : decode cX12_arm 1 = .ok (.getfield 195, 3) := by decide +kernel
theorem dX12_arm_4 : decode cX12_arm 4 = .ok (.ifCond .ne 6, 3) := by decide +kernel
theorem dX12_arm_7 : decode cX12_arm 7 = .ok (.bipush (-2), 2) := by decide +kernel
theorem dX12_arm_9 : decode cX12_arm 9 = .ok (.ireturn, 1) := by decide +kernel
theorem dX12_arm_10 : decode cX12_arm 10 = .ok (.aload_n 0, 1) := by decide +kernel
theorem dX12_arm_11 : decode cX12_arm 11 = .ok (.getfield 221, 3) := by decide +kernel
theorem dX12_arm_14 : decode cX12_arm 14 = .ok (.bipush 8, 2) := by decide +kernel
theorem dX12_arm_16 : decode cX12_arm 16 = .ok (.if_icmp .ne 6, 3) := by decide +kernel
theorem dX12_arm_19 : decode cX12_arm 19 = .ok (.bipush (-3), 2) := by decide +kernel
theorem dX12_arm_21 : decode cX12_arm 21 = .ok (.ireturn, 1) := by decide +kernel
theorem dX12_arm_22 : decode cX12_arm 22 = .ok (.aload_n 0, 1) := by decide +kernel
theorem dX12_arm_23 : decode cX12_arm 23 = .ok (.invokevirtual 224, 3) := by decide +kernel
theorem dX12_arm_26 : decode cX12_arm 26 = .ok (.iconst 1, 1) := by decide +kernel
theorem dX12_arm_27 : decode cX12_arm 27 = .ok (.ireturn, 1) := by decide +kernel
theorem dX12_high_0 : decode cX12_high 0 = .ok (.iload_n 1, 1) := by decide +kernel
theorem dX12_high_1 : decode cX12_high 1 = .ok (.iconst 1, 1) := by decide +kernel
theorem dX12_high_2 : decode cX12_high 2 = .ok (.isub, 1) := by decide +kernel
theorem dX12_high_3 : decode cX12_high 3 = .ok (.istore 4, 2) := by decide +kernel
theorem dX12_high_5 : decode cX12_high 5 = .ok (.iload 4, 2) := by decide +kernel
theorem dX12_high_7 : decode cX12_high 7 = .ok (.aload_n 0, 1) := by decide +kernel
theorem dX12_high_8 : decode cX12_high 8 = .ok (.getfield 206, 3) := by decide +kernel
theorem dX12_high_11 : decode cX12_high 11 = .ok (.if_icmp .lt 20, 3) := by decide +kernel
theorem dX12_high_14 : decode cX12_high 14 = .ok (.aload_n 0, 1) := by decide +kernel
theorem dX12_high_15 : decode cX12_high 15 = .ok (.iload 4, 2) := by decide +kernel
theorem dX12_high_17 : decode cX12_high 17 = .ok (.iload_n 2, 1) := by decide +kernel
theorem dX12_high_18 : decode cX12_high 18 = .ok (.invokevirtual 227, 3) := by decide +kernel
theorem dX12_high_21 : decode cX12_high 21 = .ok (.iload_n 3, 1) := by decide +kernel
theorem dX12_high_22 : decode cX12_high 22 = .ok (.if_icmp .lt 9, 3) := by decide +kernel
theorem dX12_high_25 : decode cX12_high 25 = .ok (.iinc 4 (-1), 3) := by decide +kernel
theorem dX12_high_28 : decode cX12_high 28 = .ok (.goto (-23), 3) := by decide +kernel
theorem dX12_high_31 : decode cX12_high 31 = .ok (.iload 4, 2) := by decide +kernel
theorem dX12_high_33 : decode cX12_high 33 = .ok (.aload_n 0, 1) := by decide +kernel
theorem dX12_high_34 : decode cX12_high 34 = .ok (.getfield 206, 3) := by decide +kernel
theorem dX12_high_37 : decode cX12_high 37 = .ok (.if_icmp .lt 12, 3) := by decide +kernel
theorem dX12_high_40 : decode cX12_high 40 = .ok (.iload_n 1, 1) := by decide +kernel
theorem dX12_high_41 : decode cX12_high 41 = .ok (.iconst 1, 1) := by decide +kernel
theorem dX12_high_42 : decode cX12_high 42 = .ok (.isub, 1) := by decide +kernel
theorem dX12_high_43 : decode cX12_high 43 = .ok (.iload 4, 2) := by decide +kernel
theorem dX12_high_45 : decode cX12_high 45 = .ok (.isub, 1) := by decide +kernel
theorem dX12_high_46 : decode cX12_high 46 = .ok (.goto 4, 3) := by decide +kernel
theorem dX12_high_49 : decode cX12_high 49 = .ok (.iconst 0, 1) := by decide +kernel
theorem dX12_high_50 : decode cX12_high 50 = .ok (.ireturn, 1) := by decide +kernel
theorem dX12_isRunt_0 : decode cX12_isRunt 0 = .ok (.aload_n 0, 1) := by decide +kernel
theorem dX12_isRunt_1 : decode cX12_isRunt 1 = .ok (.iload_n 1, 1) := by decide +kernel
theorem dX12_isRunt_2 : decode cX12_isRunt 2 = .ok (.iload_n 2, 1) := by decide +kernel
theorem dX12_isRunt_3 : decode cX12_isRunt 3 = .ok (.iload_n 3, 1) := by decide +kernel
theorem dX12_isRunt_4 : decode cX12_isRunt 4 = .ok (.invokevirtual 230, 3) := by decide +kernel
theorem dX12_isRunt_7 : decode cX12_isRunt 7 = .ok (.istore 5, 2) := by decide +kernel
theorem dX12_isRunt_9 : decode cX12_isRunt 9 = .ok (.iload 5, 2) := by decide +kernel
theorem dX12_isRunt_11 : decode cX12_isRunt 11 = .ok (.ifCond .le 7, 3) := by decide +kernel
theorem dX12_isRunt_14 : decode cX12_isRunt 14 = .ok (.iconst 1, 1) := by decide +kernel
theorem dX12_isRunt_15 : decode cX12_isRunt 15 = .ok (.goto 4, 3) := by decide +kernel
theorem dX12_isRunt_18 : decode cX12_isRunt 18 = .ok (.iconst 0, 1) := by decide +kernel
theorem dX12_isRunt_19 : decode cX12_isRunt 19 = .ok (.istore 6, 2) := by decide +kernel
theorem dX12_isRunt_21 : decode cX12_isRunt 21 = .ok (.iload_n 1, 1) := by decide +kernel
theorem dX12_isRunt_22 : decode cX12_isRunt 22 = .ok (.iload 5, 2) := by decide +kernel
theorem dX12_isRunt_24 : decode cX12_isRunt 24 = .ok (.isub, 1) := by decide +kernel
theorem dX12_isRunt_25 : decode cX12_isRunt 25 = .ok (.istore 7, 2) := by decide +kernel
theorem dX12_isRunt_27 : decode cX12_isRunt 27 = .ok (.iload 7, 2) := by decide +kernel
theorem dX12_isRunt_29 : decode cX12_isRunt 29 = .ok (.iload_n 1, 1) := by decide +kernel
theorem dX12_isRunt_30 : decode cX12_isRunt 30 = .ok (.if_icmp .ge 33, 3) := by decide +kernel
theorem dX12_isRunt_33 : decode cX12_isRunt 33 = .ok (.iload 6, 2) := by decide +kernel
theorem dX12_isRunt_35 : decode cX12_isRunt 35 = .ok (.ifCond .eq 19, 3) := by decide +kernel
theorem dX12_isRunt_38 : decode cX12_isRunt 38 = .ok (.aload_n 0, 1) := by decide +kernel
theorem dX12_isRunt_39 : decode cX12_isRunt 39 = .ok (.iload 7, 2) := by decide +kernel
theorem dX12_isRunt_41 : decode cX12_isRunt 41 = .ok (.iload_n 2, 1) := by decide +kernel
theorem dX12_isRunt_42 : decode cX12_isRunt 42 = .ok (.invokevirtual 227, 3) := by decide +kernel
theorem dX12_isRunt_45 : decode cX12_isRunt 45 = .ok (.iload 4, 2) := by decide +kernel
theorem dX12_isRunt_47 : decode cX12_isRunt 47 = .ok (.if_icmp .ge 7, 3) := by decide +kernel
theorem dX12_isRunt_50 : decode cX12_isRunt 50 = .ok (.iconst 1, 1) := by decide +kernel
theorem dX12_isRunt_51 : decode cX12_isRunt 51 = .ok (.goto 4, 3) := by decide +kernel
theorem dX12_isRunt_54 : decode cX12_isRunt 54 = .ok (.iconst 0, 1) := by decide +kernel
theorem dX12_isRunt_55 : decode cX12_isRunt 55 = .ok (.istore 6, 2) := by decide +kernel
theorem dX12_isRunt_57 : decode cX12_isRunt 57 = .ok (.iinc 7 1, 3) := by decide +kernel
theorem dX12_isRunt_60 : decode cX12_isRunt 60 = .ok (.goto (-33), 3) := by decide +kernel
theorem dX12_isRunt_63 : decode cX12_isRunt 63 = .ok (.iload 6, 2) := by decide +kernel
theorem dX12_isRunt_65 : decode cX12_isRunt 65 = .ok (.ireturn, 1) := by decide +kernel
theorem dX12_happens_0 : decode cX12_happens 0 = .ok (.iload_n 1, 1) := by decide +kernel
theorem dX12_happens_1 : decode cX12_happens 1 = .ok (.aload_n 0, 1) := by decide +kernel
theorem dX12_happens_2 : decode cX12_happens 2 = .ok (.getfield 206, 3) := by decide +kernel
theorem dX12_happens_5 : decode cX12_happens 5 = .ok (.if_icmp .ne 5, 3) := by decide +kernel
theorem dX12_happens_8 : decode cX12_happens 8 = .ok (.iconst 0, 1) := by decide +kernel
theorem dX12_happens_9 : decode cX12_happens 9 = .ok (.ireturn, 1) := by decide +kernel
theorem dX12_happens_10 : decode cX12_happens 10 = .ok (.aload_n 0, 1) := by decide +kernel
theorem dX12_happens_11 : decode cX12_happens 11 = .ok (.getfield 23, 3) := by decide +kernel
theorem dX12_happens_14 : decode cX12_happens 14 = .ok (.aload_n 0, 1) := by decide +kernel
theorem dX12_happens_15 : decode cX12_happens 15 = .ok (.getfield 209, 3) := by decide +kernel
theorem dX12_happens_18 : decode cX12_happens 18 = .ok (.iaload, 1) := by decide +kernel
theorem dX12_happens_19 : decode cX12_happens 19 = .ok (.istore_n 2, 1) := by decide +kernel
theorem dX12_happens_20 : decode cX12_happens 20 = .ok (.aload_n 0, 1) := by decide +kernel
theorem dX12_happens_21 : decode cX12_happens 21 = .ok (.getfield 26, 3) := by decide +kernel
theorem dX12_happens_24 : decode cX12_happens 24 = .ok (.aload_n 0, 1) := by decide +kernel
theorem dX12_happens_25 : decode cX12_happens 25 = .ok (.getfield 209, 3) := by decide +kernel
theorem dX12_happens_28 : decode cX12_happens 28 = .ok (.iaload, 1) := by decide +kernel
theorem dX12_happens_29 : decode cX12_happens 29 = .ok (.istore_n 3, 1) := by decide +kernel
theorem dX12_happens_30 : decode cX12_happens 30 = .ok (.aload_n 0, 1) := by decide +kernel
theorem dX12_happens_31 : decode cX12_happens 31 = .ok (.getfield 29, 3) := by decide +kernel
theorem dX12_happens_34 : decode cX12_happens 34 = .ok (.aload_n 0, 1) := by decide +kernel
theorem dX12_happens_35 : decode cX12_happens 35 = .ok (.getfield 209, 3) := by decide +kernel
theorem dX12_happens_38 : decode cX12_happens 38 = .ok (.iaload, 1) := by decide +kernel
theorem dX12_happens_39 : decode cX12_happens 39 = .ok (.istore 4, 2) := by decide +kernel
theorem dX12_happens_41 : decode cX12_happens 41 = .ok (.aload_n 0, 1) := by decide +kernel
theorem dX12_happens_42 : decode cX12_happens 42 = .ok (.iload_n 1, 1) := by decide +kernel
theorem dX12_happens_43 : decode cX12_happens 43 = .ok (.iconst 1, 1) := by decide +kernel
theorem dX12_happens_44 : decode cX12_happens 44 = .ok (.isub, 1) := by decide +kernel
theorem dX12_happens_45 : decode cX12_happens 45 = .ok (.iload_n 2, 1) := by decide +kernel
theorem dX12_happens_46 : decode cX12_happens 46 = .ok (.invokevirtual 227, 3) := by decide +kernel
theorem dX12_happens_49 : decode cX12_happens 49 = .ok (.istore 5, 2) := by decide +kernel
theorem dX12_happens_51 : decode cX12_happens 51 = .ok (.aload_n 0, 1) := by decide +kernel
theorem dX12_happens_52 : decode cX12_happens 52 = .ok (.iload_n 1, 1) := by decide +kernel
theorem dX12_happens_53 : decode cX12_happens 53 = .ok (.iload_n 2, 1) := by decide +kernel
theorem dX12_happens_54 : decode cX12_happens 54 = .ok (.invokevirtual 227, 3) := by decide +kernel
theorem dX12_happens_57 : decode cX12_happens 57 = .ok (.istore 6, 2) := by decide +kernel
theorem dX12_happens_59 : decode cX12_happens 59 = .ok (.iload 5, 2) := by decide +kernel
theorem dX12_happens_61 : decode cX12_happens 61 = .ok (.iload_n 3, 1) := by decide +kernel
theorem dX12_happens_62 : decode cX12_happens 62 = .ok (.if_icmp .lt 13, 3) := by decide +kernel
theorem dX12_happens_65 : decode cX12_happens 65 = .ok (.iload 6, 2) := by decide +kernel
theorem dX12_happens_67 : decode cX12_happens 67 = .ok (.iload_n 3, 1) := by decide +kernel
theorem dX12_happens_68 : decode cX12_happens 68 = .ok (.if_icmp .ge 7, 3) := by decide +kernel
theorem dX12_happens_71 : decode cX12_happens 71 = .ok (.iconst 1, 1) := by decide +kernel
theorem dX12_happens_72 : decode cX12_happens 72 = .ok (.goto 4, 3) := by decide +kernel
end
section
theorem dX12_happens_75 : decode cX12_happens 75 = .ok (.iconst 0, 1) := by decide +kernel
theorem dX12_happens_76 : decode cX12_happens 76 = .ok (.istore 7, 2) := by decide +kernel
theorem dX12_happens_78 : decode cX12_happens 78 = .ok (.aload_n 0, 1) := by decide +kernel
theorem dX12_happens_79 : decode cX12_happens 79 = .ok (.getfield 20, 3) := by decide +kernel
theorem dX12_happens_82 : decode cX12_happens 82 = .ok (.aload_n 0, 1) := by decide +kernel
theorem dX12_happens_83 : decode cX12_happens 83 = .ok (.getfield 209, 3) := by decide +kernel
theorem dX12_happens_86 : decode cX12_happens 86 = .ok (.iaload, 1) := by decide +kernel
theorem dX12_happens_87 : decode cX12_happens 87 = .ok (.tableswitch 209 0 6 #[41, 59, 62, 85, 118, 141, 175], 41) := by decide +kernel
theorem dX12_happens_128 : decode cX12_happens 128 = .ok (.iload 5, 2) := by decide +kernel
theorem dX12_happens_130 : decode cX12_happens 130 = .ok (.iload_n 3, 1) := by decide +kernel
theorem dX12_happens_131 : decode cX12_happens 131 = .ok (.if_icmp .ge 13, 3) := by decide +kernel
theorem dX12_happens_134 : decode cX12_happens 134 = .ok (.iload 6, 2) := by decide +kernel
theorem dX12_happens_136 : decode cX12_happens 136 = .ok (.iload_n 3, 1) := by decide +kernel
theorem dX12_happens_137 : decode cX12_happens 137 = .ok (.if_icmp .lt 7, 3) := by decide +kernel
theorem dX12_happens_140 : decode cX12_happens 140 = .ok (.iconst 1, 1) := by decide +kernel
theorem dX12_happens_141 : decode cX12_happens 141 = .ok (.goto 4, 3) := by decide +kernel
theorem dX12_happens_144 : decode cX12_happens 144 = .ok (.iconst 0, 1) := by decide +kernel
theorem dX12_happens_145 : decode cX12_happens 145 = .ok (.ireturn, 1) := by decide +kernel
theorem dX12_happens_146 : decode cX12_happens 146 = .ok (.iload 7, 2) := by decide +kernel
theorem dX12_happens_148 : decode cX12_happens 148 = .ok (.ireturn, 1) := by decide +kernel
theorem dX12_happens_149 : decode cX12_happens 149 = .ok (.iload 7, 2) := by decide +kernel
theorem dX12_happens_151 : decode cX12_happens 151 = .ok (.ifCond .eq 19, 3) := by decide +kernel
theorem dX12_happens_154 : decode cX12_happens 154 = .ok (.aload_n 0, 1) := by decide +kernel
theorem dX12_happens_155 : decode cX12_happens 155 = .ok (.iload_n 1, 1) := by decide +kernel
theorem dX12_happens_156 : decode cX12_happens 156 = .ok (.iload_n 2, 1) := by decide +kernel
theorem dX12_happens_157 : decode cX12_happens 157 = .ok (.iload_n 3, 1) := by decide +kernel
theorem dX12_happens_158 : decode cX12_happens 158 = .ok (.invokevirtual 230, 3) := by decide +kernel
theorem dX12_happens_161 : decode cX12_happens 161 = .ok (.iload 4, 2) := by decide +kernel
theorem dX12_happens_163 : decode cX12_happens 163 = .ok (.if_icmp .lt 7, 3) := by decide +kernel
theorem dX12_happens_166 : decode cX12_happens 166 = .ok (.iconst 1, 1) := by decide +kernel
theorem dX12_happens_167 : decode cX12_happens 167 = .ok (.goto 4, 3) := by decide +kernel
theorem dX12_happens_170 : decode cX12_happens 170 = .ok (.iconst 0, 1) := by decide +kernel
theorem dX12_happens_171 : decode cX12_happens 171 = .ok (.ireturn, 1) := by decide +kernel
theorem dX12_happens_172 : decode cX12_happens 172 = .ok (.iload 7, 2) := by decide +kernel
theorem dX12_happens_174 : decode cX12_happens 174 = .ok (.ifCond .eq 29, 3) := by decide +kernel
theorem dX12_happens_177 : decode cX12_happens 177 = .ok (.aload_n 0, 1) := by decide +kernel
theorem dX12_happens_178 : decode cX12_happens 178 = .ok (.iload_n 1, 1) := by decide +kernel
theorem dX12_happens_179 : decode cX12_happens 179 = .ok (.iload_n 2, 1) := by decide +kernel
theorem dX12_happens_180 : decode cX12_happens 180 = .ok (.iload_n 3, 1) := by decide +kernel
theorem dX12_happens_181 : decode cX12_happens 181 = .ok (.invokevirtual 230, 3) := by decide +kernel
theorem dX12_happens_184 : decode cX12_happens 184 = .ok (.ifCond .le 19, 3) := by decide +kernel
theorem dX12_happens_187 : decode cX12_happens 187 = .ok (.aload_n 0, 1) := by decide +kernel
theorem dX12_happens_188 : decode cX12_happens 188 = .ok (.iload_n 1, 1) := by decide +kernel
theorem dX12_happens_189 : decode cX12_happens 189 = .ok (.iload_n 2, 1) := by decide +kernel
theorem dX12_happens_190 : decode cX12_happens 190 = .ok (.iload_n 3, 1) := by decide +kernel
theorem dX12_happens_191 : decode cX12_happens 191 = .ok (.invokevirtual 230, 3) := by decide +kernel
theorem dX12_happens_194 : decode cX12_happens 194 = .ok (.iload 4, 2) := by decide +kernel
theorem dX12_happens_196 : decode cX12_happens 196 = .ok (.if_icmp .ge 7, 3) := by decide +kernel
theorem dX12_happens_199 : decode cX12_happens 199 = .ok (.iconst 1, 1) := by decide +kernel
theorem dX12_happens_200 : decode cX12_happens 200 = .ok (.goto 4, 3) := by decide +kernel
theorem dX12_happens_203 : decode cX12_happens 203 = .ok (.iconst 0, 1) := by decide +kernel
theorem dX12_happens_204 : decode cX12_happens 204 = .ok (.ireturn, 1) := by decide +kernel
theorem dX12_happens_205 : decode cX12_happens 205 = .ok (.iload 7, 2) := by decide +kernel
theorem dX12_happens_207 : decode cX12_happens 207 = .ok (.ifCond .eq 19, 3) := by decide +kernel
theorem dX12_happens_210 : decode cX12_happens 210 = .ok (.aload_n 0, 1) := by decide +kernel
theorem dX12_happens_211 : decode cX12_happens 211 = .ok (.iload_n 1, 1) := by decide +kernel
theorem dX12_happens_212 : decode cX12_happens 212 = .ok (.iload_n 2, 1) := by decide +kernel
theorem dX12_happens_213 : decode cX12_happens 213 = .ok (.iload_n 3, 1) := by decide +kernel
theorem dX12_happens_214 : decode cX12_happens 214 = .ok (.iload 4, 2) := by decide +kernel
theorem dX12_happens_216 : decode cX12_happens 216 = .ok (.invokevirtual 234, 3) := by decide +kernel
theorem dX12_happens_219 : decode cX12_happens 219 = .ok (.ifCond .eq 7, 3) := by decide +kernel
theorem dX12_happens_222 : decode cX12_happens 222 = .ok (.iconst 1, 1) := by decide +kernel
theorem dX12_happens_223 : decode cX12_happens 223 = .ok (.goto 4, 3) := by decide +kernel
theorem dX12_happens_226 : decode cX12_happens 226 = .ok (.iconst 0, 1) := by decide +kernel
theorem dX12_happens_227 : decode cX12_happens 227 = .ok (.ireturn, 1) := by decide +kernel
theorem dX12_happens_228 : decode cX12_happens 228 = .ok (.iload 6, 2) := by decide +kernel
theorem dX12_happens_230 : decode cX12_happens 230 = .ok (.i2l, 1) := by decide +kernel
theorem dX12_happens_231 : decode cX12_happens 231 = .ok (.iload_n 3, 1) := by decide +kernel
theorem dX12_happens_232 : decode cX12_happens 232 = .ok (.i2l, 1) := by decide +kernel
theorem dX12_happens_233 : decode cX12_happens 233 = .ok (.iload 4, 2) := by decide +kernel
theorem dX12_happens_235 : decode cX12_happens 235 = .ok (.i2l, 1) := by decide +kernel
theorem dX12_happens_236 : decode cX12_happens 236 = .ok (.invokestatic 115, 3) := by decide +kernel
theorem dX12_happens_239 : decode cX12_happens 239 = .ok (.ifCond .eq 21, 3) := by decide +kernel
theorem dX12_happens_242 : decode cX12_happens 242 = .ok (.iload 5, 2) := by decide +kernel
theorem dX12_happens_244 : decode cX12_happens 244 = .ok (.i2l, 1) := by decide +kernel
theorem dX12_happens_245 : decode cX12_happens 245 = .ok (.iload_n 3, 1) := by decide +kernel
theorem dX12_happens_246 : decode cX12_happens 246 = .ok (.i2l, 1) := by decide +kernel
theorem dX12_happens_247 : decode cX12_happens 247 = .ok (.iload 4, 2) := by decide +kernel
theorem dX12_happens_249 : decode cX12_happens 249 = .ok (.i2l, 1) := by decide +kernel
theorem dX12_happens_250 : decode cX12_happens 250 = .ok (.invokestatic 115, 3) := by decide +kernel
theorem dX12_happens_253 : decode cX12_happens 253 = .ok (.ifCond .ne 7, 3) := by decide +kernel
theorem dX12_happens_256 : decode cX12_happens 256 = .ok (.iconst 1, 1) := by decide +kernel
theorem dX12_happens_257 : decode cX12_happens 257 = .ok (.goto 4, 3) := by decide +kernel
theorem dX12_happens_260 : decode cX12_happens 260 = .ok (.iconst 0, 1) := by decide +kernel
theorem dX12_happens_261 : decode cX12_happens 261 = .ok (.ireturn, 1) := by decide +kernel
theorem dX12_happens_262 : decode cX12_happens 262 = .ok (.iload 5, 2) := by decide +kernel
theorem dX12_happens_264 : decode cX12_happens 264 = .ok (.i2l, 1) := by decide +kernel
theorem dX12_happens_265 : decode cX12_happens 265 = .ok (.iload_n 3, 1) := by decide +kernel
theorem dX12_happens_266 : decode cX12_happens 266 = .ok (.i2l, 1) := by decide +kernel
theorem dX12_happens_267 : decode cX12_happens 267 = .ok (.iload 4, 2) := by decide +kernel
theorem dX12_happens_269 : decode cX12_happens 269 = .ok (.i2l, 1) := by decide +kernel
theorem dX12_happens_270 : decode cX12_happens 270 = .ok (.invokestatic 115, 3) := by decide +kernel
theorem dX12_happens_273 : decode cX12_happens 273 = .ok (.ifCond .eq 21, 3) := by decide +kernel
theorem dX12_happens_276 : decode cX12_happens 276 = .ok (.iload 6, 2) := by decide +kernel
theorem dX12_happens_278 : decode cX12_happens 278 = .ok (.i2l, 1) := by decide +kernel
theorem dX12_happens_279 : decode cX12_happens 279 = .ok (.iload_n 3, 1) := by decide +kernel
theorem dX12_happens_280 : decode cX12_happens 280 = .ok (.i2l, 1) := by decide +kernel
theorem dX12_happens_281 : decode cX12_happens 281 = .ok (.iload 4, 2) := by decide +kernel
theorem dX12_happens_283 : decode cX12_happens 283 = .ok (.i2l, 1) := by decide +kernel
theorem dX12_happens_284 : decode cX12_happens 284 = .ok (.invokestatic 115, 3) := by decide +kernel
theorem dX12_happens_287 : decode cX12_happens 287 = .ok (.ifCond .ne 7, 3) := by decide +kernel
theorem dX12_happens_290 : decode cX12_happens 290 = .ok (.iconst 1, 1) := by decide +kernel
theorem dX12_happens_291 : decode cX12_happens 291 = .ok (.goto 4, 3) := by decide +kernel
theorem dX12_happens_294 : decode cX12_happens 294 = .ok (.iconst 0, 1) := by decide +kernel
theorem dX12_happens_295 : decode cX12_happens 295 = .ok (.ireturn, 1) := by decide +kernel
theorem dX12_happens_296 : decode cX12_happens 296 = .ok (.iload 6, 2) := by decide +kernel
theorem dX12_happens_298 : decode cX12_happens 298 = .ok (.aload_n 0, 1) := by decide +kernel
theorem dX12_happens_299 : decode cX12_happens 299 = .ok (.iload_n 1, 1) := by decide +kernel
theorem dX12_happens_300 : decode cX12_happens 300 = .ok (.iload_n 3, 1) := by decide +kernel
theorem dX12_happens_301 : decode cX12_happens 301 = .ok (.invokevirtual 227, 3) := by decide +kernel
theorem dX12_happens_304 : decode cX12_happens 304 = .ok (.if_icmp .ne 20, 3) := by decide +kernel
theorem dX12_happens_307 : decode cX12_happens 307 = .ok (.iload 5, 2) := by decide +kernel
theorem dX12_happens_309 : decode cX12_happens 309 = .ok (.aload_n 0, 1) := by decide +kernel
theorem dX12_happens_310 : decode cX12_happens 310 = .ok (.iload_n 1, 1) := by decide +kernel
theorem dX12_happens_311 : decode cX12_happens 311 = .ok (.iconst 1, 1) := by decide +kernel
theorem dX12_happens_312 : decode cX12_happens 312 = .ok (.isub, 1) := by decide +kernel
theorem dX12_happens_313 : decode cX12_happens 313 = .ok (.iload_n 3, 1) := by decide +kernel
theorem dX12_happens_314 : decode cX12_happens 314 = .ok (.invokevirtual 227, 3) := by decide +kernel
theorem dX12_happens_317 : decode cX12_happens 317 = .ok (.if_icmp .eq 7, 3) := by decide +kernel
theorem dX12_happens_320 : decode cX12_happens 320 = .ok (.iconst 1, 1) := by decide +kernel
theorem dX12_happens_321 : decode cX12_happens 321 = .ok (.goto 4, 3) := by decide +kernel
theorem dX12_happens_324 : decode cX12_happens 324 = .ok (.iconst 0, 1) := by decide +kernel
theorem dX12_happens_325 : decode cX12_happens 325 = .ok (.ireturn, 1) := by decide +kernel
theorem dX12_follows_0 : decode cX12_follows 0 = .ok (.aload_n 0, 1) := by decide +kernel
theorem dX12_follows_1 : decode cX12_follows 1 = .ok (.getfield 32, 3) := by decide +kernel
theorem dX12_follows_4 : decode cX12_follows 4 = .ok (.aload_n 0, 1) := by decide +kernel
theorem dX12_follows_5 : decode cX12_follows 5 = .ok (.getfield 209, 3) := by decide +kernel
theorem dX12_follows_8 : decode cX12_follows 8 = .ok (.iaload, 1) := by decide +kernel
theorem dX12_follows_9 : decode cX12_follows 9 = .ok (.ifCond .le 47, 3) := by decide +kernel
theorem dX12_follows_12 : decode cX12_follows 12 = .ok (.iload_n 1, 1) := by decide +kernel
theorem dX12_follows_13 : decode cX12_follows 13 = .ok (.aload_n 0, 1) := by decide +kernel
theorem dX12_follows_14 : decode cX12_follows 14 = .ok (.getfield 215, 3) := by decide +kernel
theorem dX12_follows_17 : decode cX12_follows 17 = .ok (.aload_n 0, 1) := by decide +kernel
theorem dX12_follows_18 : decode cX12_follows 18 = .ok (.getfield 32, 3) := by decide +kernel
theorem dX12_follows_21 : decode cX12_follows 21 = .ok (.aload_n 0, 1) := by decide +kernel
theorem dX12_follows_22 : decode cX12_follows 22 = .ok (.getfield 209, 3) := by decide +kernel
theorem dX12_follows_25 : decode cX12_follows 25 = .ok (.iaload, 1) := by decide +kernel
theorem dX12_follows_26 : decode cX12_follows 26 = .ok (.iadd, 1) := by decide +kernel
theorem dX12_follows_27 : decode cX12_follows 27 = .ok (.if_icmp .ne 29, 3) := by decide +kernel
theorem dX12_follows_30 : decode cX12_follows 30 = .ok (.aload_n 0, 1) := by decide +kernel
theorem dX12_follows_31 : decode cX12_follows 31 = .ok (.iconst 0, 1) := by decide +kernel
theorem dX12_follows_32 : decode cX12_follows 32 = .ok (.putfield 209, 3) := by decide +kernel
theorem dX12_follows_35 : decode cX12_follows 35 = .ok (.aload_n 0, 1) := by decide +kernel
theorem dX12_follows_36 : decode cX12_follows 36 = .ok (.iconst 0, 1) := by decide +kernel
theorem dX12_follows_37 : decode cX12_follows 37 = .ok (.putfield 212, 3) := by decide +kernel
theorem dX12_follows_40 : decode cX12_follows 40 = .ok (.aload_n 0, 1) := by decide +kernel
theorem dX12_follows_41 : decode cX12_follows 41 = .ok (.iload_n 1, 1) := by decide +kernel
theorem dX12_follows_42 : decode cX12_follows 42 = .ok (.putfield 215, 3) := by decide +kernel
theorem dX12_follows_45 : decode cX12_follows 45 = .ok (.aload_n 0, 1) := by decide +kernel
theorem dX12_follows_46 : decode cX12_follows 46 = .ok (.dup, 1) := by decide +kernel
theorem dX12_follows_47 : decode cX12_follows 47 = .ok (.getfield 218, 3) := by decide +kernel
theorem dX12_follows_50 : decode cX12_follows 50 = .ok (.iconst 1, 1) := by decide +kernel
theorem dX12_follows_51 : decode cX12_follows 51 = .ok (.iadd, 1) := by decide +kernel
theorem dX12_follows_52 : decode cX12_follows 52 = .ok (.putfield 218, 3) := by decide +kernel
theorem dX12_follows_55 : decode cX12_follows 55 = .ok (.return_, 1) := by decide +kernel
theorem dX12_follows_56 : decode cX12_follows 56 = .ok (.iload_n 1, 1) := by decide +kernel
theorem dX12_follows_57 : decode cX12_follows 57 = .ok (.aload_n 0, 1) := by decide +kernel
theorem dX12_follows_58 : decode cX12_follows 58 = .ok (.getfield 215, 3) := by decide +kernel
theorem dX12_follows_61 : decode cX12_follows 61 = .ok (.if_icmp .le 78, 3) := by decide +kernel
theorem dX12_follows_64 : decode cX12_follows 64 = .ok (.aload_n 0, 1) := by decide +kernel
theorem dX12_follows_65 : decode cX12_follows 65 = .ok (.iload_n 1, 1) := by decide +kernel
theorem dX12_follows_66 : decode cX12_follows 66 = .ok (.invokevirtual 238, 3) := by decide +kernel
theorem dX12_follows_69 : decode cX12_follows 69 = .ok (.ifCond .eq 70, 3) := by decide +kernel
theorem dX12_follows_72 : decode cX12_follows 72 = .ok (.aload_n 0, 1) := by decide +kernel
theorem dX12_follows_73 : decode cX12_follows 73 = .ok (.dup, 1) := by decide +kernel
theorem dX12_follows_74 : decode cX12_follows 74 = .ok (.getfield 212, 3) := by decide +kernel
theorem dX12_follows_77 : decode cX12_follows 77 = .ok (.iconst 1, 1) := by decide +kernel
theorem dX12_follows_78 : decode cX12_follows 78 = .ok (.iadd, 1) := by decide +kernel
theorem dX12_follows_79 : decode cX12_follows 79 = .ok (.putfield 212, 3) := by decide +kernel
theorem dX12_follows_82 : decode cX12_follows 82 = .ok (.aload_n 0, 1) := by decide +kernel
theorem dX12_follows_83 : decode cX12_follows 83 = .ok (.getfield 212, 3) := by decide +kernel
theorem dX12_follows_86 : decode cX12_follows 86 = .ok (.aload_n 0, 1) := by decide +kernel
theorem dX12_follows_87 : decode cX12_follows 87 = .ok (.getfield 17, 3) := by decide +kernel
theorem dX12_follows_90 : decode cX12_follows 90 = .ok (.aload_n 0, 1) := by decide +kernel
theorem dX12_follows_91 : decode cX12_follows 91 = .ok (.getfield 209, 3) := by decide +kernel
theorem dX12_follows_94 : decode cX12_follows 94 = .ok (.iaload, 1) := by decide +kernel
theorem dX12_follows_95 : decode cX12_follows 95 = .ok (.if_icmp .ne 44, 3) := by decide +kernel
theorem dX12_follows_98 : decode cX12_follows 98 = .ok (.aload_n 0, 1) := by decide +kernel
theorem dX12_follows_99 : decode cX12_follows 99 = .ok (.dup, 1) := by decide +kernel
theorem dX12_follows_100 : decode cX12_follows 100 = .ok (.getfield 209, 3) := by decide +kernel
theorem dX12_follows_103 : decode cX12_follows 103 = .ok (.iconst 1, 1) := by decide +kernel
theorem dX12_follows_104 : decode cX12_follows 104 = .ok (.iadd, 1) := by decide +kernel
theorem dX12_follows_105 : decode cX12_follows 105 = .ok (.putfield 209, 3) := by decide +kernel
theorem dX12_follows_108 : decode cX12_follows 108 = .ok (.aload_n 0, 1) := by decide +kernel
theorem dX12_follows_109 : decode cX12_follows 109 = .ok (.iconst 0, 1) := by decide +kernel
theorem dX12_follows_110 : decode cX12_follows 110 = .ok (.putfield 212, 3) := by decide +kernel
theorem dX12_follows_113 : decode cX12_follows 113 = .ok (.aload_n 0, 1) := by decide +kernel
theorem dX12_follows_114 : decode cX12_follows 114 = .ok (.iload_n 1, 1) := by decide +kernel
theorem dX12_follows_115 : decode cX12_follows 115 = .ok (.putfield 215, 3) := by decide +kernel
theorem dX12_follows_118 : decode cX12_follows 118 = .ok (.aload_n 0, 1) := by decide +kernel
theorem dX12_follows_119 : decode cX12_follows 119 = .ok (.getfield 209, 3) := by decide +kernel
theorem dX12_follows_122 : decode cX12_follows 122 = .ok (.aload_n 0, 1) := by decide +kernel
theorem dX12_follows_123 : decode cX12_follows 123 = .ok (.getfield 195, 3) := by decide +kernel
theorem dX12_follows_126 : decode cX12_follows 126 = .ok (.if_icmp .ne 13, 3) := by decide +kernel
theorem dX12_follows_129 : decode cX12_follows 129 = .ok (.aload_n 0, 1) := by decide +kernel
theorem dX12_follows_130 : decode cX12_follows 130 = .ok (.iconst 2, 1) := by decide +kernel
theorem dX12_follows_131 : decode cX12_follows 131 = .ok (.putfield 198, 3) := by decide +kernel
theorem dX12_follows_134 : decode cX12_follows 134 = .ok (.aload_n 0, 1) := by decide +kernel
theorem dX12_follows_135 : decode cX12_follows 135 = .ok (.iload_n 1, 1) := by decide +kernel
theorem dX12_follows_136 : decode cX12_follows 136 = .ok (.putfield 242, 3) := by decide +kernel
theorem dX12_follows_139 : decode cX12_follows 139 = .ok (.return_, 1) := by decide +kernel
theorem dX12_kept_0 : decode cX12_kept 0 = .ok (.aload_n 0, 1) := by decide +kernel
theorem dX12_kept_1 : decode cX12_kept 1 = .ok (.getfield 221, 3) := by decide +kernel
theorem dX12_kept_4 : decode cX12_kept 4 = .ok (.istore_n 1, 1) := by decide +kernel
theorem dX12_kept_5 : decode cX12_kept 5 = .ok (.aload_n 0, 1) := by decide +kernel
theorem dX12_kept_6 : decode cX12_kept 6 = .ok (.getfield 242, 3) := by decide +kernel
theorem dX12_kept_9 : decode cX12_kept 9 = .ok (.aload_n 0, 1) := by decide +kernel
theorem dX12_kept_10 : decode cX12_kept 10 = .ok (.getfield 53, 3) := by decide +kernel
theorem dX12_kept_13 : decode cX12_kept 13 = .ok (.isub, 1) := by decide +kernel
theorem dX12_kept_14 : decode cX12_kept 14 = .ok (.istore_n 2, 1) := by decide +kernel
theorem dX12_kept_15 : decode cX12_kept 15 = .ok (.iload_n 2, 1) := by decide +kernel
theorem dX12_kept_16 : decode cX12_kept 16 = .ok (.aload_n 0, 1) := by decide +kernel
theorem dX12_kept_17 : decode cX12_kept 17 = .ok (.getfield 206, 3) := by decide +kernel
theorem dX12_kept_20 : decode cX12_kept 20 = .ok (.if_icmp .ge 10, 3) := by decide +kernel
theorem dX12_kept_23 : decode cX12_kept 23 = .ok (.aload_n 0, 1) := by decide +kernel
theorem dX12_kept_24 : decode cX12_kept 24 = .ok (.getfield 206, 3) := by decide +kernel
theorem dX12_kept_27 : decode cX12_kept 27 = .ok (.goto 4, 3) := by decide +kernel
theorem dX12_kept_30 : decode cX12_kept 30 = .ok (.iload_n 2, 1) := by decide +kernel
theorem dX12_kept_31 : decode cX12_kept 31 = .ok (.istore_n 2, 1) := by decide +kernel
theorem dX12_kept_32 : decode cX12_kept 32 = .ok (.iload_n 2, 1) := by decide +kernel
theorem dX12_kept_33 : decode cX12_kept 33 = .ok (.aload_n 0, 1) := by decide +kernel
theorem dX12_kept_34 : decode cX12_kept 34 = .ok (.getfield 203, 3) := by decide +kernel
theorem dX12_kept_37 : decode cX12_kept 37 = .ok (.sipush 256, 3) := by decide +kernel
theorem dX12_kept_40 : decode cX12_kept 40 = .ok (.isub, 1) := by decide +kernel
theorem dX12_kept_41 : decode cX12_kept 41 = .ok (.if_icmp .ge 14, 3) := by decide +kernel
theorem dX12_kept_44 : decode cX12_kept 44 = .ok (.aload_n 0, 1) := by decide +kernel
theorem dX12_kept_45 : decode cX12_kept 45 = .ok (.getfield 203, 3) := by decide +kernel
theorem dX12_kept_48 : decode cX12_kept 48 = .ok (.sipush 256, 3) := by decide +kernel
theorem dX12_kept_51 : decode cX12_kept 51 = .ok (.isub, 1) := by decide +kernel
theorem dX12_kept_52 : decode cX12_kept 52 = .ok (.goto 4, 3) := by decide +kernel
theorem dX12_kept_55 : decode cX12_kept 55 = .ok (.iload_n 2, 1) := by decide +kernel
theorem dX12_kept_56 : decode cX12_kept 56 = .ok (.istore_n 2, 1) := by decide +kernel
theorem dX12_kept_57 : decode cX12_kept 57 = .ok (.aload_n 0, 1) := by decide +kernel
theorem dX12_kept_58 : decode cX12_kept 58 = .ok (.getfield 60, 3) := by decide +kernel
theorem dX12_kept_61 : decode cX12_kept 61 = .ok (.iload_n 1, 1) := by decide +kernel
theorem dX12_kept_62 : decode cX12_kept 62 = .ok (.iload_n 2, 1) := by decide +kernel
theorem dX12_kept_63 : decode cX12_kept 63 = .ok (.iastore, 1) := by decide +kernel
theorem dX12_kept_64 : decode cX12_kept 64 = .ok (.aload_n 0, 1) := by decide +kernel
theorem dX12_kept_65 : decode cX12_kept 65 = .ok (.getfield 63, 3) := by decide +kernel
theorem dX12_kept_68 : decode cX12_kept 68 = .ok (.iload_n 1, 1) := by decide +kernel
theorem dX12_kept_69 : decode cX12_kept 69 = .ok (.aload_n 0, 1) := by decide +kernel
theorem dX12_kept_70 : decode cX12_kept 70 = .ok (.getfield 203, 3) := by decide +kernel
theorem dX12_kept_73 : decode cX12_kept 73 = .ok (.iload_n 2, 1) := by decide +kernel
theorem dX12_kept_74 : decode cX12_kept 74 = .ok (.isub, 1) := by decide +kernel
theorem dX12_kept_75 : decode cX12_kept 75 = .ok (.iastore, 1) := by decide +kernel
theorem dX12_kept_76 : decode cX12_kept 76 = .ok (.aload_n 0, 1) := by decide +kernel
theorem dX12_kept_77 : decode cX12_kept 77 = .ok (.getfield 66, 3) := by decide +kernel
theorem dX12_kept_80 : decode cX12_kept 80 = .ok (.iload_n 1, 1) := by decide +kernel
theorem dX12_kept_81 : decode cX12_kept 81 = .ok (.aload_n 0, 1) := by decide +kernel
theorem dX12_kept_82 : decode cX12_kept 82 = .ok (.getfield 242, 3) := by decide +kernel
theorem dX12_kept_85 : decode cX12_kept 85 = .ok (.iastore, 1) := by decide +kernel
theorem dX12_kept_86 : decode cX12_kept 86 = .ok (.iconst 0, 1) := by decide +kernel
theorem dX12_kept_87 : decode cX12_kept 87 = .ok (.istore_n 3, 1) := by decide +kernel
theorem dX12_kept_88 : decode cX12_kept 88 = .ok (.iload_n 3, 1) := by decide +kernel
theorem dX12_kept_89 : decode cX12_kept 89 = .ok (.aload_n 0, 1) := by decide +kernel
theorem dX12_kept_90 : decode cX12_kept 90 = .ok (.getfield 63, 3) := by decide +kernel
theorem dX12_kept_93 : decode cX12_kept 93 = .ok (.iload_n 1, 1) := by decide +kernel
theorem dX12_kept_94 : decode cX12_kept 94 = .ok (.iaload, 1) := by decide +kernel
theorem dX12_kept_95 : decode cX12_kept 95 = .ok (.if_icmp .ge 29, 3) := by decide +kernel
theorem dX12_kept_98 : decode cX12_kept 98 = .ok (.aload_n 0, 1) := by decide +kernel
theorem dX12_kept_99 : decode cX12_kept 99 = .ok (.getfield 69, 3) := by decide +kernel
theorem dX12_kept_102 : decode cX12_kept 102 = .ok (.sipush 201, 3) := by decide +kernel
theorem dX12_kept_105 : decode cX12_kept 105 = .ok (.iload_n 1, 1) := by decide +kernel
theorem dX12_kept_106 : decode cX12_kept 106 = .ok (.imul, 1) := by decide +kernel
theorem dX12_kept_107 : decode cX12_kept 107 = .ok (.iload_n 3, 1) := by decide +kernel
theorem dX12_kept_108 : decode cX12_kept 108 = .ok (.iadd, 1) := by decide +kernel
theorem dX12_kept_109 : decode cX12_kept 109 = .ok (.aload_n 0, 1) := by decide +kernel
theorem dX12_kept_110 : decode cX12_kept 110 = .ok (.getfield 14, 3) := by decide +kernel
theorem dX12_kept_113 : decode cX12_kept 113 = .ok (.iload_n 2, 1) := by decide +kernel
theorem dX12_kept_114 : decode cX12_kept 114 = .ok (.iload_n 3, 1) := by decide +kernel
theorem dX12_kept_115 : decode cX12_kept 115 = .ok (.iadd, 1) := by decide +kernel
theorem dX12_kept_116 : decode cX12_kept 116 = .ok (.iaload, 1) := by decide +kernel
theorem dX12_kept_117 : decode cX12_kept 117 = .ok (.iastore, 1) := by decide +kernel
theorem dX12_kept_118 : decode cX12_kept 118 = .ok (.iinc 3 1, 3) := by decide +kernel
theorem dX12_kept_121 : decode cX12_kept 121 = .ok (.goto (-33), 3) := by decide +kernel
theorem dX12_kept_124 : decode cX12_kept 124 = .ok (.aload_n 0, 1) := by decide +kernel
theorem dX12_kept_125 : decode cX12_kept 125 = .ok (.dup, 1) := by decide +kernel
theorem dX12_kept_126 : decode cX12_kept 126 = .ok (.getfield 221, 3) := by decide +kernel
theorem dX12_kept_129 : decode cX12_kept 129 = .ok (.iconst 1, 1) := by decide +kernel
theorem dX12_kept_130 : decode cX12_kept 130 = .ok (.iadd, 1) := by decide +kernel
theorem dX12_kept_131 : decode cX12_kept 131 = .ok (.putfield 221, 3) := by decide +kernel
theorem dX12_kept_134 : decode cX12_kept 134 = .ok (.aload_n 0, 1) := by decide +kernel
theorem dX12_kept_135 : decode cX12_kept 135 = .ok (.getfield 221, 3) := by decide +kernel
theorem dX12_kept_138 : decode cX12_kept 138 = .ok (.bipush 8, 2) := by decide +kernel
theorem dX12_kept_140 : decode cX12_kept 140 = .ok (.if_icmp .ne 11, 3) := by decide +kernel
theorem dX12_kept_143 : decode cX12_kept 143 = .ok (.aload_n 0, 1) := by decide +kernel
theorem dX12_kept_144 : decode cX12_kept 144 = .ok (.iconst 3, 1) := by decide +kernel
theorem dX12_kept_145 : decode cX12_kept 145 = .ok (.putfield 198, 3) := by decide +kernel
theorem dX12_kept_148 : decode cX12_kept 148 = .ok (.goto 7, 3) := by decide +kernel
theorem dX12_kept_151 : decode cX12_kept 151 = .ok (.aload_n 0, 1) := by decide +kernel
theorem dX12_kept_152 : decode cX12_kept 152 = .ok (.invokevirtual 224, 3) := by decide +kernel
theorem dX12_kept_155 : decode cX12_kept 155 = .ok (.return_, 1) := by decide +kernel
theorem dX12_takes_0 : decode cX12_takes 0 = .ok (.aload_n 0, 1) := by decide +kernel
theorem dX12_takes_1 : decode cX12_takes 1 = .ok (.getfield 203, 3) := by decide +kernel
theorem dX12_takes_4 : decode cX12_takes 4 = .ok (.istore_n 2, 1) := by decide +kernel
theorem dX12_takes_5 : decode cX12_takes 5 = .ok (.aload_n 0, 1) := by decide +kernel
theorem dX12_takes_6 : decode cX12_takes 6 = .ok (.getfield 14, 3) := by decide +kernel
theorem dX12_takes_9 : decode cX12_takes 9 = .ok (.iload_n 2, 1) := by decide +kernel
theorem dX12_takes_10 : decode cX12_takes 10 = .ok (.iload_n 1, 1) := by decide +kernel
theorem dX12_takes_11 : decode cX12_takes 11 = .ok (.iastore, 1) := by decide +kernel
theorem dX12_takes_12 : decode cX12_takes 12 = .ok (.aload_n 0, 1) := by decide +kernel
theorem dX12_takes_13 : decode cX12_takes 13 = .ok (.dup, 1) := by decide +kernel
theorem dX12_takes_14 : decode cX12_takes 14 = .ok (.getfield 203, 3) := by decide +kernel
theorem dX12_takes_17 : decode cX12_takes 17 = .ok (.iconst 1, 1) := by decide +kernel
theorem dX12_takes_18 : decode cX12_takes 18 = .ok (.iadd, 1) := by decide +kernel
theorem dX12_takes_19 : decode cX12_takes 19 = .ok (.putfield 203, 3) := by decide +kernel
theorem dX12_takes_22 : decode cX12_takes 22 = .ok (.aload_n 0, 1) := by decide +kernel
theorem dX12_takes_23 : decode cX12_takes 23 = .ok (.getfield 198, 3) := by decide +kernel
theorem dX12_takes_26 : decode cX12_takes 26 = .ok (.iconst 1, 1) := by decide +kernel
theorem dX12_takes_27 : decode cX12_takes 27 = .ok (.if_icmp .ne 8, 3) := by decide +kernel
theorem dX12_takes_30 : decode cX12_takes 30 = .ok (.aload_n 0, 1) := by decide +kernel
theorem dX12_takes_31 : decode cX12_takes 31 = .ok (.iload_n 2, 1) := by decide +kernel
theorem dX12_takes_32 : decode cX12_takes 32 = .ok (.invokevirtual 245, 3) := by decide +kernel
theorem dX12_takes_35 : decode cX12_takes 35 = .ok (.aload_n 0, 1) := by decide +kernel
theorem dX12_takes_36 : decode cX12_takes 36 = .ok (.getfield 198, 3) := by decide +kernel
theorem dX12_takes_39 : decode cX12_takes 39 = .ok (.iconst 2, 1) := by decide +kernel
theorem dX12_takes_40 : decode cX12_takes 40 = .ok (.if_icmp .ne 20, 3) := by decide +kernel
theorem dX12_takes_43 : decode cX12_takes 43 = .ok (.iload_n 2, 1) := by decide +kernel
theorem dX12_takes_44 : decode cX12_takes 44 = .ok (.aload_n 0, 1) := by decide +kernel
theorem dX12_takes_45 : decode cX12_takes 45 = .ok (.getfield 242, 3) := by decide +kernel
theorem dX12_takes_48 : decode cX12_takes 48 = .ok (.aload_n 0, 1) := by decide +kernel
theorem dX12_takes_49 : decode cX12_takes 49 = .ok (.getfield 57, 3) := by decide +kernel
theorem dX12_takes_52 : decode cX12_takes 52 = .ok (.iadd, 1) := by decide +kernel
theorem dX12_takes_53 : decode cX12_takes 53 = .ok (.if_icmp .ne 7, 3) := by decide +kernel
theorem dX12_takes_56 : decode cX12_takes 56 = .ok (.aload_n 0, 1) := by decide +kernel
theorem dX12_takes_57 : decode cX12_takes 57 = .ok (.invokevirtual 248, 3) := by decide +kernel
theorem dX12_takes_60 : decode cX12_takes 60 = .ok (.return_, 1) := by decide +kernel
theorem dX12_come_0 : decode cX12_come 0 = .ok (.aload_n 0, 1) := by decide +kernel
theorem dX12_come_1 : decode cX12_come 1 = .ok (.lload_n 1, 1) := by decide +kernel
theorem dX12_come_2 : decode cX12_come 2 = .ok (.bipush 32, 2) := by decide +kernel
theorem dX12_come_4 : decode cX12_come 4 = .ok (.lshr, 1) := by decide +kernel
theorem dX12_come_5 : decode cX12_come 5 = .ok (.l2i, 1) := by decide +kernel
theorem dX12_come_6 : decode cX12_come 6 = .ok (.invokevirtual 251, 3) := by decide +kernel
theorem dX12_come_9 : decode cX12_come 9 = .ok (.aload_n 0, 1) := by decide +kernel
theorem dX12_come_10 : decode cX12_come 10 = .ok (.lload_n 1, 1) := by decide +kernel
theorem dX12_come_11 : decode cX12_come 11 = .ok (.l2i, 1) := by decide +kernel
theorem dX12_come_12 : decode cX12_come 12 = .ok (.invokevirtual 251, 3) := by decide +kernel
theorem dX12_come_15 : decode cX12_come 15 = .ok (.aload_n 0, 1) := by decide +kernel
theorem dX12_come_16 : decode cX12_come 16 = .ok (.getfield 221, 3) := by decide +kernel
theorem dX12_come_19 : decode cX12_come 19 = .ok (.ireturn, 1) := by decide +kernel
theorem dX12_play_0 : decode cX12_play 0 = .ok (.aload_n 0, 1) := by decide +kernel
theorem dX12_play_1 : decode cX12_play 1 = .ok (.iload_n 1, 1) := by decide +kernel
theorem dX12_play_2 : decode cX12_play 2 = .ok (.invokevirtual 254, 3) := by decide +kernel
theorem dX12_play_5 : decode cX12_play 5 = .ok (.ifCond .eq 47, 3) := by decide +kernel
theorem dX12_play_8 : decode cX12_play 8 = .ok (.iload_n 2, 1) := by decide +kernel
theorem dX12_play_9 : decode cX12_play 9 = .ok (.i2l, 1) := by decide +kernel
theorem dX12_play_10 : decode cX12_play 10 = .ok (.lconst 0, 1) := by decide +kernel
theorem dX12_play_11 : decode cX12_play 11 = .ok (.ldc2_w 257, 3) := by decide +kernel
theorem dX12_play_14 : decode cX12_play 14 = .ok (.invokestatic 115, 3) := by decide +kernel
theorem dX12_play_17 : decode cX12_play 17 = .ok (.ifCond .eq 35, 3) := by decide +kernel
theorem dX12_play_20 : decode cX12_play 20 = .ok (.iload 4, 2) := by decide +kernel
theorem dX12_play_22 : decode cX12_play 22 = .ok (.i2l, 1) := by decide +kernel
theorem dX12_play_23 : decode cX12_play 23 = .ok (.lconst 0, 1) := by decide +kernel
theorem dX12_play_24 : decode cX12_play 24 = .ok (.ldc2_w 259, 3) := by decide +kernel
theorem dX12_play_27 : decode cX12_play 27 = .ok (.invokestatic 115, 3) := by decide +kernel
theorem dX12_play_30 : decode cX12_play 30 = .ok (.ifCond .eq 22, 3) := by decide +kernel
theorem dX12_play_33 : decode cX12_play 33 = .ok (.iload_n 3, 1) := by decide +kernel
theorem dX12_play_34 : decode cX12_play 34 = .ok (.i2l, 1) := by decide +kernel
theorem dX12_play_35 : decode cX12_play 35 = .ok (.lconst 0, 1) := by decide +kernel
theorem dX12_play_36 : decode cX12_play 36 = .ok (.aload_n 0, 1) := by decide +kernel
theorem dX12_play_37 : decode cX12_play 37 = .ok (.getfield 84, 3) := by decide +kernel
theorem dX12_play_40 : decode cX12_play 40 = .ok (.iload_n 1, 1) := by decide +kernel
theorem dX12_play_41 : decode cX12_play 41 = .ok (.iaload, 1) := by decide +kernel
theorem dX12_play_42 : decode cX12_play 42 = .ok (.iload 4, 2) := by decide +kernel
theorem dX12_play_44 : decode cX12_play 44 = .ok (.isub, 1) := by decide +kernel
theorem dX12_play_45 : decode cX12_play 45 = .ok (.i2l, 1) := by decide +kernel
theorem dX12_play_46 : decode cX12_play 46 = .ok (.invokestatic 115, 3) := by decide +kernel
theorem dX12_play_49 : decode cX12_play 49 = .ok (.ifCond .ne 5, 3) := by decide +kernel
theorem dX12_play_52 : decode cX12_play 52 = .ok (.iconst (-1), 1) := by decide +kernel
theorem dX12_play_53 : decode cX12_play 53 = .ok (.ireturn, 1) := by decide +kernel
theorem dX12_play_54 : decode cX12_play 54 = .ok (.iload_n 3, 1) := by decide +kernel
theorem dX12_play_55 : decode cX12_play 55 = .ok (.istore 5, 2) := by decide +kernel
theorem dX12_play_57 : decode cX12_play 57 = .ok (.iload 5, 2) := by decide +kernel
theorem dX12_play_59 : decode cX12_play 59 = .ok (.iload_n 3, 1) := by decide +kernel
theorem dX12_play_60 : decode cX12_play 60 = .ok (.iload 4, 2) := by decide +kernel
theorem dX12_play_62 : decode cX12_play 62 = .ok (.iadd, 1) := by decide +kernel
theorem dX12_play_63 : decode cX12_play 63 = .ok (.if_icmp .ge 63, 3) := by decide +kernel
theorem dX12_play_66 : decode cX12_play 66 = .ok (.aload_n 0, 1) := by decide +kernel
theorem dX12_play_67 : decode cX12_play 67 = .ok (.getfield 91, 3) := by decide +kernel
theorem dX12_play_70 : decode cX12_play 70 = .ok (.sipush 201, 3) := by decide +kernel
theorem dX12_play_73 : decode cX12_play 73 = .ok (.iload_n 1, 1) := by decide +kernel
theorem dX12_play_74 : decode cX12_play 74 = .ok (.imul, 1) := by decide +kernel
theorem dX12_play_75 : decode cX12_play 75 = .ok (.iload 5, 2) := by decide +kernel
theorem dX12_play_77 : decode cX12_play 77 = .ok (.iadd, 1) := by decide +kernel
theorem dX12_play_78 : decode cX12_play 78 = .ok (.baload, 1) := by decide +kernel
theorem dX12_play_79 : decode cX12_play 79 = .ok (.ifCond .eq 7, 3) := by decide +kernel
theorem dX12_play_82 : decode cX12_play 82 = .ok (.iconst 0, 1) := by decide +kernel
theorem dX12_play_83 : decode cX12_play 83 = .ok (.goto 21, 3) := by decide +kernel
theorem dX12_play_86 : decode cX12_play 86 = .ok (.aload_n 0, 1) := by decide +kernel
theorem dX12_play_87 : decode cX12_play 87 = .ok (.getfield 87, 3) := by decide +kernel
theorem dX12_play_90 : decode cX12_play 90 = .ok (.sipush 201, 3) := by decide +kernel
theorem dX12_play_93 : decode cX12_play 93 = .ok (.iload_n 1, 1) := by decide +kernel
theorem dX12_play_94 : decode cX12_play 94 = .ok (.imul, 1) := by decide +kernel
theorem dX12_play_95 : decode cX12_play 95 = .ok (.iload 5, 2) := by decide +kernel
theorem dX12_play_97 : decode cX12_play 97 = .ok (.iadd, 1) := by decide +kernel
theorem dX12_play_98 : decode cX12_play 98 = .ok (.laload, 1) := by decide +kernel
theorem dX12_play_99 : decode cX12_play 99 = .ok (.ldc2_w 113, 3) := by decide +kernel
theorem dX12_play_102 : decode cX12_play 102 = .ok (.land, 1) := by decide +kernel
theorem dX12_play_103 : decode cX12_play 103 = .ok (.l2i, 1) := by decide +kernel
theorem dX12_play_104 : decode cX12_play 104 = .ok (.istore 6, 2) := by decide +kernel
theorem dX12_play_106 : decode cX12_play 106 = .ok (.aload_n 0, 1) := by decide +kernel
theorem dX12_play_107 : decode cX12_play 107 = .ok (.iload 6, 2) := by decide +kernel
theorem dX12_play_109 : decode cX12_play 109 = .ok (.bipush 24, 2) := by decide +kernel
theorem dX12_play_111 : decode cX12_play 111 = .ok (.bipush 8, 2) := by decide +kernel
theorem dX12_play_113 : decode cX12_play 113 = .ok (.iload_n 2, 1) := by decide +kernel
theorem dX12_play_114 : decode cX12_play 114 = .ok (.imul, 1) := by decide +kernel
theorem dX12_play_115 : decode cX12_play 115 = .ok (.isub, 1) := by decide +kernel
theorem dX12_play_116 : decode cX12_play 116 = .ok (.ishl, 1) := by decide +kernel
theorem dX12_play_117 : decode cX12_play 117 = .ok (.invokevirtual 251, 3) := by decide +kernel
theorem dX12_play_120 : decode cX12_play 120 = .ok (.iinc 5 1, 3) := by decide +kernel
theorem dX12_play_123 : decode cX12_play 123 = .ok (.goto (-66), 3) := by decide +kernel
theorem dX12_play_126 : decode cX12_play 126 = .ok (.aload_n 0, 1) := by decide +kernel
theorem dX12_play_127 : decode cX12_play 127 = .ok (.getfield 221, 3) := by decide +kernel
theorem dX12_play_130 : decode cX12_play 130 = .ok (.ireturn, 1) := by decide +kernel
theorem dX12_sample_0 : decode cX12_sample 0 = .ok (.iload_n 2, 1) := by decide +kernel
theorem dX12_sample_1 : decode cX12_sample 1 = .ok (.i2l, 1) := by decide +kernel
theorem dX12_sample_2 : decode cX12_sample 2 = .ok (.lconst 0, 1) := by decide +kernel
theorem dX12_sample_3 : decode cX12_sample 3 = .ok (.ldc2_w 257, 3) := by decide +kernel
theorem dX12_sample_6 : decode cX12_sample 6 = .ok (.invokestatic 115, 3) := by decide +kernel
theorem dX12_sample_9 : decode cX12_sample 9 = .ok (.ifCond .eq 36, 3) := by decide +kernel
theorem dX12_sample_12 : decode cX12_sample 12 = .ok (.iload_n 1, 1) := by decide +kernel
theorem dX12_sample_13 : decode cX12_sample 13 = .ok (.ifCond .lt 32, 3) := by decide +kernel
theorem dX12_sample_16 : decode cX12_sample 16 = .ok (.iload_n 1, 1) := by decide +kernel
theorem dX12_sample_17 : decode cX12_sample 17 = .ok (.aload_n 0, 1) := by decide +kernel
theorem dX12_sample_18 : decode cX12_sample 18 = .ok (.getfield 203, 3) := by decide +kernel
theorem dX12_sample_21 : decode cX12_sample 21 = .ok (.sipush 256, 3) := by decide +kernel
theorem dX12_sample_24 : decode cX12_sample 24 = .ok (.isub, 1) := by decide +kernel
theorem dX12_sample_25 : decode cX12_sample 25 = .ok (.if_icmp .lt 20, 3) := by decide +kernel
theorem dX12_sample_28 : decode cX12_sample 28 = .ok (.iload_n 1, 1) := by decide +kernel
theorem dX12_sample_29 : decode cX12_sample 29 = .ok (.aload_n 0, 1) := by decide +kernel
theorem dX12_sample_30 : decode cX12_sample 30 = .ok (.getfield 203, 3) := by decide +kernel
theorem dX12_sample_33 : decode cX12_sample 33 = .ok (.if_icmp .ge 12, 3) := by decide +kernel
theorem dX12_sample_36 : decode cX12_sample 36 = .ok (.aload_n 0, 1) := by decide +kernel
theorem dX12_sample_37 : decode cX12_sample 37 = .ok (.iload_n 1, 1) := by decide +kernel
theorem dX12_sample_38 : decode cX12_sample 38 = .ok (.iload_n 2, 1) := by decide +kernel
theorem dX12_sample_39 : decode cX12_sample 39 = .ok (.invokevirtual 227, 3) := by decide +kernel
theorem dX12_sample_42 : decode cX12_sample 42 = .ok (.goto 6, 3) := by decide +kernel
theorem dX12_sample_45 : decode cX12_sample 45 = .ok (.sipush 1000, 3) := by decide +kernel
theorem dX12_sample_48 : decode cX12_sample 48 = .ok (.ireturn, 1) := by decide +kernel
theorem dX12_told_0 : decode cX12_told 0 = .ok (.iload_n 1, 1) := by decide +kernel
theorem dX12_told_1 : decode cX12_told 1 = .ok (.tableswitch 144 0 9 #[55, 60, 78, 96, 114, 119, 124, 129, 134, 139], 55) := by decide +kernel
theorem dX12_told_56 : decode cX12_told 56 = .ok (.aload_n 0, 1) := by decide +kernel
theorem dX12_told_57 : decode cX12_told 57 = .ok (.getfield 198, 3) := by decide +kernel
theorem dX12_told_60 : decode cX12_told 60 = .ok (.ireturn, 1) := by decide +kernel
theorem dX12_told_61 : decode cX12_told 61 = .ok (.aload_n 0, 1) := by decide +kernel
theorem dX12_told_62 : decode cX12_told 62 = .ok (.getfield 198, 3) := by decide +kernel
theorem dX12_told_65 : decode cX12_told 65 = .ok (.iconst 1, 1) := by decide +kernel
theorem dX12_told_66 : decode cX12_told 66 = .ok (.if_icmp .ne 10, 3) := by decide +kernel
theorem dX12_told_69 : decode cX12_told 69 = .ok (.aload_n 0, 1) := by decide +kernel
theorem dX12_told_70 : decode cX12_told 70 = .ok (.getfield 209, 3) := by decide +kernel
theorem dX12_told_73 : decode cX12_told 73 = .ok (.goto 5, 3) := by decide +kernel
theorem dX12_told_76 : decode cX12_told 76 = .ok (.bipush (-4), 2) := by decide +kernel
theorem dX12_told_78 : decode cX12_told 78 = .ok (.ireturn, 1) := by decide +kernel
theorem dX12_told_79 : decode cX12_told 79 = .ok (.aload_n 0, 1) := by decide +kernel
theorem dX12_told_80 : decode cX12_told 80 = .ok (.getfield 198, 3) := by decide +kernel
theorem dX12_told_83 : decode cX12_told 83 = .ok (.iconst 1, 1) := by decide +kernel
theorem dX12_told_84 : decode cX12_told 84 = .ok (.if_icmp .ne 10, 3) := by decide +kernel
theorem dX12_told_87 : decode cX12_told 87 = .ok (.aload_n 0, 1) := by decide +kernel
theorem dX12_told_88 : decode cX12_told 88 = .ok (.getfield 212, 3) := by decide +kernel
theorem dX12_told_91 : decode cX12_told 91 = .ok (.goto 5, 3) := by decide +kernel
theorem dX12_told_94 : decode cX12_told 94 = .ok (.bipush (-4), 2) := by decide +kernel
theorem dX12_told_96 : decode cX12_told 96 = .ok (.ireturn, 1) := by decide +kernel
theorem dX12_told_97 : decode cX12_told 97 = .ok (.aload_n 0, 1) := by decide +kernel
theorem dX12_told_98 : decode cX12_told 98 = .ok (.getfield 198, 3) := by decide +kernel
theorem dX12_told_101 : decode cX12_told 101 = .ok (.iconst 1, 1) := by decide +kernel
theorem dX12_told_102 : decode cX12_told 102 = .ok (.if_icmp .ne 10, 3) := by decide +kernel
theorem dX12_told_105 : decode cX12_told 105 = .ok (.aload_n 0, 1) := by decide +kernel
theorem dX12_told_106 : decode cX12_told 106 = .ok (.getfield 215, 3) := by decide +kernel
theorem dX12_told_109 : decode cX12_told 109 = .ok (.goto 5, 3) := by decide +kernel
theorem dX12_told_112 : decode cX12_told 112 = .ok (.bipush (-4), 2) := by decide +kernel
theorem dX12_told_114 : decode cX12_told 114 = .ok (.ireturn, 1) := by decide +kernel
theorem dX12_told_115 : decode cX12_told 115 = .ok (.aload_n 0, 1) := by decide +kernel
theorem dX12_told_116 : decode cX12_told 116 = .ok (.getfield 203, 3) := by decide +kernel
theorem dX12_told_119 : decode cX12_told 119 = .ok (.ireturn, 1) := by decide +kernel
theorem dX12_told_120 : decode cX12_told 120 = .ok (.aload_n 0, 1) := by decide +kernel
theorem dX12_told_121 : decode cX12_told 121 = .ok (.getfield 221, 3) := by decide +kernel
theorem dX12_told_124 : decode cX12_told 124 = .ok (.ireturn, 1) := by decide +kernel
theorem dX12_told_125 : decode cX12_told 125 = .ok (.aload_n 0, 1) := by decide +kernel
theorem dX12_told_126 : decode cX12_told 126 = .ok (.getfield 53, 3) := by decide +kernel
theorem dX12_told_129 : decode cX12_told 129 = .ok (.ireturn, 1) := by decide +kernel
theorem dX12_told_130 : decode cX12_told 130 = .ok (.aload_n 0, 1) := by decide +kernel
theorem dX12_told_131 : decode cX12_told 131 = .ok (.getfield 57, 3) := by decide +kernel
theorem dX12_told_134 : decode cX12_told 134 = .ok (.ireturn, 1) := by decide +kernel
theorem dX12_told_135 : decode cX12_told 135 = .ok (.aload_n 0, 1) := by decide +kernel
theorem dX12_told_136 : decode cX12_told 136 = .ok (.getfield 195, 3) := by decide +kernel
theorem dX12_told_139 : decode cX12_told 139 = .ok (.ireturn, 1) := by decide +kernel
theorem dX12_told_140 : decode cX12_told 140 = .ok (.aload_n 0, 1) := by decide +kernel
theorem dX12_told_141 : decode cX12_told 141 = .ok (.getfield 218, 3) := by decide +kernel
theorem dX12_told_144 : decode cX12_told 144 = .ok (.ireturn, 1) := by decide +kernel
theorem dX12_told_145 : decode cX12_told 145 = .ok (.iconst (-1), 1) := by decide +kernel
theorem dX12_told_146 : decode cX12_told 146 = .ok (.ireturn, 1) := by decide +kernel
theorem dX12_isSegment_0 : decode cX12_isSegment 0 = .ok (.iload_n 1, 1) := by decide +kernel
theorem dX12_isSegment_1 : decode cX12_isSegment 1 = .ok (.i2l, 1) := by decide +kernel
theorem dX12_isSegment_2 : decode cX12_isSegment 2 = .ok (.lconst 0, 1) := by decide +kernel
theorem dX12_isSegment_3 : decode cX12_isSegment 3 = .ok (.aload_n 0, 1) := by decide +kernel
theorem dX12_isSegment_4 : decode cX12_isSegment 4 = .ok (.getfield 221, 3) := by decide +kernel
theorem dX12_isSegment_7 : decode cX12_isSegment 7 = .ok (.iconst 1, 1) := by decide +kernel
theorem dX12_isSegment_8 : decode cX12_isSegment 8 = .ok (.isub, 1) := by decide +kernel
theorem dX12_isSegment_9 : decode cX12_isSegment 9 = .ok (.i2l, 1) := by decide +kernel
theorem dX12_isSegment_10 : decode cX12_isSegment 10 = .ok (.invokestatic 115, 3) := by decide +kernel
theorem dX12_isSegment_13 : decode cX12_isSegment 13 = .ok (.ireturn, 1) := by decide +kernel
theorem dX12_segment_0 : decode cX12_segment 0 = .ok (.aload_n 0, 1) := by decide +kernel
theorem dX12_segment_1 : decode cX12_segment 1 = .ok (.iload_n 1, 1) := by decide +kernel
theorem dX12_segment_2 : decode cX12_segment 2 = .ok (.invokevirtual 261, 3) := by decide +kernel
theorem dX12_segment_5 : decode cX12_segment 5 = .ok (.ifCond .eq 15, 3) := by decide +kernel
theorem dX12_segment_8 : decode cX12_segment 8 = .ok (.iload_n 2, 1) := by decide +kernel
theorem dX12_segment_9 : decode cX12_segment 9 = .ok (.i2l, 1) := by decide +kernel
theorem dX12_segment_10 : decode cX12_segment 10 = .ok (.lconst 0, 1) := by decide +kernel
theorem dX12_segment_11 : decode cX12_segment 11 = .ok (.ldc2_w 264, 3) := by decide +kernel
theorem dX12_segment_14 : decode cX12_segment 14 = .ok (.invokestatic 115, 3) := by decide +kernel
theorem dX12_segment_17 : decode cX12_segment 17 = .ok (.ifCond .ne 5, 3) := by decide +kernel
theorem dX12_segment_20 : decode cX12_segment 20 = .ok (.iconst (-1), 1) := by decide +kernel
theorem dX12_segment_21 : decode cX12_segment 21 = .ok (.ireturn, 1) := by decide +kernel
theorem dX12_segment_22 : decode cX12_segment 22 = .ok (.iload_n 2, 1) := by decide +kernel
theorem dX12_segment_23 : decode cX12_segment 23 = .ok (.ifCond .ne 12, 3) := by decide +kernel
theorem dX12_segment_26 : decode cX12_segment 26 = .ok (.aload_n 0, 1) := by decide +kernel
theorem dX12_segment_27 : decode cX12_segment 27 = .ok (.getfield 60, 3) := by decide +kernel
theorem dX12_segment_30 : decode cX12_segment 30 = .ok (.iload_n 1, 1) := by decide +kernel
theorem dX12_segment_31 : decode cX12_segment 31 = .ok (.iaload, 1) := by decide +kernel
theorem dX12_segment_32 : decode cX12_segment 32 = .ok (.goto 23, 3) := by decide +kernel
theorem dX12_segment_35 : decode cX12_segment 35 = .ok (.iload_n 2, 1) := by decide +kernel
theorem dX12_segment_36 : decode cX12_segment 36 = .ok (.iconst 1, 1) := by decide +kernel
theorem dX12_segment_37 : decode cX12_segment 37 = .ok (.if_icmp .ne 12, 3) := by decide +kernel
theorem dX12_segment_40 : decode cX12_segment 40 = .ok (.aload_n 0, 1) := by decide +kernel
theorem dX12_segment_41 : decode cX12_segment 41 = .ok (.getfield 63, 3) := by decide +kernel
theorem dX12_segment_44 : decode cX12_segment 44 = .ok (.iload_n 1, 1) := by decide +kernel
theorem dX12_segment_45 : decode cX12_segment 45 = .ok (.iaload, 1) := by decide +kernel
theorem dX12_segment_46 : decode cX12_segment 46 = .ok (.goto 9, 3) := by decide +kernel
theorem dX12_segment_49 : decode cX12_segment 49 = .ok (.aload_n 0, 1) := by decide +kernel
theorem dX12_segment_50 : decode cX12_segment 50 = .ok (.getfield 66, 3) := by decide +kernel
theorem dX12_segment_53 : decode cX12_segment 53 = .ok (.iload_n 1, 1) := by decide +kernel
theorem dX12_segment_54 : decode cX12_segment 54 = .ok (.iaload, 1) := by decide +kernel
theorem dX12_segment_55 : decode cX12_segment 55 = .ok (.ireturn, 1) := by decide +kernel
theorem dX12_valueAt_0 : decode cX12_valueAt 0 = .ok (.aload_n 0, 1) := by decide +kernel
theorem dX12_valueAt_1 : decode cX12_valueAt 1 = .ok (.getfield 69, 3) := by decide +kernel
theorem dX12_valueAt_4 : decode cX12_valueAt 4 = .ok (.sipush 201, 3) := by decide +kernel
theorem dX12_valueAt_7 : decode cX12_valueAt 7 = .ok (.iload_n 1, 1) := by decide +kernel
theorem dX12_valueAt_8 : decode cX12_valueAt 8 = .ok (.imul, 1) := by decide +kernel
theorem dX12_valueAt_9 : decode cX12_valueAt 9 = .ok (.iload_n 3, 1) := by decide +kernel
theorem dX12_valueAt_10 : decode cX12_valueAt 10 = .ok (.iadd, 1) := by decide +kernel
theorem dX12_valueAt_11 : decode cX12_valueAt 11 = .ok (.iaload, 1) := by decide +kernel
theorem dX12_valueAt_12 : decode cX12_valueAt 12 = .ok (.bipush 24, 2) := by decide +kernel
theorem dX12_valueAt_14 : decode cX12_valueAt 14 = .ok (.bipush 8, 2) := by decide +kernel
theorem dX12_valueAt_16 : decode cX12_valueAt 16 = .ok (.iload_n 2, 1) := by decide +kernel
theorem dX12_valueAt_17 : decode cX12_valueAt 17 = .ok (.imul, 1) := by decide +kernel
theorem dX12_valueAt_18 : decode cX12_valueAt 18 = .ok (.isub, 1) := by decide +kernel
theorem dX12_valueAt_19 : decode cX12_valueAt 19 = .ok (.ishr, 1) := by decide +kernel
theorem dX12_valueAt_20 : decode cX12_valueAt 20 = .ok (.i2b, 1) := by decide +kernel
theorem dX12_valueAt_21 : decode cX12_valueAt 21 = .ok (.ireturn, 1) := by decide +kernel
theorem dX12_at_0 : decode cX12_at 0 = .ok (.aload_n 0, 1) := by decide +kernel
theorem dX12_at_1 : decode cX12_at 1 = .ok (.iload_n 1, 1) := by decide +kernel
theorem dX12_at_2 : decode cX12_at 2 = .ok (.invokevirtual 261, 3) := by decide +kernel
theorem dX12_at_5 : decode cX12_at 5 = .ok (.ifCond .eq 43, 3) := by decide +kernel
theorem dX12_at_8 : decode cX12_at 8 = .ok (.iload_n 2, 1) := by decide +kernel
theorem dX12_at_9 : decode cX12_at 9 = .ok (.i2l, 1) := by decide +kernel
theorem dX12_at_10 : decode cX12_at 10 = .ok (.lconst 0, 1) := by decide +kernel
theorem dX12_at_11 : decode cX12_at 11 = .ok (.ldc2_w 257, 3) := by decide +kernel
theorem dX12_at_14 : decode cX12_at 14 = .ok (.invokestatic 115, 3) := by decide +kernel
theorem dX12_at_17 : decode cX12_at 17 = .ok (.ifCond .eq 31, 3) := by decide +kernel
theorem dX12_at_20 : decode cX12_at 20 = .ok (.iload_n 3, 1) := by decide +kernel
theorem dX12_at_21 : decode cX12_at 21 = .ok (.i2l, 1) := by decide +kernel
theorem dX12_at_22 : decode cX12_at 22 = .ok (.lconst 0, 1) := by decide +kernel
theorem dX12_at_23 : decode cX12_at 23 = .ok (.aload_n 0, 1) := by decide +kernel
theorem dX12_at_24 : decode cX12_at 24 = .ok (.getfield 63, 3) := by decide +kernel
theorem dX12_at_27 : decode cX12_at 27 = .ok (.iload_n 1, 1) := by decide +kernel
theorem dX12_at_28 : decode cX12_at 28 = .ok (.iaload, 1) := by decide +kernel
theorem dX12_at_29 : decode cX12_at 29 = .ok (.iconst 1, 1) := by decide +kernel
theorem dX12_at_30 : decode cX12_at 30 = .ok (.isub, 1) := by decide +kernel
theorem dX12_at_31 : decode cX12_at 31 = .ok (.i2l, 1) := by decide +kernel
theorem dX12_at_32 : decode cX12_at 32 = .ok (.invokestatic 115, 3) := by decide +kernel
theorem dX12_at_35 : decode cX12_at 35 = .ok (.ifCond .eq 13, 3) := by decide +kernel
theorem dX12_at_38 : decode cX12_at 38 = .ok (.aload_n 0, 1) := by decide +kernel
theorem dX12_at_39 : decode cX12_at 39 = .ok (.iload_n 1, 1) := by decide +kernel
theorem dX12_at_40 : decode cX12_at 40 = .ok (.iload_n 2, 1) := by decide +kernel
theorem dX12_at_41 : decode cX12_at 41 = .ok (.iload_n 3, 1) := by decide +kernel
theorem dX12_at_42 : decode cX12_at 42 = .ok (.invokevirtual 266, 3) := by decide +kernel
theorem dX12_at_45 : decode cX12_at 45 = .ok (.goto 6, 3) := by decide +kernel
theorem dX12_at_48 : decode cX12_at 48 = .ok (.sipush 1000, 3) := by decide +kernel
theorem dX12_at_51 : decode cX12_at 51 = .ok (.ireturn, 1) := by decide +kernel
theorem dX12_drop_0 : decode cX12_drop 0 = .ok (.aload_n 0, 1) := by decide +kernel
theorem dX12_drop_1 : decode cX12_drop 1 = .ok (.getfield 221, 3) := by decide +kernel
theorem dX12_drop_4 : decode cX12_drop 4 = .ok (.ifCond .ne 6, 3) := by decide +kernel
theorem dX12_drop_7 : decode cX12_drop 7 = .ok (.bipush (-4), 2) := by decide +kernel
theorem dX12_drop_9 : decode cX12_drop 9 = .ok (.ireturn, 1) := by decide +kernel
theorem dX12_drop_10 : decode cX12_drop 10 = .ok (.aload_n 0, 1) := by decide +kernel
theorem dX12_drop_11 : decode cX12_drop 11 = .ok (.dup, 1) := by decide +kernel
theorem dX12_drop_12 : decode cX12_drop 12 = .ok (.getfield 221, 3) := by decide +kernel
theorem dX12_drop_15 : decode cX12_drop 15 = .ok (.iconst 1, 1) := by decide +kernel
theorem dX12_drop_16 : decode cX12_drop 16 = .ok (.isub, 1) := by decide +kernel
theorem dX12_drop_17 : decode cX12_drop 17 = .ok (.putfield 221, 3) := by decide +kernel
theorem dX12_drop_20 : decode cX12_drop 20 = .ok (.aload_n 0, 1) := by decide +kernel
theorem dX12_drop_21 : decode cX12_drop 21 = .ok (.getfield 221, 3) := by decide +kernel
theorem dX12_drop_24 : decode cX12_drop 24 = .ok (.ireturn, 1) := by decide +kernel
theorem dX12_sheet_0 : decode cX12_sheet 0 = .ok (.iload_n 1, 1) := by decide +kernel
theorem dX12_sheet_1 : decode cX12_sheet 1 = .ok (.i2l, 1) := by decide +kernel
theorem dX12_sheet_2 : decode cX12_sheet 2 = .ok (.lconst 0, 1) := by decide +kernel
theorem dX12_sheet_3 : decode cX12_sheet 3 = .ok (.ldc2_w 257, 3) := by decide +kernel
theorem dX12_sheet_6 : decode cX12_sheet 6 = .ok (.invokestatic 115, 3) := by decide +kernel
theorem dX12_sheet_9 : decode cX12_sheet 9 = .ok (.ifCond .eq 21, 3) := by decide +kernel
theorem dX12_sheet_12 : decode cX12_sheet 12 = .ok (.iload_n 2, 1) := by decide +kernel
theorem dX12_sheet_13 : decode cX12_sheet 13 = .ok (.i2l, 1) := by decide +kernel
theorem dX12_sheet_14 : decode cX12_sheet 14 = .ok (.lconst 0, 1) := by decide +kernel
theorem dX12_sheet_15 : decode cX12_sheet 15 = .ok (.ldc2_w 264, 3) := by decide +kernel
theorem dX12_sheet_18 : decode cX12_sheet 18 = .ok (.invokestatic 115, 3) := by decide +kernel
theorem dX12_sheet_21 : decode cX12_sheet 21 = .ok (.ifCond .eq 9, 3) := by decide +kernel
theorem dX12_sheet_24 : decode cX12_sheet 24 = .ok (.iload_n 3, 1) := by decide +kernel
theorem dX12_sheet_25 : decode cX12_sheet 25 = .ok (.bipush 64, 2) := by decide +kernel
theorem dX12_sheet_27 : decode cX12_sheet 27 = .ok (.if_icmp .le 5, 3) := by decide +kernel
theorem dX12_sheet_30 : decode cX12_sheet 30 = .ok (.iconst (-1), 1) := by decide +kernel
theorem dX12_sheet_31 : decode cX12_sheet 31 = .ok (.ireturn, 1) := by decide +kernel
theorem dX12_sheet_32 : decode cX12_sheet 32 = .ok (.iload_n 3, 1) := by decide +kernel
theorem dX12_sheet_33 : decode cX12_sheet 33 = .ok (.ifCond .ge 6, 3) := by decide +kernel
theorem dX12_sheet_36 : decode cX12_sheet 36 = .ok (.bipush (-14), 2) := by decide +kernel
theorem dX12_sheet_38 : decode cX12_sheet 38 = .ok (.ireturn, 1) := by decide +kernel
theorem dX12_sheet_39 : decode cX12_sheet 39 = .ok (.aload_n 0, 1) := by decide +kernel
theorem dX12_sheet_40 : decode cX12_sheet 40 = .ok (.getfield 72, 3) := by decide +kernel
theorem dX12_sheet_43 : decode cX12_sheet 43 = .ok (.iload_n 1, 1) := by decide +kernel
theorem dX12_sheet_44 : decode cX12_sheet 44 = .ok (.iload_n 2, 1) := by decide +kernel
theorem dX12_sheet_45 : decode cX12_sheet 45 = .ok (.iastore, 1) := by decide +kernel
theorem dX12_sheet_46 : decode cX12_sheet 46 = .ok (.aload_n 0, 1) := by decide +kernel
theorem dX12_sheet_47 : decode cX12_sheet 47 = .ok (.getfield 75, 3) := by decide +kernel
theorem dX12_sheet_50 : decode cX12_sheet 50 = .ok (.iload_n 1, 1) := by decide +kernel
theorem dX12_sheet_51 : decode cX12_sheet 51 = .ok (.iload_n 3, 1) := by decide +kernel
theorem dX12_sheet_52 : decode cX12_sheet 52 = .ok (.iastore, 1) := by decide +kernel
theorem dX12_sheet_53 : decode cX12_sheet 53 = .ok (.iconst 0, 1) := by decide +kernel
theorem dX12_sheet_54 : decode cX12_sheet 54 = .ok (.istore 4, 2) := by decide +kernel
theorem dX12_sheet_56 : decode cX12_sheet 56 = .ok (.iload 4, 2) := by decide +kernel
theorem dX12_sheet_58 : decode cX12_sheet 58 = .ok (.bipush 64, 2) := by decide +kernel
theorem dX12_sheet_60 : decode cX12_sheet 60 = .ok (.if_icmp .ge 22, 3) := by decide +kernel
theorem dX12_sheet_63 : decode cX12_sheet 63 = .ok (.aload_n 0, 1) := by decide +kernel
theorem dX12_sheet_64 : decode cX12_sheet 64 = .ok (.getfield 78, 3) := by decide +kernel
theorem dX12_sheet_67 : decode cX12_sheet 67 = .ok (.bipush 64, 2) := by decide +kernel
theorem dX12_sheet_69 : decode cX12_sheet 69 = .ok (.iload_n 1, 1) := by decide +kernel
theorem dX12_sheet_70 : decode cX12_sheet 70 = .ok (.imul, 1) := by decide +kernel
theorem dX12_sheet_71 : decode cX12_sheet 71 = .ok (.iload 4, 2) := by decide +kernel
theorem dX12_sheet_73 : decode cX12_sheet 73 = .ok (.iadd, 1) := by decide +kernel
theorem dX12_sheet_74 : decode cX12_sheet 74 = .ok (.iconst 0, 1) := by decide +kernel
theorem dX12_sheet_75 : decode cX12_sheet 75 = .ok (.iastore, 1) := by decide +kernel
theorem dX12_sheet_76 : decode cX12_sheet 76 = .ok (.iinc 4 1, 3) := by decide +kernel
theorem dX12_sheet_79 : decode cX12_sheet 79 = .ok (.goto (-23), 3) := by decide +kernel
theorem dX12_sheet_82 : decode cX12_sheet 82 = .ok (.iconst 1, 1) := by decide +kernel
theorem dX12_sheet_83 : decode cX12_sheet 83 = .ok (.ireturn, 1) := by decide +kernel
theorem dX12_lay_0 : decode cX12_lay 0 = .ok (.iload_n 1, 1) := by decide +kernel
theorem dX12_lay_1 : decode cX12_lay 1 = .ok (.i2l, 1) := by decide +kernel
theorem dX12_lay_2 : decode cX12_lay 2 = .ok (.lconst 0, 1) := by decide +kernel
theorem dX12_lay_3 : decode cX12_lay 3 = .ok (.ldc2_w 257, 3) := by decide +kernel
theorem dX12_lay_6 : decode cX12_lay 6 = .ok (.invokestatic 115, 3) := by decide +kernel
theorem dX12_lay_9 : decode cX12_lay 9 = .ok (.ifCond .ne 5, 3) := by decide +kernel
theorem dX12_lay_12 : decode cX12_lay 12 = .ok (.iconst (-1), 1) := by decide +kernel
theorem dX12_lay_13 : decode cX12_lay 13 = .ok (.ireturn, 1) := by decide +kernel
theorem dX12_lay_14 : decode cX12_lay 14 = .ok (.aload_n 0, 1) := by decide +kernel
theorem dX12_lay_15 : decode cX12_lay 15 = .ok (.getfield 72, 3) := by decide +kernel
theorem dX12_lay_18 : decode cX12_lay 18 = .ok (.iload_n 1, 1) := by decide +kernel
theorem dX12_lay_19 : decode cX12_lay 19 = .ok (.iaload, 1) := by decide +kernel
theorem dX12_lay_20 : decode cX12_lay 20 = .ok (.bipush (-4), 2) := by decide +kernel
theorem dX12_lay_22 : decode cX12_lay 22 = .ok (.if_icmp .ne 6, 3) := by decide +kernel
theorem dX12_lay_25 : decode cX12_lay 25 = .ok (.bipush (-11), 2) := by decide +kernel
theorem dX12_lay_27 : decode cX12_lay 27 = .ok (.ireturn, 1) := by decide +kernel
theorem dX12_lay_28 : decode cX12_lay 28 = .ok (.iload_n 2, 1) := by decide +kernel
theorem dX12_lay_29 : decode cX12_lay 29 = .ok (.i2l, 1) := by decide +kernel
theorem dX12_lay_30 : decode cX12_lay 30 = .ok (.lconst 0, 1) := by decide +kernel
theorem dX12_lay_31 : decode cX12_lay 31 = .ok (.aload_n 0, 1) := by decide +kernel
theorem dX12_lay_32 : decode cX12_lay 32 = .ok (.getfield 75, 3) := by decide +kernel
theorem dX12_lay_35 : decode cX12_lay 35 = .ok (.iload_n 1, 1) := by decide +kernel
theorem dX12_lay_36 : decode cX12_lay 36 = .ok (.iaload, 1) := by decide +kernel
theorem dX12_lay_37 : decode cX12_lay 37 = .ok (.iconst 1, 1) := by decide +kernel
theorem dX12_lay_38 : decode cX12_lay 38 = .ok (.isub, 1) := by decide +kernel
theorem dX12_lay_39 : decode cX12_lay 39 = .ok (.i2l, 1) := by decide +kernel
theorem dX12_lay_40 : decode cX12_lay 40 = .ok (.invokestatic 115, 3) := by decide +kernel
theorem dX12_lay_43 : decode cX12_lay 43 = .ok (.ifCond .ne 6, 3) := by decide +kernel
theorem dX12_lay_46 : decode cX12_lay 46 = .ok (.bipush (-12), 2) := by decide +kernel
theorem dX12_lay_48 : decode cX12_lay 48 = .ok (.ireturn, 1) := by decide +kernel
theorem dX12_lay_49 : decode cX12_lay 49 = .ok (.aload_n 0, 1) := by decide +kernel
theorem dX12_lay_50 : decode cX12_lay 50 = .ok (.getfield 78, 3) := by decide +kernel
theorem dX12_lay_53 : decode cX12_lay 53 = .ok (.bipush 64, 2) := by decide +kernel
theorem dX12_lay_55 : decode cX12_lay 55 = .ok (.iload_n 1, 1) := by decide +kernel
theorem dX12_lay_56 : decode cX12_lay 56 = .ok (.imul, 1) := by decide +kernel
theorem dX12_lay_57 : decode cX12_lay 57 = .ok (.iload_n 2, 1) := by decide +kernel
theorem dX12_lay_58 : decode cX12_lay 58 = .ok (.iadd, 1) := by decide +kernel
theorem dX12_lay_59 : decode cX12_lay 59 = .ok (.aload_n 0, 1) := by decide +kernel
theorem dX12_lay_60 : decode cX12_lay 60 = .ok (.getfield 72, 3) := by decide +kernel
theorem dX12_lay_63 : decode cX12_lay 63 = .ok (.iload_n 1, 1) := by decide +kernel
theorem dX12_lay_64 : decode cX12_lay 64 = .ok (.iaload, 1) := by decide +kernel
theorem dX12_lay_65 : decode cX12_lay 65 = .ok (.ifCond .ne 8, 3) := by decide +kernel
theorem dX12_lay_68 : decode cX12_lay 68 = .ok (.iload_n 3, 1) := by decide +kernel
theorem dX12_lay_69 : decode cX12_lay 69 = .ok (.i2b, 1) := by decide +kernel
theorem dX12_lay_70 : decode cX12_lay 70 = .ok (.goto 19, 3) := by decide +kernel
theorem dX12_lay_73 : decode cX12_lay 73 = .ok (.aload_n 0, 1) := by decide +kernel
theorem dX12_lay_74 : decode cX12_lay 74 = .ok (.getfield 72, 3) := by decide +kernel
theorem dX12_lay_77 : decode cX12_lay 77 = .ok (.iload_n 1, 1) := by decide +kernel
theorem dX12_lay_78 : decode cX12_lay 78 = .ok (.iaload, 1) := by decide +kernel
theorem dX12_lay_79 : decode cX12_lay 79 = .ok (.iconst 1, 1) := by decide +kernel
theorem dX12_lay_80 : decode cX12_lay 80 = .ok (.if_icmp .ne 8, 3) := by decide +kernel
theorem dX12_lay_83 : decode cX12_lay 83 = .ok (.iload_n 3, 1) := by decide +kernel
theorem dX12_lay_84 : decode cX12_lay 84 = .ok (.i2s, 1) := by decide +kernel
theorem dX12_lay_85 : decode cX12_lay 85 = .ok (.goto 4, 3) := by decide +kernel
theorem dX12_lay_88 : decode cX12_lay 88 = .ok (.iload_n 3, 1) := by decide +kernel
theorem dX12_lay_89 : decode cX12_lay 89 = .ok (.iastore, 1) := by decide +kernel
theorem dX12_lay_90 : decode cX12_lay 90 = .ok (.iconst 1, 1) := by decide +kernel
theorem dX12_lay_91 : decode cX12_lay 91 = .ok (.ireturn, 1) := by decide +kernel
theorem dX12_mask_0 : decode cX12_mask 0 = .ok (.aload_n 0, 1) := by decide +kernel
theorem dX12_mask_1 : decode cX12_mask 1 = .ok (.iload_n 1, 1) := by decide +kernel
theorem dX12_mask_2 : decode cX12_mask 2 = .ok (.invokevirtual 261, 3) := by decide +kernel
theorem dX12_mask_5 : decode cX12_mask 5 = .ok (.ifCond .eq 45, 3) := by decide +kernel
theorem dX12_mask_8 : decode cX12_mask 8 = .ok (.iload_n 2, 1) := by decide +kernel
theorem dX12_mask_9 : decode cX12_mask 9 = .ok (.i2l, 1) := by decide +kernel
theorem dX12_mask_10 : decode cX12_mask 10 = .ok (.lconst 0, 1) := by decide +kernel
theorem dX12_mask_11 : decode cX12_mask 11 = .ok (.ldc2_w 257, 3) := by decide +kernel
theorem dX12_mask_14 : decode cX12_mask 14 = .ok (.invokestatic 115, 3) := by decide +kernel
theorem dX12_mask_17 : decode cX12_mask 17 = .ok (.ifCond .eq 33, 3) := by decide +kernel
theorem dX12_mask_20 : decode cX12_mask 20 = .ok (.iload_n 3, 1) := by decide +kernel
theorem dX12_mask_21 : decode cX12_mask 21 = .ok (.i2l, 1) := by decide +kernel
theorem dX12_mask_22 : decode cX12_mask 22 = .ok (.lconst 0, 1) := by decide +kernel
theorem dX12_mask_23 : decode cX12_mask 23 = .ok (.ldc2_w 257, 3) := by decide +kernel
theorem dX12_mask_26 : decode cX12_mask 26 = .ok (.invokestatic 115, 3) := by decide +kernel
theorem dX12_mask_29 : decode cX12_mask 29 = .ok (.ifCond .eq 21, 3) := by decide +kernel
theorem dX12_mask_32 : decode cX12_mask 32 = .ok (.iload 4, 2) := by decide +kernel
theorem dX12_mask_34 : decode cX12_mask 34 = .ok (.i2l, 1) := by decide +kernel
theorem dX12_mask_35 : decode cX12_mask 35 = .ok (.lconst 0, 1) := by decide +kernel
theorem dX12_mask_36 : decode cX12_mask 36 = .ok (.ldc2_w 264, 3) := by decide +kernel
theorem dX12_mask_39 : decode cX12_mask 39 = .ok (.invokestatic 115, 3) := by decide +kernel
theorem dX12_mask_42 : decode cX12_mask 42 = .ok (.ifCond .eq 8, 3) := by decide +kernel
theorem dX12_mask_45 : decode cX12_mask 45 = .ok (.iload 6, 2) := by decide +kernel
theorem dX12_mask_47 : decode cX12_mask 47 = .ok (.ifCond .ge 5, 3) := by decide +kernel
theorem dX12_mask_50 : decode cX12_mask 50 = .ok (.iconst (-1), 1) := by decide +kernel
theorem dX12_mask_51 : decode cX12_mask 51 = .ok (.ireturn, 1) := by decide +kernel
theorem dX12_mask_52 : decode cX12_mask 52 = .ok (.aload_n 0, 1) := by decide +kernel
theorem dX12_mask_53 : decode cX12_mask 53 = .ok (.getfield 72, 3) := by decide +kernel
theorem dX12_mask_56 : decode cX12_mask 56 = .ok (.iload_n 3, 1) := by decide +kernel
theorem dX12_mask_57 : decode cX12_mask 57 = .ok (.iaload, 1) := by decide +kernel
theorem dX12_mask_58 : decode cX12_mask 58 = .ok (.iload 4, 2) := by decide +kernel
theorem dX12_mask_60 : decode cX12_mask 60 = .ok (.if_icmp .eq 22, 3) := by decide +kernel
theorem dX12_mask_63 : decode cX12_mask 63 = .ok (.aload_n 0, 1) := by decide +kernel
theorem dX12_mask_64 : decode cX12_mask 64 = .ok (.getfield 72, 3) := by decide +kernel
theorem dX12_mask_67 : decode cX12_mask 67 = .ok (.iload_n 3, 1) := by decide +kernel
theorem dX12_mask_68 : decode cX12_mask 68 = .ok (.iaload, 1) := by decide +kernel
theorem dX12_mask_69 : decode cX12_mask 69 = .ok (.bipush (-4), 2) := by decide +kernel
theorem dX12_mask_71 : decode cX12_mask 71 = .ok (.if_icmp .ne 8, 3) := by decide +kernel
theorem dX12_mask_74 : decode cX12_mask 74 = .ok (.bipush (-11), 2) := by decide +kernel
theorem dX12_mask_76 : decode cX12_mask 76 = .ok (.goto 5, 3) := by decide +kernel
theorem dX12_mask_79 : decode cX12_mask 79 = .ok (.bipush (-13), 2) := by decide +kernel
theorem dX12_mask_81 : decode cX12_mask 81 = .ok (.ireturn, 1) := by decide +kernel
theorem dX12_mask_82 : decode cX12_mask 82 = .ok (.ldc2_w 264, 3) := by decide +kernel
theorem dX12_mask_85 : decode cX12_mask 85 = .ok (.iload 6, 2) := by decide +kernel
theorem dX12_mask_87 : decode cX12_mask 87 = .ok (.i2l, 1) := by decide +kernel
theorem dX12_mask_88 : decode cX12_mask 88 = .ok (.lmul, 1) := by decide +kernel
theorem dX12_mask_89 : decode cX12_mask 89 = .ok (.aload_n 0, 1) := by decide +kernel
theorem dX12_mask_90 : decode cX12_mask 90 = .ok (.getfield 75, 3) := by decide +kernel
theorem dX12_mask_93 : decode cX12_mask 93 = .ok (.iload_n 3, 1) := by decide +kernel
theorem dX12_mask_94 : decode cX12_mask 94 = .ok (.iaload, 1) := by decide +kernel
theorem dX12_mask_95 : decode cX12_mask 95 = .ok (.i2l, 1) := by decide +kernel
theorem dX12_mask_96 : decode cX12_mask 96 = .ok (.lcmp, 1) := by decide +kernel
theorem dX12_mask_97 : decode cX12_mask 97 = .ok (.ifCond .le 6, 3) := by decide +kernel
theorem dX12_mask_100 : decode cX12_mask 100 = .ok (.bipush (-12), 2) := by decide +kernel
theorem dX12_mask_102 : decode cX12_mask 102 = .ok (.ireturn, 1) := by decide +kernel
theorem dX12_mask_103 : decode cX12_mask 103 = .ok (.iconst 0, 1) := by decide +kernel
theorem dX12_mask_104 : decode cX12_mask 104 = .ok (.istore 7, 2) := by decide +kernel
theorem dX12_mask_106 : decode cX12_mask 106 = .ok (.bipush (-4), 2) := by decide +kernel
theorem dX12_mask_108 : decode cX12_mask 108 = .ok (.istore 8, 2) := by decide +kernel
theorem dX12_mask_110 : decode cX12_mask 110 = .ok (.iconst 0, 1) := by decide +kernel
theorem dX12_mask_111 : decode cX12_mask 111 = .ok (.istore 9, 2) := by decide +kernel
theorem dX12_mask_113 : decode cX12_mask 113 = .ok (.iload 9, 2) := by decide +kernel
theorem dX12_mask_115 : decode cX12_mask 115 = .ok (.iload 6, 2) := by decide +kernel
theorem dX12_mask_117 : decode cX12_mask 117 = .ok (.if_icmp .ge 105, 3) := by decide +kernel
theorem dX12_mask_120 : decode cX12_mask 120 = .ok (.iload 5, 2) := by decide +kernel
theorem dX12_mask_122 : decode cX12_mask 122 = .ok (.i2l, 1) := by decide +kernel
theorem dX12_mask_123 : decode cX12_mask 123 = .ok (.iload 9, 2) := by decide +kernel
theorem dX12_mask_125 : decode cX12_mask 125 = .ok (.i2l, 1) := by decide +kernel
theorem dX12_mask_126 : decode cX12_mask 126 = .ok (.ladd, 1) := by decide +kernel
theorem dX12_mask_127 : decode cX12_mask 127 = .ok (.lstore 10, 2) := by decide +kernel
theorem dX12_mask_129 : decode cX12_mask 129 = .ok (.lload 10, 2) := by decide +kernel
theorem dX12_mask_131 : decode cX12_mask 131 = .ok (.lconst 0, 1) := by decide +kernel
theorem dX12_mask_132 : decode cX12_mask 132 = .ok (.aload_n 0, 1) := by decide +kernel
theorem dX12_mask_133 : decode cX12_mask 133 = .ok (.getfield 63, 3) := by decide +kernel
theorem dX12_mask_136 : decode cX12_mask 136 = .ok (.iload_n 1, 1) := by decide +kernel
theorem dX12_mask_137 : decode cX12_mask 137 = .ok (.iaload, 1) := by decide +kernel
theorem dX12_mask_138 : decode cX12_mask 138 = .ok (.i2l, 1) := by decide +kernel
theorem dX12_mask_139 : decode cX12_mask 139 = .ok (.lconst 1, 1) := by decide +kernel
theorem dX12_mask_140 : decode cX12_mask 140 = .ok (.lsub, 1) := by decide +kernel
theorem dX12_mask_141 : decode cX12_mask 141 = .ok (.invokestatic 115, 3) := by decide +kernel
theorem dX12_mask_144 : decode cX12_mask 144 = .ok (.ifCond .eq 72, 3) := by decide +kernel
theorem dX12_mask_147 : decode cX12_mask 147 = .ok (.aload_n 0, 1) := by decide +kernel
theorem dX12_mask_148 : decode cX12_mask 148 = .ok (.iload_n 1, 1) := by decide +kernel
theorem dX12_mask_149 : decode cX12_mask 149 = .ok (.iload_n 2, 1) := by decide +kernel
theorem dX12_mask_150 : decode cX12_mask 150 = .ok (.lload 10, 2) := by decide +kernel
theorem dX12_mask_152 : decode cX12_mask 152 = .ok (.l2i, 1) := by decide +kernel
theorem dX12_mask_153 : decode cX12_mask 153 = .ok (.invokevirtual 266, 3) := by decide +kernel
theorem dX12_mask_156 : decode cX12_mask 156 = .ok (.istore 12, 2) := by decide +kernel
theorem dX12_mask_158 : decode cX12_mask 158 = .ok (.iload 12, 2) := by decide +kernel
theorem dX12_mask_160 : decode cX12_mask 160 = .ok (.aload_n 0, 1) := by decide +kernel
theorem dX12_mask_161 : decode cX12_mask 161 = .ok (.getfield 78, 3) := by decide +kernel
theorem dX12_mask_164 : decode cX12_mask 164 = .ok (.bipush 64, 2) := by decide +kernel
theorem dX12_mask_166 : decode cX12_mask 166 = .ok (.iload_n 3, 1) := by decide +kernel
theorem dX12_mask_167 : decode cX12_mask 167 = .ok (.imul, 1) := by decide +kernel
theorem dX12_mask_168 : decode cX12_mask 168 = .ok (.iconst 2, 1) := by decide +kernel
theorem dX12_mask_169 : decode cX12_mask 169 = .ok (.iload 9, 2) := by decide +kernel
theorem dX12_mask_171 : decode cX12_mask 171 = .ok (.imul, 1) := by decide +kernel
theorem dX12_mask_172 : decode cX12_mask 172 = .ok (.iadd, 1) := by decide +kernel
theorem dX12_mask_173 : decode cX12_mask 173 = .ok (.iaload, 1) := by decide +kernel
theorem dX12_mask_174 : decode cX12_mask 174 = .ok (.if_icmp .lt 24, 3) := by decide +kernel
theorem dX12_mask_177 : decode cX12_mask 177 = .ok (.iload 12, 2) := by decide +kernel
theorem dX12_mask_179 : decode cX12_mask 179 = .ok (.aload_n 0, 1) := by decide +kernel
theorem dX12_mask_180 : decode cX12_mask 180 = .ok (.getfield 78, 3) := by decide +kernel
theorem dX12_mask_183 : decode cX12_mask 183 = .ok (.bipush 64, 2) := by decide +kernel
theorem dX12_mask_185 : decode cX12_mask 185 = .ok (.iload_n 3, 1) := by decide +kernel
theorem dX12_mask_186 : decode cX12_mask 186 = .ok (.imul, 1) := by decide +kernel
theorem dX12_mask_187 : decode cX12_mask 187 = .ok (.iconst 2, 1) := by decide +kernel
theorem dX12_mask_188 : decode cX12_mask 188 = .ok (.iload 9, 2) := by decide +kernel
theorem dX12_mask_190 : decode cX12_mask 190 = .ok (.imul, 1) := by decide +kernel
theorem dX12_mask_191 : decode cX12_mask 191 = .ok (.iadd, 1) := by decide +kernel
theorem dX12_mask_192 : decode cX12_mask 192 = .ok (.iconst 1, 1) := by decide +kernel
theorem dX12_mask_193 : decode cX12_mask 193 = .ok (.iadd, 1) := by decide +kernel
theorem dX12_mask_194 : decode cX12_mask 194 = .ok (.iaload, 1) := by decide +kernel
theorem dX12_mask_195 : decode cX12_mask 195 = .ok (.if_icmp .le 21, 3) := by decide +kernel
theorem dX12_mask_198 : decode cX12_mask 198 = .ok (.iload 7, 2) := by decide +kernel
theorem dX12_mask_200 : decode cX12_mask 200 = .ok (.ifCond .ne 9, 3) := by decide +kernel
theorem dX12_mask_203 : decode cX12_mask 203 = .ok (.lload 10, 2) := by decide +kernel
theorem dX12_mask_205 : decode cX12_mask 205 = .ok (.l2i, 1) := by decide +kernel
theorem dX12_mask_206 : decode cX12_mask 206 = .ok (.goto 5, 3) := by decide +kernel
theorem dX12_mask_209 : decode cX12_mask 209 = .ok (.iload 8, 2) := by decide +kernel
theorem dX12_mask_211 : decode cX12_mask 211 = .ok (.istore 8, 2) := by decide +kernel
theorem dX12_mask_213 : decode cX12_mask 213 = .ok (.iinc 7 1, 3) := by decide +kernel
theorem dX12_mask_216 : decode cX12_mask 216 = .ok (.iinc 9 1, 3) := by decide +kernel
theorem dX12_mask_219 : decode cX12_mask 219 = .ok (.goto (-106), 3) := by decide +kernel
theorem dX12_mask_222 : decode cX12_mask 222 = .ok (.aload_n 0, 1) := by decide +kernel
theorem dX12_mask_223 : decode cX12_mask 223 = .ok (.iload 8, 2) := by decide +kernel
theorem dX12_mask_225 : decode cX12_mask 225 = .ok (.putfield 81, 3) := by decide +kernel
theorem dX12_mask_228 : decode cX12_mask 228 = .ok (.iload 7, 2) := by decide +kernel
theorem dX12_mask_230 : decode cX12_mask 230 = .ok (.ireturn, 1) := by decide +kernel
theorem dX12_first_0 : decode cX12_first 0 = .ok (.aload_n 0, 1) := by decide +kernel
theorem dX12_first_1 : decode cX12_first 1 = .ok (.getfield 81, 3) := by decide +kernel
theorem dX12_first_4 : decode cX12_first 4 = .ok (.ireturn, 1) := by decide +kernel
theorem dX12_isRow_0 : decode cX12_isRow 0 = .ok (.iload_n 1, 1) := by decide +kernel
theorem dX12_isRow_1 : decode cX12_isRow 1 = .ok (.i2l, 1) := by decide +kernel
theorem dX12_isRow_2 : decode cX12_isRow 2 = .ok (.lconst 0, 1) := by decide +kernel
theorem dX12_isRow_3 : decode cX12_isRow 3 = .ok (.ldc2_w 257, 3) := by decide +kernel
theorem dX12_isRow_6 : decode cX12_isRow 6 = .ok (.invokestatic 115, 3) := by decide +kernel
theorem dX12_isRow_9 : decode cX12_isRow 9 = .ok (.ifCond .eq 18, 3) := by decide +kernel
theorem dX12_isRow_12 : decode cX12_isRow 12 = .ok (.aload_n 0, 1) := by decide +kernel
theorem dX12_isRow_13 : decode cX12_isRow 13 = .ok (.getfield 84, 3) := by decide +kernel
theorem dX12_isRow_16 : decode cX12_isRow 16 = .ok (.iload_n 1, 1) := by decide +kernel
theorem dX12_isRow_17 : decode cX12_isRow 17 = .ok (.iaload, 1) := by decide +kernel
theorem dX12_isRow_18 : decode cX12_isRow 18 = .ok (.bipush (-4), 2) := by decide +kernel
theorem dX12_isRow_20 : decode cX12_isRow 20 = .ok (.if_icmp .eq 7, 3) := by decide +kernel
theorem dX12_isRow_23 : decode cX12_isRow 23 = .ok (.iconst 1, 1) := by decide +kernel
theorem dX12_isRow_24 : decode cX12_isRow 24 = .ok (.goto 4, 3) := by decide +kernel
theorem dX12_isRow_27 : decode cX12_isRow 27 = .ok (.iconst 0, 1) := by decide +kernel
theorem dX12_isRow_28 : decode cX12_isRow 28 = .ok (.ireturn, 1) := by decide +kernel
theorem dX12_row_0 : decode cX12_row 0 = .ok (.iload_n 1, 1) := by decide +kernel
theorem dX12_row_1 : decode cX12_row 1 = .ok (.i2l, 1) := by decide +kernel
theorem dX12_row_2 : decode cX12_row 2 = .ok (.lconst 0, 1) := by decide +kernel
theorem dX12_row_3 : decode cX12_row 3 = .ok (.ldc2_w 257, 3) := by decide +kernel
theorem dX12_row_6 : decode cX12_row 6 = .ok (.invokestatic 115, 3) := by decide +kernel
theorem dX12_row_9 : decode cX12_row 9 = .ok (.ifCond .eq 23, 3) := by decide +kernel
theorem dX12_row_12 : decode cX12_row 12 = .ok (.aload_n 0, 1) := by decide +kernel
theorem dX12_row_13 : decode cX12_row 13 = .ok (.iload_n 2, 1) := by decide +kernel
theorem dX12_row_14 : decode cX12_row 14 = .ok (.invokevirtual 261, 3) := by decide +kernel
theorem dX12_row_17 : decode cX12_row 17 = .ok (.ifCond .eq 15, 3) := by decide +kernel
theorem dX12_row_20 : decode cX12_row 20 = .ok (.iload_n 3, 1) := by decide +kernel
theorem dX12_row_21 : decode cX12_row 21 = .ok (.i2l, 1) := by decide +kernel
theorem dX12_row_22 : decode cX12_row 22 = .ok (.lconst 0, 1) := by decide +kernel
theorem dX12_row_23 : decode cX12_row 23 = .ok (.ldc2_w 257, 3) := by decide +kernel
theorem dX12_row_26 : decode cX12_row 26 = .ok (.invokestatic 115, 3) := by decide +kernel
theorem dX12_row_29 : decode cX12_row 29 = .ok (.ifCond .ne 5, 3) := by decide +kernel
theorem dX12_row_32 : decode cX12_row 32 = .ok (.iconst (-1), 1) := by decide +kernel
theorem dX12_row_33 : decode cX12_row 33 = .ok (.ireturn, 1) := by decide +kernel
theorem dX12_row_34 : decode cX12_row 34 = .ok (.aload_n 0, 1) := by decide +kernel
theorem dX12_row_35 : decode cX12_row 35 = .ok (.getfield 84, 3) := by decide +kernel
theorem dX12_row_38 : decode cX12_row 38 = .ok (.iload_n 1, 1) := by decide +kernel
theorem dX12_row_39 : decode cX12_row 39 = .ok (.aload_n 0, 1) := by decide +kernel
theorem dX12_row_40 : decode cX12_row 40 = .ok (.getfield 63, 3) := by decide +kernel
theorem dX12_row_43 : decode cX12_row 43 = .ok (.iload_n 2, 1) := by decide +kernel
theorem dX12_row_44 : decode cX12_row 44 = .ok (.iaload, 1) := by decide +kernel
theorem dX12_row_45 : decode cX12_row 45 = .ok (.iastore, 1) := by decide +kernel
theorem dX12_row_46 : decode cX12_row 46 = .ok (.iconst 0, 1) := by decide +kernel
theorem dX12_row_47 : decode cX12_row 47 = .ok (.istore 4, 2) := by decide +kernel
theorem dX12_row_49 : decode cX12_row 49 = .ok (.iload 4, 2) := by decide +kernel
theorem dX12_row_51 : decode cX12_row 51 = .ok (.aload_n 0, 1) := by decide +kernel
theorem dX12_row_52 : decode cX12_row 52 = .ok (.getfield 63, 3) := by decide +kernel
theorem dX12_row_55 : decode cX12_row 55 = .ok (.iload_n 2, 1) := by decide +kernel
theorem dX12_row_56 : decode cX12_row 56 = .ok (.iaload, 1) := by decide +kernel
theorem dX12_row_57 : decode cX12_row 57 = .ok (.if_icmp .ge 45, 3) := by decide +kernel
theorem dX12_row_60 : decode cX12_row 60 = .ok (.aload_n 0, 1) := by decide +kernel
theorem dX12_row_61 : decode cX12_row 61 = .ok (.getfield 87, 3) := by decide +kernel
theorem dX12_row_64 : decode cX12_row 64 = .ok (.sipush 201, 3) := by decide +kernel
theorem dX12_row_67 : decode cX12_row 67 = .ok (.iload_n 1, 1) := by decide +kernel
theorem dX12_row_68 : decode cX12_row 68 = .ok (.imul, 1) := by decide +kernel
theorem dX12_row_69 : decode cX12_row 69 = .ok (.iload 4, 2) := by decide +kernel
theorem dX12_row_71 : decode cX12_row 71 = .ok (.iadd, 1) := by decide +kernel
theorem dX12_row_72 : decode cX12_row 72 = .ok (.aload_n 0, 1) := by decide +kernel
theorem dX12_row_73 : decode cX12_row 73 = .ok (.iload_n 2, 1) := by decide +kernel
theorem dX12_row_74 : decode cX12_row 74 = .ok (.iload_n 3, 1) := by decide +kernel
theorem dX12_row_75 : decode cX12_row 75 = .ok (.iload 4, 2) := by decide +kernel
theorem dX12_row_77 : decode cX12_row 77 = .ok (.invokevirtual 266, 3) := by decide +kernel
theorem dX12_row_80 : decode cX12_row 80 = .ok (.i2l, 1) := by decide +kernel
theorem dX12_row_81 : decode cX12_row 81 = .ok (.lastore, 1) := by decide +kernel
theorem dX12_row_82 : decode cX12_row 82 = .ok (.aload_n 0, 1) := by decide +kernel
theorem dX12_row_83 : decode cX12_row 83 = .ok (.getfield 91, 3) := by decide +kernel
theorem dX12_row_86 : decode cX12_row 86 = .ok (.sipush 201, 3) := by decide +kernel
theorem dX12_row_89 : decode cX12_row 89 = .ok (.iload_n 1, 1) := by decide +kernel
theorem dX12_row_90 : decode cX12_row 90 = .ok (.imul, 1) := by decide +kernel
theorem dX12_row_91 : decode cX12_row 91 = .ok (.iload 4, 2) := by decide +kernel
theorem dX12_row_93 : decode cX12_row 93 = .ok (.iadd, 1) := by decide +kernel
theorem dX12_row_94 : decode cX12_row 94 = .ok (.iconst 0, 1) := by decide +kernel
theorem dX12_row_95 : decode cX12_row 95 = .ok (.bastore, 1) := by decide +kernel
theorem dX12_row_96 : decode cX12_row 96 = .ok (.iinc 4 1, 3) := by decide +kernel
theorem dX12_row_99 : decode cX12_row 99 = .ok (.goto (-50), 3) := by decide +kernel
theorem dX12_row_102 : decode cX12_row 102 = .ok (.aload_n 0, 1) := by decide +kernel
theorem dX12_row_103 : decode cX12_row 103 = .ok (.getfield 84, 3) := by decide +kernel
theorem dX12_row_106 : decode cX12_row 106 = .ok (.iload_n 1, 1) := by decide +kernel
theorem dX12_row_107 : decode cX12_row 107 = .ok (.iaload, 1) := by decide +kernel
theorem dX12_row_108 : decode cX12_row 108 = .ok (.ireturn, 1) := by decide +kernel
theorem dX12_single_0 : decode cX12_single 0 = .ok (.sipush 201, 3) := by decide +kernel
theorem dX12_single_3 : decode cX12_single 3 = .ok (.iload_n 2, 1) := by decide +kernel
theorem dX12_single_4 : decode cX12_single 4 = .ok (.imul, 1) := by decide +kernel
theorem dX12_single_5 : decode cX12_single 5 = .ok (.iload 4, 2) := by decide +kernel
theorem dX12_single_7 : decode cX12_single 7 = .ok (.iadd, 1) := by decide +kernel
theorem dX12_single_8 : decode cX12_single 8 = .ok (.istore 5, 2) := by decide +kernel
theorem dX12_single_10 : decode cX12_single 10 = .ok (.aload_n 0, 1) := by decide +kernel
theorem dX12_single_11 : decode cX12_single 11 = .ok (.getfield 91, 3) := by decide +kernel
theorem dX12_single_14 : decode cX12_single 14 = .ok (.iload 5, 2) := by decide +kernel
theorem dX12_single_16 : decode cX12_single 16 = .ok (.baload, 1) := by decide +kernel
theorem dX12_single_17 : decode cX12_single 17 = .ok (.istore 6, 2) := by decide +kernel
theorem dX12_single_19 : decode cX12_single 19 = .ok (.aload_n 0, 1) := by decide +kernel
theorem dX12_single_20 : decode cX12_single 20 = .ok (.getfield 87, 3) := by decide +kernel
theorem dX12_single_23 : decode cX12_single 23 = .ok (.iload 5, 2) := by decide +kernel
theorem dX12_single_25 : decode cX12_single 25 = .ok (.laload, 1) := by decide +kernel
theorem dX12_single_26 : decode cX12_single 26 = .ok (.lstore 7, 2) := by decide +kernel
theorem dX12_single_28 : decode cX12_single 28 = .ok (.iload_n 1, 1) := by decide +kernel
theorem dX12_single_29 : decode cX12_single 29 = .ok (.iconst 3, 1) := by decide +kernel
theorem dX12_single_30 : decode cX12_single 30 = .ok (.if_icmp .ne 83, 3) := by decide +kernel
theorem dX12_single_33 : decode cX12_single 33 = .ok (.iload 4, 2) := by decide +kernel
theorem dX12_single_35 : decode cX12_single 35 = .ok (.iconst 1, 1) := by decide +kernel
theorem dX12_single_36 : decode cX12_single 36 = .ok (.iadd, 1) := by decide +kernel
theorem dX12_single_37 : decode cX12_single 37 = .ok (.iload_n 3, 1) := by decide +kernel
theorem dX12_single_38 : decode cX12_single 38 = .ok (.if_icmp .ge 7, 3) := by decide +kernel
theorem dX12_single_41 : decode cX12_single 41 = .ok (.iconst 1, 1) := by decide +kernel
theorem dX12_single_42 : decode cX12_single 42 = .ok (.goto 4, 3) := by decide +kernel
theorem dX12_single_45 : decode cX12_single 45 = .ok (.iconst 0, 1) := by decide +kernel
theorem dX12_single_46 : decode cX12_single 46 = .ok (.istore 6, 2) := by decide +kernel
theorem dX12_single_48 : decode cX12_single 48 = .ok (.lconst 0, 1) := by decide +kernel
theorem dX12_single_49 : decode cX12_single 49 = .ok (.lstore 7, 2) := by decide +kernel
theorem dX12_single_51 : decode cX12_single 51 = .ok (.iload 4, 2) := by decide +kernel
theorem dX12_single_53 : decode cX12_single 53 = .ok (.iload_n 3, 1) := by decide +kernel
theorem dX12_single_54 : decode cX12_single 54 = .ok (.isub, 1) := by decide +kernel
theorem dX12_single_55 : decode cX12_single 55 = .ok (.iconst 1, 1) := by decide +kernel
theorem dX12_single_56 : decode cX12_single 56 = .ok (.iadd, 1) := by decide +kernel
theorem dX12_single_57 : decode cX12_single 57 = .ok (.istore 9, 2) := by decide +kernel
theorem dX12_single_59 : decode cX12_single 59 = .ok (.iload 9, 2) := by decide +kernel
theorem dX12_single_61 : decode cX12_single 61 = .ok (.iload 4, 2) := by decide +kernel
theorem dX12_single_63 : decode cX12_single 63 = .ok (.if_icmp .gt 47, 3) := by decide +kernel
theorem dX12_single_66 : decode cX12_single 66 = .ok (.iload 6, 2) := by decide +kernel
theorem dX12_single_68 : decode cX12_single 68 = .ok (.ifCond .ne 42, 3) := by decide +kernel
theorem dX12_single_71 : decode cX12_single 71 = .ok (.aload_n 0, 1) := by decide +kernel
theorem dX12_single_72 : decode cX12_single 72 = .ok (.getfield 91, 3) := by decide +kernel
theorem dX12_single_75 : decode cX12_single 75 = .ok (.sipush 201, 3) := by decide +kernel
theorem dX12_single_78 : decode cX12_single 78 = .ok (.iload_n 2, 1) := by decide +kernel
theorem dX12_single_79 : decode cX12_single 79 = .ok (.imul, 1) := by decide +kernel
theorem dX12_single_80 : decode cX12_single 80 = .ok (.iload 9, 2) := by decide +kernel
theorem dX12_single_82 : decode cX12_single 82 = .ok (.iadd, 1) := by decide +kernel
theorem dX12_single_83 : decode cX12_single 83 = .ok (.baload, 1) := by decide +kernel
theorem dX12_single_84 : decode cX12_single 84 = .ok (.istore 6, 2) := by decide +kernel
theorem dX12_single_86 : decode cX12_single 86 = .ok (.lload 7, 2) := by decide +kernel
theorem dX12_single_88 : decode cX12_single 88 = .ok (.aload_n 0, 1) := by decide +kernel
theorem dX12_single_89 : decode cX12_single 89 = .ok (.getfield 87, 3) := by decide +kernel
theorem dX12_single_92 : decode cX12_single 92 = .ok (.sipush 201, 3) := by decide +kernel
theorem dX12_single_95 : decode cX12_single 95 = .ok (.iload_n 2, 1) := by decide +kernel
theorem dX12_single_96 : decode cX12_single 96 = .ok (.imul, 1) := by decide +kernel
theorem dX12_single_97 : decode cX12_single 97 = .ok (.iload 9, 2) := by decide +kernel
theorem dX12_single_99 : decode cX12_single 99 = .ok (.iadd, 1) := by decide +kernel
theorem dX12_single_100 : decode cX12_single 100 = .ok (.laload, 1) := by decide +kernel
theorem dX12_single_101 : decode cX12_single 101 = .ok (.ladd, 1) := by decide +kernel
theorem dX12_single_102 : decode cX12_single 102 = .ok (.lstore 7, 2) := by decide +kernel
theorem dX12_single_104 : decode cX12_single 104 = .ok (.iinc 9 1, 3) := by decide +kernel
theorem dX12_single_107 : decode cX12_single 107 = .ok (.goto (-48), 3) := by decide +kernel
theorem dX12_single_110 : decode cX12_single 110 = .ok (.goto 144, 3) := by decide +kernel
theorem dX12_single_113 : decode cX12_single 113 = .ok (.iload_n 1, 1) := by decide +kernel
theorem dX12_single_114 : decode cX12_single 114 = .ok (.iconst 4, 1) := by decide +kernel
theorem dX12_single_115 : decode cX12_single 115 = .ok (.if_icmp .ne 59, 3) := by decide +kernel
theorem dX12_single_118 : decode cX12_single 118 = .ok (.iload 6, 2) := by decide +kernel
theorem dX12_single_120 : decode cX12_single 120 = .ok (.ifCond .ne 21, 3) := by decide +kernel
theorem dX12_single_123 : decode cX12_single 123 = .ok (.iload 4, 2) := by decide +kernel
theorem dX12_single_125 : decode cX12_single 125 = .ok (.iload_n 3, 1) := by decide +kernel
theorem dX12_single_126 : decode cX12_single 126 = .ok (.if_icmp .lt 15, 3) := by decide +kernel
theorem dX12_single_129 : decode cX12_single 129 = .ok (.aload_n 0, 1) := by decide +kernel
theorem dX12_single_130 : decode cX12_single 130 = .ok (.getfield 91, 3) := by decide +kernel
theorem dX12_single_133 : decode cX12_single 133 = .ok (.iload 5, 2) := by decide +kernel
theorem dX12_single_135 : decode cX12_single 135 = .ok (.iload_n 3, 1) := by decide +kernel
theorem dX12_single_136 : decode cX12_single 136 = .ok (.isub, 1) := by decide +kernel
theorem dX12_single_137 : decode cX12_single 137 = .ok (.baload, 1) := by decide +kernel
theorem dX12_single_138 : decode cX12_single 138 = .ok (.ifCond .eq 7, 3) := by decide +kernel
theorem dX12_single_141 : decode cX12_single 141 = .ok (.iconst 1, 1) := by decide +kernel
theorem dX12_single_142 : decode cX12_single 142 = .ok (.goto 4, 3) := by decide +kernel
theorem dX12_single_145 : decode cX12_single 145 = .ok (.iconst 0, 1) := by decide +kernel
theorem dX12_single_146 : decode cX12_single 146 = .ok (.istore 6, 2) := by decide +kernel
theorem dX12_single_148 : decode cX12_single 148 = .ok (.iload 6, 2) := by decide +kernel
theorem dX12_single_150 : decode cX12_single 150 = .ok (.ifCond .eq 7, 3) := by decide +kernel
theorem dX12_single_153 : decode cX12_single 153 = .ok (.lconst 0, 1) := by decide +kernel
theorem dX12_single_154 : decode cX12_single 154 = .ok (.goto 15, 3) := by decide +kernel
theorem dX12_single_157 : decode cX12_single 157 = .ok (.lload 7, 2) := by decide +kernel
theorem dX12_single_159 : decode cX12_single 159 = .ok (.aload_n 0, 1) := by decide +kernel
theorem dX12_single_160 : decode cX12_single 160 = .ok (.getfield 87, 3) := by decide +kernel
theorem dX12_single_163 : decode cX12_single 163 = .ok (.iload 5, 2) := by decide +kernel
theorem dX12_single_165 : decode cX12_single 165 = .ok (.iload_n 3, 1) := by decide +kernel
theorem dX12_single_166 : decode cX12_single 166 = .ok (.isub, 1) := by decide +kernel
theorem dX12_single_167 : decode cX12_single 167 = .ok (.laload, 1) := by decide +kernel
theorem dX12_single_168 : decode cX12_single 168 = .ok (.lsub, 1) := by decide +kernel
theorem dX12_single_169 : decode cX12_single 169 = .ok (.lstore 7, 2) := by decide +kernel
theorem dX12_single_171 : decode cX12_single 171 = .ok (.goto 83, 3) := by decide +kernel
theorem dX12_single_174 : decode cX12_single 174 = .ok (.iload_n 1, 1) := by decide +kernel
theorem dX12_single_175 : decode cX12_single 175 = .ok (.iconst 5, 1) := by decide +kernel
theorem dX12_single_176 : decode cX12_single 176 = .ok (.if_icmp .ne 26, 3) := by decide +kernel
theorem dX12_single_179 : decode cX12_single 179 = .ok (.iload 6, 2) := by decide +kernel
theorem dX12_single_181 : decode cX12_single 181 = .ok (.ifCond .ne 11, 3) := by decide +kernel
theorem dX12_single_184 : decode cX12_single 184 = .ok (.lload 7, 2) := by decide +kernel
theorem dX12_single_186 : decode cX12_single 186 = .ok (.iload_n 3, 1) := by decide +kernel
theorem dX12_single_187 : decode cX12_single 187 = .ok (.i2l, 1) := by decide +kernel
theorem dX12_single_188 : decode cX12_single 188 = .ok (.lcmp, 1) := by decide +kernel
theorem dX12_single_189 : decode cX12_single 189 = .ok (.ifCond .ge 7, 3) := by decide +kernel
theorem dX12_single_192 : decode cX12_single 192 = .ok (.iconst 1, 1) := by decide +kernel
theorem dX12_single_193 : decode cX12_single 193 = .ok (.goto 4, 3) := by decide +kernel
theorem dX12_single_196 : decode cX12_single 196 = .ok (.iconst 0, 1) := by decide +kernel
theorem dX12_single_197 : decode cX12_single 197 = .ok (.istore 6, 2) := by decide +kernel
theorem dX12_single_199 : decode cX12_single 199 = .ok (.goto 55, 3) := by decide +kernel
theorem dX12_single_202 : decode cX12_single 202 = .ok (.iload_n 1, 1) := by decide +kernel
theorem dX12_single_203 : decode cX12_single 203 = .ok (.bipush 6, 2) := by decide +kernel
theorem dX12_single_205 : decode cX12_single 205 = .ok (.if_icmp .ne 42, 3) := by decide +kernel
theorem dX12_single_208 : decode cX12_single 208 = .ok (.iload 6, 2) := by decide +kernel
theorem dX12_single_210 : decode cX12_single 210 = .ok (.ifCond .eq 44, 3) := by decide +kernel
theorem dX12_single_213 : decode cX12_single 213 = .ok (.iload 4, 2) := by decide +kernel
theorem dX12_single_215 : decode cX12_single 215 = .ok (.ifCond .le 39, 3) := by decide +kernel
theorem dX12_single_218 : decode cX12_single 218 = .ok (.aload_n 0, 1) := by decide +kernel
theorem dX12_single_219 : decode cX12_single 219 = .ok (.getfield 98, 3) := by decide +kernel
theorem dX12_single_222 : decode cX12_single 222 = .ok (.iload 4, 2) := by decide +kernel
theorem dX12_single_224 : decode cX12_single 224 = .ok (.iconst 1, 1) := by decide +kernel
theorem dX12_single_225 : decode cX12_single 225 = .ok (.isub, 1) := by decide +kernel
theorem dX12_single_226 : decode cX12_single 226 = .ok (.baload, 1) := by decide +kernel
theorem dX12_single_227 : decode cX12_single 227 = .ok (.ifCond .ne 27, 3) := by decide +kernel
theorem dX12_single_230 : decode cX12_single 230 = .ok (.iconst 0, 1) := by decide +kernel
theorem dX12_single_231 : decode cX12_single 231 = .ok (.istore 6, 2) := by decide +kernel
theorem dX12_single_233 : decode cX12_single 233 = .ok (.aload_n 0, 1) := by decide +kernel
theorem dX12_single_234 : decode cX12_single 234 = .ok (.getfield 95, 3) := by decide +kernel
theorem dX12_single_237 : decode cX12_single 237 = .ok (.iload 4, 2) := by decide +kernel
theorem dX12_single_239 : decode cX12_single 239 = .ok (.iconst 1, 1) := by decide +kernel
theorem dX12_single_240 : decode cX12_single 240 = .ok (.isub, 1) := by decide +kernel
theorem dX12_single_241 : decode cX12_single 241 = .ok (.laload, 1) := by decide +kernel
theorem dX12_single_242 : decode cX12_single 242 = .ok (.lstore 7, 2) := by decide +kernel
theorem dX12_single_244 : decode cX12_single 244 = .ok (.goto 10, 3) := by decide +kernel
theorem dX12_single_247 : decode cX12_single 247 = .ok (.iload_n 3, 1) := by decide +kernel
theorem dX12_single_248 : decode cX12_single 248 = .ok (.i2l, 1) := by decide +kernel
theorem dX12_single_249 : decode cX12_single 249 = .ok (.lload 7, 2) := by decide +kernel
theorem dX12_single_251 : decode cX12_single 251 = .ok (.lmul, 1) := by decide +kernel
theorem dX12_single_252 : decode cX12_single 252 = .ok (.lstore 7, 2) := by decide +kernel
theorem dX12_single_254 : decode cX12_single 254 = .ok (.aload_n 0, 1) := by decide +kernel
theorem dX12_single_255 : decode cX12_single 255 = .ok (.getfield 95, 3) := by decide +kernel
theorem dX12_single_258 : decode cX12_single 258 = .ok (.iload 4, 2) := by decide +kernel
theorem dX12_single_260 : decode cX12_single 260 = .ok (.iload 6, 2) := by decide +kernel
theorem dX12_single_262 : decode cX12_single 262 = .ok (.ifCond .eq 7, 3) := by decide +kernel
theorem dX12_single_265 : decode cX12_single 265 = .ok (.lconst 0, 1) := by decide +kernel
theorem dX12_single_266 : decode cX12_single 266 = .ok (.goto 5, 3) := by decide +kernel
theorem dX12_single_269 : decode cX12_single 269 = .ok (.lload 7, 2) := by decide +kernel
theorem dX12_single_271 : decode cX12_single 271 = .ok (.lastore, 1) := by decide +kernel
theorem dX12_single_272 : decode cX12_single 272 = .ok (.aload_n 0, 1) := by decide +kernel
theorem dX12_single_273 : decode cX12_single 273 = .ok (.getfield 98, 3) := by decide +kernel
theorem dX12_single_276 : decode cX12_single 276 = .ok (.iload 4, 2) := by decide +kernel
theorem dX12_single_278 : decode cX12_single 278 = .ok (.iload 6, 2) := by decide +kernel
theorem dX12_single_280 : decode cX12_single 280 = .ok (.bastore, 1) := by decide +kernel
theorem dX12_single_281 : decode cX12_single 281 = .ok (.return_, 1) := by decide +kernel
theorem dX12_reckon_0 : decode cX12_reckon 0 = .ok (.iload_n 1, 1) := by decide +kernel
theorem dX12_reckon_1 : decode cX12_reckon 1 = .ok (.i2l, 1) := by decide +kernel
theorem dX12_reckon_2 : decode cX12_reckon 2 = .ok (.lconst 0, 1) := by decide +kernel
theorem dX12_reckon_3 : decode cX12_reckon 3 = .ok (.ldc2_w 257, 3) := by decide +kernel
theorem dX12_reckon_6 : decode cX12_reckon 6 = .ok (.invokestatic 115, 3) := by decide +kernel
theorem dX12_reckon_9 : decode cX12_reckon 9 = .ok (.ifCond .eq 82, 3) := by decide +kernel
theorem dX12_reckon_12 : decode cX12_reckon 12 = .ok (.iload_n 2, 1) := by decide +kernel
theorem dX12_reckon_13 : decode cX12_reckon 13 = .ok (.i2l, 1) := by decide +kernel
theorem dX12_reckon_14 : decode cX12_reckon 14 = .ok (.lconst 0, 1) := by decide +kernel
theorem dX12_reckon_15 : decode cX12_reckon 15 = .ok (.ldc2_w 269, 3) := by decide +kernel
theorem dX12_reckon_18 : decode cX12_reckon 18 = .ok (.invokestatic 115, 3) := by decide +kernel
theorem dX12_reckon_21 : decode cX12_reckon 21 = .ok (.ifCond .eq 70, 3) := by decide +kernel
theorem dX12_reckon_24 : decode cX12_reckon 24 = .ok (.aload_n 0, 1) := by decide +kernel
theorem dX12_reckon_25 : decode cX12_reckon 25 = .ok (.iload_n 3, 1) := by decide +kernel
theorem dX12_reckon_26 : decode cX12_reckon 26 = .ok (.invokevirtual 254, 3) := by decide +kernel
theorem dX12_reckon_29 : decode cX12_reckon 29 = .ok (.ifCond .eq 62, 3) := by decide +kernel
theorem dX12_reckon_32 : decode cX12_reckon 32 = .ok (.iload_n 2, 1) := by decide +kernel
theorem dX12_reckon_33 : decode cX12_reckon 33 = .ok (.iconst 3, 1) := by decide +kernel
theorem dX12_reckon_34 : decode cX12_reckon 34 = .ok (.if_icmp .ge 12, 3) := by decide +kernel
theorem dX12_reckon_37 : decode cX12_reckon 37 = .ok (.aload_n 0, 1) := by decide +kernel
theorem dX12_reckon_38 : decode cX12_reckon 38 = .ok (.iload 4, 2) := by decide +kernel
theorem dX12_reckon_40 : decode cX12_reckon 40 = .ok (.invokevirtual 254, 3) := by decide +kernel
theorem dX12_reckon_43 : decode cX12_reckon 43 = .ok (.ifCond .eq 48, 3) := by decide +kernel
theorem dX12_reckon_46 : decode cX12_reckon 46 = .ok (.iload 5, 2) := by decide +kernel
theorem dX12_reckon_48 : decode cX12_reckon 48 = .ok (.i2l, 1) := by decide +kernel
theorem dX12_reckon_49 : decode cX12_reckon 49 = .ok (.iload_n 2, 1) := by decide +kernel
theorem dX12_reckon_50 : decode cX12_reckon 50 = .ok (.iconst 3, 1) := by decide +kernel
theorem dX12_reckon_51 : decode cX12_reckon 51 = .ok (.if_icmp .eq 8, 3) := by decide +kernel
theorem dX12_reckon_54 : decode cX12_reckon 54 = .ok (.iload_n 2, 1) := by decide +kernel
theorem dX12_reckon_55 : decode cX12_reckon 55 = .ok (.iconst 4, 1) := by decide +kernel
theorem dX12_reckon_56 : decode cX12_reckon 56 = .ok (.if_icmp .ne 7, 3) := by decide +kernel
theorem dX12_reckon_59 : decode cX12_reckon 59 = .ok (.lconst 1, 1) := by decide +kernel
theorem dX12_reckon_60 : decode cX12_reckon 60 = .ok (.goto 6, 3) := by decide +kernel
theorem dX12_reckon_63 : decode cX12_reckon 63 = .ok (.ldc2_w 271, 3) := by decide +kernel
theorem dX12_reckon_66 : decode cX12_reckon 66 = .ok (.iload_n 2, 1) := by decide +kernel
theorem dX12_reckon_67 : decode cX12_reckon 67 = .ok (.iconst 3, 1) := by decide +kernel
theorem dX12_reckon_68 : decode cX12_reckon 68 = .ok (.if_icmp .eq 8, 3) := by decide +kernel
theorem dX12_reckon_71 : decode cX12_reckon 71 = .ok (.iload_n 2, 1) := by decide +kernel
theorem dX12_reckon_72 : decode cX12_reckon 72 = .ok (.iconst 4, 1) := by decide +kernel
theorem dX12_reckon_73 : decode cX12_reckon 73 = .ok (.if_icmp .ne 9, 3) := by decide +kernel
theorem dX12_reckon_76 : decode cX12_reckon 76 = .ok (.ldc2_w 259, 3) := by decide +kernel
theorem dX12_reckon_79 : decode cX12_reckon 79 = .ok (.goto 6, 3) := by decide +kernel
theorem dX12_reckon_82 : decode cX12_reckon 82 = .ok (.ldc2_w 273, 3) := by decide +kernel
theorem dX12_reckon_85 : decode cX12_reckon 85 = .ok (.invokestatic 115, 3) := by decide +kernel
theorem dX12_reckon_88 : decode cX12_reckon 88 = .ok (.ifCond .ne 5, 3) := by decide +kernel
theorem dX12_reckon_91 : decode cX12_reckon 91 = .ok (.iconst (-1), 1) := by decide +kernel
theorem dX12_reckon_92 : decode cX12_reckon 92 = .ok (.ireturn, 1) := by decide +kernel
theorem dX12_reckon_93 : decode cX12_reckon 93 = .ok (.iload_n 2, 1) := by decide +kernel
theorem dX12_reckon_94 : decode cX12_reckon 94 = .ok (.iconst 3, 1) := by decide +kernel
theorem dX12_reckon_95 : decode cX12_reckon 95 = .ok (.if_icmp .ge 29, 3) := by decide +kernel
theorem dX12_reckon_98 : decode cX12_reckon 98 = .ok (.aload_n 0, 1) := by decide +kernel
theorem dX12_reckon_99 : decode cX12_reckon 99 = .ok (.getfield 84, 3) := by decide +kernel
theorem dX12_reckon_102 : decode cX12_reckon 102 = .ok (.iload 4, 2) := by decide +kernel
theorem dX12_reckon_104 : decode cX12_reckon 104 = .ok (.iaload, 1) := by decide +kernel
theorem dX12_reckon_105 : decode cX12_reckon 105 = .ok (.aload_n 0, 1) := by decide +kernel
theorem dX12_reckon_106 : decode cX12_reckon 106 = .ok (.getfield 84, 3) := by decide +kernel
theorem dX12_reckon_109 : decode cX12_reckon 109 = .ok (.iload_n 3, 1) := by decide +kernel
theorem dX12_reckon_110 : decode cX12_reckon 110 = .ok (.iaload, 1) := by decide +kernel
theorem dX12_reckon_111 : decode cX12_reckon 111 = .ok (.if_icmp .ge 13, 3) := by decide +kernel
theorem dX12_reckon_114 : decode cX12_reckon 114 = .ok (.aload_n 0, 1) := by decide +kernel
theorem dX12_reckon_115 : decode cX12_reckon 115 = .ok (.getfield 84, 3) := by decide +kernel
theorem dX12_reckon_118 : decode cX12_reckon 118 = .ok (.iload 4, 2) := by decide +kernel
theorem dX12_reckon_120 : decode cX12_reckon 120 = .ok (.iaload, 1) := by decide +kernel
theorem dX12_reckon_121 : decode cX12_reckon 121 = .ok (.goto 9, 3) := by decide +kernel
theorem dX12_reckon_124 : decode cX12_reckon 124 = .ok (.aload_n 0, 1) := by decide +kernel
theorem dX12_reckon_125 : decode cX12_reckon 125 = .ok (.getfield 84, 3) := by decide +kernel
theorem dX12_reckon_128 : decode cX12_reckon 128 = .ok (.iload_n 3, 1) := by decide +kernel
theorem dX12_reckon_129 : decode cX12_reckon 129 = .ok (.iaload, 1) := by decide +kernel
theorem dX12_reckon_130 : decode cX12_reckon 130 = .ok (.istore 6, 2) := by decide +kernel
theorem dX12_reckon_132 : decode cX12_reckon 132 = .ok (.iconst 0, 1) := by decide +kernel
theorem dX12_reckon_133 : decode cX12_reckon 133 = .ok (.istore 7, 2) := by decide +kernel
theorem dX12_reckon_135 : decode cX12_reckon 135 = .ok (.iload 7, 2) := by decide +kernel
theorem dX12_reckon_137 : decode cX12_reckon 137 = .ok (.iload 6, 2) := by decide +kernel
theorem dX12_reckon_139 : decode cX12_reckon 139 = .ok (.if_icmp .ge 165, 3) := by decide +kernel
theorem dX12_reckon_142 : decode cX12_reckon 142 = .ok (.iload_n 2, 1) := by decide +kernel
theorem dX12_reckon_143 : decode cX12_reckon 143 = .ok (.iconst 3, 1) := by decide +kernel
theorem dX12_reckon_144 : decode cX12_reckon 144 = .ok (.if_icmp .ge 144, 3) := by decide +kernel
theorem dX12_reckon_147 : decode cX12_reckon 147 = .ok (.sipush 201, 3) := by decide +kernel
theorem dX12_reckon_150 : decode cX12_reckon 150 = .ok (.iload_n 3, 1) := by decide +kernel
theorem dX12_reckon_151 : decode cX12_reckon 151 = .ok (.imul, 1) := by decide +kernel
theorem dX12_reckon_152 : decode cX12_reckon 152 = .ok (.iload 7, 2) := by decide +kernel
theorem dX12_reckon_154 : decode cX12_reckon 154 = .ok (.iadd, 1) := by decide +kernel
theorem dX12_reckon_155 : decode cX12_reckon 155 = .ok (.istore 8, 2) := by decide +kernel
theorem dX12_reckon_157 : decode cX12_reckon 157 = .ok (.sipush 201, 3) := by decide +kernel
theorem dX12_reckon_160 : decode cX12_reckon 160 = .ok (.iload 4, 2) := by decide +kernel
theorem dX12_reckon_162 : decode cX12_reckon 162 = .ok (.imul, 1) := by decide +kernel
theorem dX12_reckon_163 : decode cX12_reckon 163 = .ok (.iload 7, 2) := by decide +kernel
theorem dX12_reckon_165 : decode cX12_reckon 165 = .ok (.iadd, 1) := by decide +kernel
theorem dX12_reckon_166 : decode cX12_reckon 166 = .ok (.istore 9, 2) := by decide +kernel
theorem dX12_reckon_168 : decode cX12_reckon 168 = .ok (.aload_n 0, 1) := by decide +kernel
theorem dX12_reckon_169 : decode cX12_reckon 169 = .ok (.getfield 98, 3) := by decide +kernel
theorem dX12_reckon_172 : decode cX12_reckon 172 = .ok (.iload 7, 2) := by decide +kernel
theorem dX12_reckon_174 : decode cX12_reckon 174 = .ok (.aload_n 0, 1) := by decide +kernel
theorem dX12_reckon_175 : decode cX12_reckon 175 = .ok (.getfield 91, 3) := by decide +kernel
theorem dX12_reckon_178 : decode cX12_reckon 178 = .ok (.iload 8, 2) := by decide +kernel
theorem dX12_reckon_180 : decode cX12_reckon 180 = .ok (.baload, 1) := by decide +kernel
theorem dX12_reckon_181 : decode cX12_reckon 181 = .ok (.ifCond .ne 13, 3) := by decide +kernel
theorem dX12_reckon_184 : decode cX12_reckon 184 = .ok (.aload_n 0, 1) := by decide +kernel
theorem dX12_reckon_185 : decode cX12_reckon 185 = .ok (.getfield 91, 3) := by decide +kernel
theorem dX12_reckon_188 : decode cX12_reckon 188 = .ok (.iload 9, 2) := by decide +kernel
theorem dX12_reckon_190 : decode cX12_reckon 190 = .ok (.baload, 1) := by decide +kernel
theorem dX12_reckon_191 : decode cX12_reckon 191 = .ok (.ifCond .eq 7, 3) := by decide +kernel
theorem dX12_reckon_194 : decode cX12_reckon 194 = .ok (.iconst 1, 1) := by decide +kernel
theorem dX12_reckon_195 : decode cX12_reckon 195 = .ok (.goto 4, 3) := by decide +kernel
theorem dX12_reckon_198 : decode cX12_reckon 198 = .ok (.iconst 0, 1) := by decide +kernel
theorem dX12_reckon_199 : decode cX12_reckon 199 = .ok (.bastore, 1) := by decide +kernel
theorem dX12_reckon_200 : decode cX12_reckon 200 = .ok (.iload_n 2, 1) := by decide +kernel
theorem dX12_reckon_201 : decode cX12_reckon 201 = .ok (.ifCond .ne 21, 3) := by decide +kernel
theorem dX12_reckon_204 : decode cX12_reckon 204 = .ok (.aload_n 0, 1) := by decide +kernel
theorem dX12_reckon_205 : decode cX12_reckon 205 = .ok (.getfield 87, 3) := by decide +kernel
theorem dX12_reckon_208 : decode cX12_reckon 208 = .ok (.iload 8, 2) := by decide +kernel
theorem dX12_reckon_210 : decode cX12_reckon 210 = .ok (.laload, 1) := by decide +kernel
theorem dX12_reckon_211 : decode cX12_reckon 211 = .ok (.aload_n 0, 1) := by decide +kernel
theorem dX12_reckon_212 : decode cX12_reckon 212 = .ok (.getfield 87, 3) := by decide +kernel
theorem dX12_reckon_215 : decode cX12_reckon 215 = .ok (.iload 9, 2) := by decide +kernel
theorem dX12_reckon_217 : decode cX12_reckon 217 = .ok (.laload, 1) := by decide +kernel
theorem dX12_reckon_218 : decode cX12_reckon 218 = .ok (.ladd, 1) := by decide +kernel
theorem dX12_reckon_219 : decode cX12_reckon 219 = .ok (.goto 41, 3) := by decide +kernel
theorem dX12_reckon_222 : decode cX12_reckon 222 = .ok (.iload_n 2, 1) := by decide +kernel
theorem dX12_reckon_223 : decode cX12_reckon 223 = .ok (.iconst 1, 1) := by decide +kernel
theorem dX12_reckon_224 : decode cX12_reckon 224 = .ok (.if_icmp .ne 21, 3) := by decide +kernel
theorem dX12_reckon_227 : decode cX12_reckon 227 = .ok (.aload_n 0, 1) := by decide +kernel
theorem dX12_reckon_228 : decode cX12_reckon 228 = .ok (.getfield 87, 3) := by decide +kernel
theorem dX12_reckon_231 : decode cX12_reckon 231 = .ok (.iload 8, 2) := by decide +kernel
theorem dX12_reckon_233 : decode cX12_reckon 233 = .ok (.laload, 1) := by decide +kernel
theorem dX12_reckon_234 : decode cX12_reckon 234 = .ok (.aload_n 0, 1) := by decide +kernel
theorem dX12_reckon_235 : decode cX12_reckon 235 = .ok (.getfield 87, 3) := by decide +kernel
theorem dX12_reckon_238 : decode cX12_reckon 238 = .ok (.iload 9, 2) := by decide +kernel
theorem dX12_reckon_240 : decode cX12_reckon 240 = .ok (.laload, 1) := by decide +kernel
theorem dX12_reckon_241 : decode cX12_reckon 241 = .ok (.lsub, 1) := by decide +kernel
theorem dX12_reckon_242 : decode cX12_reckon 242 = .ok (.goto 18, 3) := by decide +kernel
theorem dX12_reckon_245 : decode cX12_reckon 245 = .ok (.aload_n 0, 1) := by decide +kernel
theorem dX12_reckon_246 : decode cX12_reckon 246 = .ok (.getfield 87, 3) := by decide +kernel
theorem dX12_reckon_249 : decode cX12_reckon 249 = .ok (.iload 8, 2) := by decide +kernel
theorem dX12_reckon_251 : decode cX12_reckon 251 = .ok (.laload, 1) := by decide +kernel
theorem dX12_reckon_252 : decode cX12_reckon 252 = .ok (.aload_n 0, 1) := by decide +kernel
theorem dX12_reckon_253 : decode cX12_reckon 253 = .ok (.getfield 87, 3) := by decide +kernel
theorem dX12_reckon_256 : decode cX12_reckon 256 = .ok (.iload 9, 2) := by decide +kernel
theorem dX12_reckon_258 : decode cX12_reckon 258 = .ok (.laload, 1) := by decide +kernel
theorem dX12_reckon_259 : decode cX12_reckon 259 = .ok (.lmul, 1) := by decide +kernel
theorem dX12_reckon_260 : decode cX12_reckon 260 = .ok (.lstore 10, 2) := by decide +kernel
theorem dX12_reckon_262 : decode cX12_reckon 262 = .ok (.aload_n 0, 1) := by decide +kernel
theorem dX12_reckon_263 : decode cX12_reckon 263 = .ok (.getfield 95, 3) := by decide +kernel
theorem dX12_reckon_266 : decode cX12_reckon 266 = .ok (.iload 7, 2) := by decide +kernel
theorem dX12_reckon_268 : decode cX12_reckon 268 = .ok (.aload_n 0, 1) := by decide +kernel
theorem dX12_reckon_269 : decode cX12_reckon 269 = .ok (.getfield 98, 3) := by decide +kernel
theorem dX12_reckon_272 : decode cX12_reckon 272 = .ok (.iload 7, 2) := by decide +kernel
theorem dX12_reckon_274 : decode cX12_reckon 274 = .ok (.baload, 1) := by decide +kernel
theorem dX12_reckon_275 : decode cX12_reckon 275 = .ok (.ifCond .eq 7, 3) := by decide +kernel
theorem dX12_reckon_278 : decode cX12_reckon 278 = .ok (.lconst 0, 1) := by decide +kernel
theorem dX12_reckon_279 : decode cX12_reckon 279 = .ok (.goto 5, 3) := by decide +kernel
theorem dX12_reckon_282 : decode cX12_reckon 282 = .ok (.lload 10, 2) := by decide +kernel
theorem dX12_reckon_284 : decode cX12_reckon 284 = .ok (.lastore, 1) := by decide +kernel
theorem dX12_reckon_285 : decode cX12_reckon 285 = .ok (.goto 13, 3) := by decide +kernel
theorem dX12_reckon_288 : decode cX12_reckon 288 = .ok (.aload_n 0, 1) := by decide +kernel
theorem dX12_reckon_289 : decode cX12_reckon 289 = .ok (.iload_n 2, 1) := by decide +kernel
theorem dX12_reckon_290 : decode cX12_reckon 290 = .ok (.iload_n 3, 1) := by decide +kernel
theorem dX12_reckon_291 : decode cX12_reckon 291 = .ok (.iload 5, 2) := by decide +kernel
theorem dX12_reckon_293 : decode cX12_reckon 293 = .ok (.iload 7, 2) := by decide +kernel
theorem dX12_reckon_295 : decode cX12_reckon 295 = .ok (.invokevirtual 275, 3) := by decide +kernel
theorem dX12_reckon_298 : decode cX12_reckon 298 = .ok (.iinc 7 1, 3) := by decide +kernel
theorem dX12_reckon_301 : decode cX12_reckon 301 = .ok (.goto (-166), 3) := by decide +kernel
theorem dX12_reckon_304 : decode cX12_reckon 304 = .ok (.iconst 0, 1) := by decide +kernel
theorem dX12_reckon_305 : decode cX12_reckon 305 = .ok (.istore 7, 2) := by decide +kernel
theorem dX12_reckon_307 : decode cX12_reckon 307 = .ok (.iload 7, 2) := by decide +kernel
theorem dX12_reckon_309 : decode cX12_reckon 309 = .ok (.iload 6, 2) := by decide +kernel
theorem dX12_reckon_311 : decode cX12_reckon 311 = .ok (.if_icmp .ge 49, 3) := by decide +kernel
theorem dX12_reckon_314 : decode cX12_reckon 314 = .ok (.aload_n 0, 1) := by decide +kernel
theorem dX12_reckon_315 : decode cX12_reckon 315 = .ok (.getfield 87, 3) := by decide +kernel
theorem dX12_reckon_318 : decode cX12_reckon 318 = .ok (.sipush 201, 3) := by decide +kernel
theorem dX12_reckon_321 : decode cX12_reckon 321 = .ok (.iload_n 1, 1) := by decide +kernel
theorem dX12_reckon_322 : decode cX12_reckon 322 = .ok (.imul, 1) := by decide +kernel
theorem dX12_reckon_323 : decode cX12_reckon 323 = .ok (.iload 7, 2) := by decide +kernel
theorem dX12_reckon_325 : decode cX12_reckon 325 = .ok (.iadd, 1) := by decide +kernel
theorem dX12_reckon_326 : decode cX12_reckon 326 = .ok (.aload_n 0, 1) := by decide +kernel
theorem dX12_reckon_327 : decode cX12_reckon 327 = .ok (.getfield 95, 3) := by decide +kernel
theorem dX12_reckon_330 : decode cX12_reckon 330 = .ok (.iload 7, 2) := by decide +kernel
theorem dX12_reckon_332 : decode cX12_reckon 332 = .ok (.laload, 1) := by decide +kernel
theorem dX12_reckon_333 : decode cX12_reckon 333 = .ok (.lastore, 1) := by decide +kernel
theorem dX12_reckon_334 : decode cX12_reckon 334 = .ok (.aload_n 0, 1) := by decide +kernel
theorem dX12_reckon_335 : decode cX12_reckon 335 = .ok (.getfield 91, 3) := by decide +kernel
theorem dX12_reckon_338 : decode cX12_reckon 338 = .ok (.sipush 201, 3) := by decide +kernel
theorem dX12_reckon_341 : decode cX12_reckon 341 = .ok (.iload_n 1, 1) := by decide +kernel
theorem dX12_reckon_342 : decode cX12_reckon 342 = .ok (.imul, 1) := by decide +kernel
theorem dX12_reckon_343 : decode cX12_reckon 343 = .ok (.iload 7, 2) := by decide +kernel
theorem dX12_reckon_345 : decode cX12_reckon 345 = .ok (.iadd, 1) := by decide +kernel
theorem dX12_reckon_346 : decode cX12_reckon 346 = .ok (.aload_n 0, 1) := by decide +kernel
theorem dX12_reckon_347 : decode cX12_reckon 347 = .ok (.getfield 98, 3) := by decide +kernel
theorem dX12_reckon_350 : decode cX12_reckon 350 = .ok (.iload 7, 2) := by decide +kernel
theorem dX12_reckon_352 : decode cX12_reckon 352 = .ok (.baload, 1) := by decide +kernel
theorem dX12_reckon_353 : decode cX12_reckon 353 = .ok (.bastore, 1) := by decide +kernel
theorem dX12_reckon_354 : decode cX12_reckon 354 = .ok (.iinc 7 1, 3) := by decide +kernel
theorem dX12_reckon_357 : decode cX12_reckon 357 = .ok (.goto (-50), 3) := by decide +kernel
theorem dX12_reckon_360 : decode cX12_reckon 360 = .ok (.aload_n 0, 1) := by decide +kernel
theorem dX12_reckon_361 : decode cX12_reckon 361 = .ok (.getfield 84, 3) := by decide +kernel
theorem dX12_reckon_364 : decode cX12_reckon 364 = .ok (.iload_n 1, 1) := by decide +kernel
theorem dX12_reckon_365 : decode cX12_reckon 365 = .ok (.iload 6, 2) := by decide +kernel
theorem dX12_reckon_367 : decode cX12_reckon 367 = .ok (.iastore, 1) := by decide +kernel
theorem dX12_reckon_368 : decode cX12_reckon 368 = .ok (.iload 6, 2) := by decide +kernel
theorem dX12_reckon_370 : decode cX12_reckon 370 = .ok (.ireturn, 1) := by decide +kernel
theorem dX12_place_0 : decode cX12_place 0 = .ok (.aload_n 0, 1) := by decide +kernel
theorem dX12_place_1 : decode cX12_place 1 = .ok (.iload_n 1, 1) := by decide +kernel
theorem dX12_place_2 : decode cX12_place 2 = .ok (.invokevirtual 254, 3) := by decide +kernel
theorem dX12_place_5 : decode cX12_place 5 = .ok (.ifCond .eq 51, 3) := by decide +kernel
theorem dX12_place_8 : decode cX12_place 8 = .ok (.iload_n 2, 1) := by decide +kernel
theorem dX12_place_9 : decode cX12_place 9 = .ok (.i2l, 1) := by decide +kernel
theorem dX12_place_10 : decode cX12_place 10 = .ok (.lconst 0, 1) := by decide +kernel
theorem dX12_place_11 : decode cX12_place 11 = .ok (.aload_n 0, 1) := by decide +kernel
theorem dX12_place_12 : decode cX12_place 12 = .ok (.getfield 84, 3) := by decide +kernel
theorem dX12_place_15 : decode cX12_place 15 = .ok (.iload_n 1, 1) := by decide +kernel
theorem dX12_place_16 : decode cX12_place 16 = .ok (.iaload, 1) := by decide +kernel
theorem dX12_place_17 : decode cX12_place 17 = .ok (.iconst 1, 1) := by decide +kernel
theorem dX12_place_18 : decode cX12_place 18 = .ok (.isub, 1) := by decide +kernel
theorem dX12_place_19 : decode cX12_place 19 = .ok (.i2l, 1) := by decide +kernel
theorem dX12_place_20 : decode cX12_place 20 = .ok (.invokestatic 115, 3) := by decide +kernel
theorem dX12_place_23 : decode cX12_place 23 = .ok (.ifCond .eq 33, 3) := by decide +kernel
theorem dX12_place_26 : decode cX12_place 26 = .ok (.aload_n 0, 1) := by decide +kernel
theorem dX12_place_27 : decode cX12_place 27 = .ok (.getfield 91, 3) := by decide +kernel
theorem dX12_place_30 : decode cX12_place 30 = .ok (.sipush 201, 3) := by decide +kernel
theorem dX12_place_33 : decode cX12_place 33 = .ok (.iload_n 1, 1) := by decide +kernel
theorem dX12_place_34 : decode cX12_place 34 = .ok (.imul, 1) := by decide +kernel
theorem dX12_place_35 : decode cX12_place 35 = .ok (.iload_n 2, 1) := by decide +kernel
theorem dX12_place_36 : decode cX12_place 36 = .ok (.iadd, 1) := by decide +kernel
theorem dX12_place_37 : decode cX12_place 37 = .ok (.baload, 1) := by decide +kernel
theorem dX12_place_38 : decode cX12_place 38 = .ok (.ifCond .ne 18, 3) := by decide +kernel
theorem dX12_place_41 : decode cX12_place 41 = .ok (.aload_n 0, 1) := by decide +kernel
theorem dX12_place_42 : decode cX12_place 42 = .ok (.getfield 87, 3) := by decide +kernel
theorem dX12_place_45 : decode cX12_place 45 = .ok (.sipush 201, 3) := by decide +kernel
theorem dX12_place_48 : decode cX12_place 48 = .ok (.iload_n 1, 1) := by decide +kernel
theorem dX12_place_49 : decode cX12_place 49 = .ok (.imul, 1) := by decide +kernel
theorem dX12_place_50 : decode cX12_place 50 = .ok (.iload_n 2, 1) := by decide +kernel
theorem dX12_place_51 : decode cX12_place 51 = .ok (.iadd, 1) := by decide +kernel
theorem dX12_place_52 : decode cX12_place 52 = .ok (.laload, 1) := by decide +kernel
theorem dX12_place_53 : decode cX12_place 53 = .ok (.goto 4, 3) := by decide +kernel
theorem dX12_place_56 : decode cX12_place 56 = .ok (.lconst 0, 1) := by decide +kernel
theorem dX12_place_57 : decode cX12_place 57 = .ok (.lreturn, 1) := by decide +kernel
theorem dX12_about_0 : decode cX12_about 0 = .ok (.aload_n 0, 1) := by decide +kernel
theorem dX12_about_1 : decode cX12_about 1 = .ok (.iload_n 1, 1) := by decide +kernel
theorem dX12_about_2 : decode cX12_about 2 = .ok (.invokevirtual 254, 3) := by decide +kernel
theorem dX12_about_5 : decode cX12_about 5 = .ok (.ifCond .eq 15, 3) := by decide +kernel
theorem dX12_about_8 : decode cX12_about 8 = .ok (.iload_n 2, 1) := by decide +kernel
theorem dX12_about_9 : decode cX12_about 9 = .ok (.i2l, 1) := by decide +kernel
theorem dX12_about_10 : decode cX12_about 10 = .ok (.lconst 0, 1) := by decide +kernel
theorem dX12_about_11 : decode cX12_about 11 = .ok (.ldc2_w 279, 3) := by decide +kernel
theorem dX12_about_14 : decode cX12_about 14 = .ok (.invokestatic 115, 3) := by decide +kernel
theorem dX12_about_17 : decode cX12_about 17 = .ok (.ifCond .ne 5, 3) := by decide +kernel
theorem dX12_about_20 : decode cX12_about 20 = .ok (.iconst (-1), 1) := by decide +kernel
theorem dX12_about_21 : decode cX12_about 21 = .ok (.ireturn, 1) := by decide +kernel
theorem dX12_about_22 : decode cX12_about 22 = .ok (.iconst 0, 1) := by decide +kernel
theorem dX12_about_23 : decode cX12_about 23 = .ok (.istore_n 3, 1) := by decide +kernel
theorem dX12_about_24 : decode cX12_about 24 = .ok (.bipush (-4), 2) := by decide +kernel
theorem dX12_about_26 : decode cX12_about 26 = .ok (.istore 4, 2) := by decide +kernel
theorem dX12_about_28 : decode cX12_about 28 = .ok (.bipush (-4), 2) := by decide +kernel
theorem dX12_about_30 : decode cX12_about 30 = .ok (.istore 5, 2) := by decide +kernel
theorem dX12_about_32 : decode cX12_about 32 = .ok (.bipush (-4), 2) := by decide +kernel
theorem dX12_about_34 : decode cX12_about 34 = .ok (.istore 6, 2) := by decide +kernel
theorem dX12_about_36 : decode cX12_about 36 = .ok (.iconst 0, 1) := by decide +kernel
theorem dX12_about_37 : decode cX12_about 37 = .ok (.istore 7, 2) := by decide +kernel
theorem dX12_about_39 : decode cX12_about 39 = .ok (.iload 7, 2) := by decide +kernel
theorem dX12_about_41 : decode cX12_about 41 = .ok (.aload_n 0, 1) := by decide +kernel
theorem dX12_about_42 : decode cX12_about 42 = .ok (.getfield 84, 3) := by decide +kernel
theorem dX12_about_45 : decode cX12_about 45 = .ok (.iload_n 1, 1) := by decide +kernel
theorem dX12_about_46 : decode cX12_about 46 = .ok (.iaload, 1) := by decide +kernel
theorem dX12_about_47 : decode cX12_about 47 = .ok (.if_icmp .ge 131, 3) := by decide +kernel
theorem dX12_about_50 : decode cX12_about 50 = .ok (.sipush 201, 3) := by decide +kernel
theorem dX12_about_53 : decode cX12_about 53 = .ok (.iload_n 1, 1) := by decide +kernel
theorem dX12_about_54 : decode cX12_about 54 = .ok (.imul, 1) := by decide +kernel
theorem dX12_about_55 : decode cX12_about 55 = .ok (.iload 7, 2) := by decide +kernel
theorem dX12_about_57 : decode cX12_about 57 = .ok (.iadd, 1) := by decide +kernel
theorem dX12_about_58 : decode cX12_about 58 = .ok (.istore 8, 2) := by decide +kernel
theorem dX12_about_60 : decode cX12_about 60 = .ok (.aload_n 0, 1) := by decide +kernel
theorem dX12_about_61 : decode cX12_about 61 = .ok (.getfield 91, 3) := by decide +kernel
theorem dX12_about_64 : decode cX12_about 64 = .ok (.iload 8, 2) := by decide +kernel
theorem dX12_about_66 : decode cX12_about 66 = .ok (.baload, 1) := by decide +kernel
theorem dX12_about_67 : decode cX12_about 67 = .ok (.ifCond .eq 25, 3) := by decide +kernel
theorem dX12_about_70 : decode cX12_about 70 = .ok (.iinc 3 1, 3) := by decide +kernel
theorem dX12_about_73 : decode cX12_about 73 = .ok (.iload 6, 2) := by decide +kernel
theorem dX12_about_75 : decode cX12_about 75 = .ok (.bipush (-4), 2) := by decide +kernel
theorem dX12_about_77 : decode cX12_about 77 = .ok (.if_icmp .ne 8, 3) := by decide +kernel
theorem dX12_about_80 : decode cX12_about 80 = .ok (.iload 7, 2) := by decide +kernel
theorem dX12_about_82 : decode cX12_about 82 = .ok (.goto 5, 3) := by decide +kernel
theorem dX12_about_85 : decode cX12_about 85 = .ok (.iload 6, 2) := by decide +kernel
theorem dX12_about_87 : decode cX12_about 87 = .ok (.istore 6, 2) := by decide +kernel
theorem dX12_about_89 : decode cX12_about 89 = .ok (.goto 83, 3) := by decide +kernel
theorem dX12_about_92 : decode cX12_about 92 = .ok (.iload 4, 2) := by decide +kernel
theorem dX12_about_94 : decode cX12_about 94 = .ok (.bipush (-4), 2) := by decide +kernel
theorem dX12_about_96 : decode cX12_about 96 = .ok (.if_icmp .eq 27, 3) := by decide +kernel
theorem dX12_about_99 : decode cX12_about 99 = .ok (.aload_n 0, 1) := by decide +kernel
theorem dX12_about_100 : decode cX12_about 100 = .ok (.getfield 87, 3) := by decide +kernel
theorem dX12_about_103 : decode cX12_about 103 = .ok (.iload 8, 2) := by decide +kernel
theorem dX12_about_105 : decode cX12_about 105 = .ok (.laload, 1) := by decide +kernel
theorem dX12_about_106 : decode cX12_about 106 = .ok (.aload_n 0, 1) := by decide +kernel
theorem dX12_about_107 : decode cX12_about 107 = .ok (.getfield 87, 3) := by decide +kernel
theorem dX12_about_110 : decode cX12_about 110 = .ok (.sipush 201, 3) := by decide +kernel
theorem dX12_about_113 : decode cX12_about 113 = .ok (.iload_n 1, 1) := by decide +kernel
theorem dX12_about_114 : decode cX12_about 114 = .ok (.imul, 1) := by decide +kernel
theorem dX12_about_115 : decode cX12_about 115 = .ok (.iload 4, 2) := by decide +kernel
theorem dX12_about_117 : decode cX12_about 117 = .ok (.iadd, 1) := by decide +kernel
theorem dX12_about_118 : decode cX12_about 118 = .ok (.laload, 1) := by decide +kernel
theorem dX12_about_119 : decode cX12_about 119 = .ok (.lcmp, 1) := by decide +kernel
theorem dX12_about_120 : decode cX12_about 120 = .ok (.ifCond .ge 8, 3) := by decide +kernel
theorem dX12_about_123 : decode cX12_about 123 = .ok (.iload 7, 2) := by decide +kernel
theorem dX12_about_125 : decode cX12_about 125 = .ok (.goto 5, 3) := by decide +kernel
theorem dX12_about_128 : decode cX12_about 128 = .ok (.iload 4, 2) := by decide +kernel
theorem dX12_about_130 : decode cX12_about 130 = .ok (.istore 4, 2) := by decide +kernel
theorem dX12_about_132 : decode cX12_about 132 = .ok (.iload 5, 2) := by decide +kernel
theorem dX12_about_134 : decode cX12_about 134 = .ok (.bipush (-4), 2) := by decide +kernel
theorem dX12_about_136 : decode cX12_about 136 = .ok (.if_icmp .eq 27, 3) := by decide +kernel
theorem dX12_about_139 : decode cX12_about 139 = .ok (.aload_n 0, 1) := by decide +kernel
theorem dX12_about_140 : decode cX12_about 140 = .ok (.getfield 87, 3) := by decide +kernel
theorem dX12_about_143 : decode cX12_about 143 = .ok (.iload 8, 2) := by decide +kernel
theorem dX12_about_145 : decode cX12_about 145 = .ok (.laload, 1) := by decide +kernel
theorem dX12_about_146 : decode cX12_about 146 = .ok (.aload_n 0, 1) := by decide +kernel
theorem dX12_about_147 : decode cX12_about 147 = .ok (.getfield 87, 3) := by decide +kernel
theorem dX12_about_150 : decode cX12_about 150 = .ok (.sipush 201, 3) := by decide +kernel
theorem dX12_about_153 : decode cX12_about 153 = .ok (.iload_n 1, 1) := by decide +kernel
theorem dX12_about_154 : decode cX12_about 154 = .ok (.imul, 1) := by decide +kernel
theorem dX12_about_155 : decode cX12_about 155 = .ok (.iload 5, 2) := by decide +kernel
theorem dX12_about_157 : decode cX12_about 157 = .ok (.iadd, 1) := by decide +kernel
theorem dX12_about_158 : decode cX12_about 158 = .ok (.laload, 1) := by decide +kernel
theorem dX12_about_159 : decode cX12_about 159 = .ok (.lcmp, 1) := by decide +kernel
theorem dX12_about_160 : decode cX12_about 160 = .ok (.ifCond .le 8, 3) := by decide +kernel
theorem dX12_about_163 : decode cX12_about 163 = .ok (.iload 7, 2) := by decide +kernel
theorem dX12_about_165 : decode cX12_about 165 = .ok (.goto 5, 3) := by decide +kernel
theorem dX12_about_168 : decode cX12_about 168 = .ok (.iload 5, 2) := by decide +kernel
theorem dX12_about_170 : decode cX12_about 170 = .ok (.istore 5, 2) := by decide +kernel
theorem dX12_about_172 : decode cX12_about 172 = .ok (.iinc 7 1, 3) := by decide +kernel
theorem dX12_about_175 : decode cX12_about 175 = .ok (.goto (-136), 3) := by decide +kernel
theorem dX12_about_178 : decode cX12_about 178 = .ok (.iload_n 2, 1) := by decide +kernel
theorem dX12_about_179 : decode cX12_about 179 = .ok (.ifCond .ne 12, 3) := by decide +kernel
theorem dX12_about_182 : decode cX12_about 182 = .ok (.aload_n 0, 1) := by decide +kernel
theorem dX12_about_183 : decode cX12_about 183 = .ok (.getfield 84, 3) := by decide +kernel
theorem dX12_about_186 : decode cX12_about 186 = .ok (.iload_n 1, 1) := by decide +kernel
theorem dX12_about_187 : decode cX12_about 187 = .ok (.iaload, 1) := by decide +kernel
theorem dX12_about_188 : decode cX12_about 188 = .ok (.goto 34, 3) := by decide +kernel
theorem dX12_about_191 : decode cX12_about 191 = .ok (.iload_n 2, 1) := by decide +kernel
theorem dX12_about_192 : decode cX12_about 192 = .ok (.iconst 1, 1) := by decide +kernel
theorem dX12_about_193 : decode cX12_about 193 = .ok (.if_icmp .ne 7, 3) := by decide +kernel
theorem dX12_about_196 : decode cX12_about 196 = .ok (.iload_n 3, 1) := by decide +kernel
theorem dX12_about_197 : decode cX12_about 197 = .ok (.goto 25, 3) := by decide +kernel
theorem dX12_about_200 : decode cX12_about 200 = .ok (.iload_n 2, 1) := by decide +kernel
theorem dX12_about_201 : decode cX12_about 201 = .ok (.iconst 2, 1) := by decide +kernel
theorem dX12_about_202 : decode cX12_about 202 = .ok (.if_icmp .ne 8, 3) := by decide +kernel
theorem dX12_about_205 : decode cX12_about 205 = .ok (.iload 4, 2) := by decide +kernel
theorem dX12_about_207 : decode cX12_about 207 = .ok (.goto 15, 3) := by decide +kernel
theorem dX12_about_210 : decode cX12_about 210 = .ok (.iload_n 2, 1) := by decide +kernel
theorem dX12_about_211 : decode cX12_about 211 = .ok (.iconst 3, 1) := by decide +kernel
theorem dX12_about_212 : decode cX12_about 212 = .ok (.if_icmp .ne 8, 3) := by decide +kernel
theorem dX12_about_215 : decode cX12_about 215 = .ok (.iload 5, 2) := by decide +kernel
theorem dX12_about_217 : decode cX12_about 217 = .ok (.goto 5, 3) := by decide +kernel
theorem dX12_about_220 : decode cX12_about 220 = .ok (.iload 6, 2) := by decide +kernel
theorem dX12_about_222 : decode cX12_about 222 = .ok (.ireturn, 1) := by decide +kernel
theorem dX12_total_0 : decode cX12_total 0 = .ok (.lconst 0, 1) := by decide +kernel
theorem dX12_total_1 : decode cX12_total 1 = .ok (.lstore_n 2, 1) := by decide +kernel
theorem dX12_total_2 : decode cX12_total 2 = .ok (.iconst 0, 1) := by decide +kernel
theorem dX12_total_3 : decode cX12_total 3 = .ok (.istore 4, 2) := by decide +kernel
theorem dX12_total_5 : decode cX12_total 5 = .ok (.aload_n 0, 1) := by decide +kernel
theorem dX12_total_6 : decode cX12_total 6 = .ok (.iload_n 1, 1) := by decide +kernel
theorem dX12_total_7 : decode cX12_total 7 = .ok (.invokevirtual 254, 3) := by decide +kernel
theorem dX12_total_10 : decode cX12_total 10 = .ok (.ifCond .eq 56, 3) := by decide +kernel
theorem dX12_total_13 : decode cX12_total 13 = .ok (.iload 4, 2) := by decide +kernel
theorem dX12_total_15 : decode cX12_total 15 = .ok (.aload_n 0, 1) := by decide +kernel
theorem dX12_total_16 : decode cX12_total 16 = .ok (.getfield 84, 3) := by decide +kernel
theorem dX12_total_19 : decode cX12_total 19 = .ok (.iload_n 1, 1) := by decide +kernel
theorem dX12_total_20 : decode cX12_total 20 = .ok (.iaload, 1) := by decide +kernel
theorem dX12_total_21 : decode cX12_total 21 = .ok (.if_icmp .ge 45, 3) := by decide +kernel
theorem dX12_total_24 : decode cX12_total 24 = .ok (.lload_n 2, 1) := by decide +kernel
theorem dX12_total_25 : decode cX12_total 25 = .ok (.aload_n 0, 1) := by decide +kernel
theorem dX12_total_26 : decode cX12_total 26 = .ok (.getfield 91, 3) := by decide +kernel
theorem dX12_total_29 : decode cX12_total 29 = .ok (.sipush 201, 3) := by decide +kernel
theorem dX12_total_32 : decode cX12_total 32 = .ok (.iload_n 1, 1) := by decide +kernel
theorem dX12_total_33 : decode cX12_total 33 = .ok (.imul, 1) := by decide +kernel
theorem dX12_total_34 : decode cX12_total 34 = .ok (.iload 4, 2) := by decide +kernel
theorem dX12_total_36 : decode cX12_total 36 = .ok (.iadd, 1) := by decide +kernel
theorem dX12_total_37 : decode cX12_total 37 = .ok (.baload, 1) := by decide +kernel
theorem dX12_total_38 : decode cX12_total 38 = .ok (.ifCond .eq 7, 3) := by decide +kernel
theorem dX12_total_41 : decode cX12_total 41 = .ok (.lconst 0, 1) := by decide +kernel
theorem dX12_total_42 : decode cX12_total 42 = .ok (.goto 16, 3) := by decide +kernel
theorem dX12_total_45 : decode cX12_total 45 = .ok (.aload_n 0, 1) := by decide +kernel
theorem dX12_total_46 : decode cX12_total 46 = .ok (.getfield 87, 3) := by decide +kernel
theorem dX12_total_49 : decode cX12_total 49 = .ok (.sipush 201, 3) := by decide +kernel
theorem dX12_total_52 : decode cX12_total 52 = .ok (.iload_n 1, 1) := by decide +kernel
theorem dX12_total_53 : decode cX12_total 53 = .ok (.imul, 1) := by decide +kernel
theorem dX12_total_54 : decode cX12_total 54 = .ok (.iload 4, 2) := by decide +kernel
theorem dX12_total_56 : decode cX12_total 56 = .ok (.iadd, 1) := by decide +kernel
theorem dX12_total_57 : decode cX12_total 57 = .ok (.laload, 1) := by decide +kernel
theorem dX12_total_58 : decode cX12_total 58 = .ok (.ladd, 1) := by decide +kernel
theorem dX12_total_59 : decode cX12_total 59 = .ok (.lstore_n 2, 1) := by decide +kernel
theorem dX12_total_60 : decode cX12_total 60 = .ok (.iinc 4 1, 3) := by decide +kernel
theorem dX12_total_63 : decode cX12_total 63 = .ok (.goto (-58), 3) := by decide +kernel
theorem dX12_total_66 : decode cX12_total 66 = .ok (.lload_n 2, 1) := by decide +kernel
theorem dX12_total_67 : decode cX12_total 67 = .ok (.lreturn, 1) := by decide +kernel
theorem dX12_turns_0 : decode cX12_turns 0 = .ok (.aload_n 0, 1) := by decide +kernel
theorem dX12_turns_1 : decode cX12_turns 1 = .ok (.iload_n 1, 1) := by decide +kernel
theorem dX12_turns_2 : decode cX12_turns 2 = .ok (.invokevirtual 254, 3) := by decide +kernel
theorem dX12_turns_5 : decode cX12_turns 5 = .ok (.ifCond .eq 16, 3) := by decide +kernel
theorem dX12_turns_8 : decode cX12_turns 8 = .ok (.iload 4, 2) := by decide +kernel
theorem dX12_turns_10 : decode cX12_turns 10 = .ok (.i2l, 1) := by decide +kernel
theorem dX12_turns_11 : decode cX12_turns 11 = .ok (.lconst 0, 1) := by decide +kernel
theorem dX12_turns_12 : decode cX12_turns 12 = .ok (.ldc2_w 279, 3) := by decide +kernel
theorem dX12_turns_15 : decode cX12_turns 15 = .ok (.invokestatic 115, 3) := by decide +kernel
theorem dX12_turns_18 : decode cX12_turns 18 = .ok (.ifCond .ne 5, 3) := by decide +kernel
theorem dX12_turns_21 : decode cX12_turns 21 = .ok (.iconst (-1), 1) := by decide +kernel
theorem dX12_turns_22 : decode cX12_turns 22 = .ok (.ireturn, 1) := by decide +kernel
theorem dX12_turns_23 : decode cX12_turns 23 = .ok (.iconst 0, 1) := by decide +kernel
theorem dX12_turns_24 : decode cX12_turns 24 = .ok (.istore 5, 2) := by decide +kernel
theorem dX12_turns_26 : decode cX12_turns 26 = .ok (.iconst 0, 1) := by decide +kernel
theorem dX12_turns_27 : decode cX12_turns 27 = .ok (.istore 6, 2) := by decide +kernel
theorem dX12_turns_29 : decode cX12_turns 29 = .ok (.iconst 0, 1) := by decide +kernel
theorem dX12_turns_30 : decode cX12_turns 30 = .ok (.istore 7, 2) := by decide +kernel
theorem dX12_turns_32 : decode cX12_turns 32 = .ok (.iconst 0, 1) := by decide +kernel
theorem dX12_turns_33 : decode cX12_turns 33 = .ok (.istore 8, 2) := by decide +kernel
theorem dX12_turns_35 : decode cX12_turns 35 = .ok (.iconst 0, 1) := by decide +kernel
theorem dX12_turns_36 : decode cX12_turns 36 = .ok (.istore 9, 2) := by decide +kernel
theorem dX12_turns_38 : decode cX12_turns 38 = .ok (.bipush (-4), 2) := by decide +kernel
theorem dX12_turns_40 : decode cX12_turns 40 = .ok (.istore 10, 2) := by decide +kernel
theorem dX12_turns_42 : decode cX12_turns 42 = .ok (.iconst 0, 1) := by decide +kernel
theorem dX12_turns_43 : decode cX12_turns 43 = .ok (.istore 11, 2) := by decide +kernel
theorem dX12_turns_45 : decode cX12_turns 45 = .ok (.iconst 0, 1) := by decide +kernel
theorem dX12_turns_46 : decode cX12_turns 46 = .ok (.istore 12, 2) := by decide +kernel
theorem dX12_turns_48 : decode cX12_turns 48 = .ok (.iload 12, 2) := by decide +kernel
theorem dX12_turns_50 : decode cX12_turns 50 = .ok (.aload_n 0, 1) := by decide +kernel
theorem dX12_turns_51 : decode cX12_turns 51 = .ok (.getfield 84, 3) := by decide +kernel
theorem dX12_turns_54 : decode cX12_turns 54 = .ok (.iload_n 1, 1) := by decide +kernel
theorem dX12_turns_55 : decode cX12_turns 55 = .ok (.iaload, 1) := by decide +kernel
theorem dX12_turns_56 : decode cX12_turns 56 = .ok (.if_icmp .ge 176, 3) := by decide +kernel
theorem dX12_turns_59 : decode cX12_turns 59 = .ok (.sipush 201, 3) := by decide +kernel
theorem dX12_turns_62 : decode cX12_turns 62 = .ok (.iload_n 1, 1) := by decide +kernel
theorem dX12_turns_63 : decode cX12_turns 63 = .ok (.imul, 1) := by decide +kernel
theorem dX12_turns_64 : decode cX12_turns 64 = .ok (.iload 12, 2) := by decide +kernel
theorem dX12_turns_66 : decode cX12_turns 66 = .ok (.iadd, 1) := by decide +kernel
theorem dX12_turns_67 : decode cX12_turns 67 = .ok (.istore 13, 2) := by decide +kernel
theorem dX12_turns_69 : decode cX12_turns 69 = .ok (.aload_n 0, 1) := by decide +kernel
theorem dX12_turns_70 : decode cX12_turns 70 = .ok (.getfield 91, 3) := by decide +kernel
theorem dX12_turns_73 : decode cX12_turns 73 = .ok (.iload 13, 2) := by decide +kernel
theorem dX12_turns_75 : decode cX12_turns 75 = .ok (.baload, 1) := by decide +kernel
theorem dX12_turns_76 : decode cX12_turns 76 = .ok (.ifCond .eq 10, 3) := by decide +kernel
theorem dX12_turns_79 : decode cX12_turns 79 = .ok (.bipush (-4), 2) := by decide +kernel
theorem dX12_turns_81 : decode cX12_turns 81 = .ok (.istore 10, 2) := by decide +kernel
theorem dX12_turns_83 : decode cX12_turns 83 = .ok (.goto 143, 3) := by decide +kernel
theorem dX12_turns_86 : decode cX12_turns 86 = .ok (.iload 12, 2) := by decide +kernel
theorem dX12_turns_88 : decode cX12_turns 88 = .ok (.ifCond .le 116, 3) := by decide +kernel
theorem dX12_turns_91 : decode cX12_turns 91 = .ok (.aload_n 0, 1) := by decide +kernel
theorem dX12_turns_92 : decode cX12_turns 92 = .ok (.getfield 91, 3) := by decide +kernel
theorem dX12_turns_95 : decode cX12_turns 95 = .ok (.iload 13, 2) := by decide +kernel
theorem dX12_turns_97 : decode cX12_turns 97 = .ok (.iconst 1, 1) := by decide +kernel
theorem dX12_turns_98 : decode cX12_turns 98 = .ok (.isub, 1) := by decide +kernel
theorem dX12_turns_99 : decode cX12_turns 99 = .ok (.baload, 1) := by decide +kernel
theorem dX12_turns_100 : decode cX12_turns 100 = .ok (.ifCond .ne 104, 3) := by decide +kernel
theorem dX12_turns_103 : decode cX12_turns 103 = .ok (.aload_n 0, 1) := by decide +kernel
theorem dX12_turns_104 : decode cX12_turns 104 = .ok (.getfield 87, 3) := by decide +kernel
theorem dX12_turns_107 : decode cX12_turns 107 = .ok (.iload 13, 2) := by decide +kernel
theorem dX12_turns_109 : decode cX12_turns 109 = .ok (.iconst 1, 1) := by decide +kernel
theorem dX12_turns_110 : decode cX12_turns 110 = .ok (.isub, 1) := by decide +kernel
theorem dX12_turns_111 : decode cX12_turns 111 = .ok (.laload, 1) := by decide +kernel
theorem dX12_turns_112 : decode cX12_turns 112 = .ok (.lload_n 2, 1) := by decide +kernel
theorem dX12_turns_113 : decode cX12_turns 113 = .ok (.lcmp, 1) := by decide +kernel
theorem dX12_turns_114 : decode cX12_turns 114 = .ok (.ifCond .ge 90, 3) := by decide +kernel
theorem dX12_turns_117 : decode cX12_turns 117 = .ok (.aload_n 0, 1) := by decide +kernel
theorem dX12_turns_118 : decode cX12_turns 118 = .ok (.getfield 87, 3) := by decide +kernel
theorem dX12_turns_121 : decode cX12_turns 121 = .ok (.iload 13, 2) := by decide +kernel
theorem dX12_turns_123 : decode cX12_turns 123 = .ok (.laload, 1) := by decide +kernel
theorem dX12_turns_124 : decode cX12_turns 124 = .ok (.lload_n 2, 1) := by decide +kernel
theorem dX12_turns_125 : decode cX12_turns 125 = .ok (.lcmp, 1) := by decide +kernel
theorem dX12_turns_126 : decode cX12_turns 126 = .ok (.ifCond .lt 78, 3) := by decide +kernel
theorem dX12_turns_129 : decode cX12_turns 129 = .ok (.iload 10, 2) := by decide +kernel
theorem dX12_turns_131 : decode cX12_turns 131 = .ok (.bipush (-4), 2) := by decide +kernel
theorem dX12_turns_133 : decode cX12_turns 133 = .ok (.if_icmp .eq 64, 3) := by decide +kernel
theorem dX12_turns_136 : decode cX12_turns 136 = .ok (.iload 12, 2) := by decide +kernel
theorem dX12_turns_138 : decode cX12_turns 138 = .ok (.iload 10, 2) := by decide +kernel
theorem dX12_turns_140 : decode cX12_turns 140 = .ok (.isub, 1) := by decide +kernel
theorem dX12_turns_141 : decode cX12_turns 141 = .ok (.istore 14, 2) := by decide +kernel
theorem dX12_turns_143 : decode cX12_turns 143 = .ok (.iload 5, 2) := by decide +kernel
theorem dX12_turns_145 : decode cX12_turns 145 = .ok (.ifCond .eq 10, 3) := by decide +kernel
theorem dX12_turns_148 : decode cX12_turns 148 = .ok (.iload 14, 2) := by decide +kernel
theorem dX12_turns_150 : decode cX12_turns 150 = .ok (.iload 6, 2) := by decide +kernel
theorem dX12_turns_152 : decode cX12_turns 152 = .ok (.if_icmp .ge 8, 3) := by decide +kernel
theorem dX12_turns_155 : decode cX12_turns 155 = .ok (.iload 14, 2) := by decide +kernel
theorem dX12_turns_157 : decode cX12_turns 157 = .ok (.goto 5, 3) := by decide +kernel
theorem dX12_turns_160 : decode cX12_turns 160 = .ok (.iload 6, 2) := by decide +kernel
theorem dX12_turns_162 : decode cX12_turns 162 = .ok (.istore 6, 2) := by decide +kernel
theorem dX12_turns_164 : decode cX12_turns 164 = .ok (.iload 14, 2) := by decide +kernel
theorem dX12_turns_166 : decode cX12_turns 166 = .ok (.iload 7, 2) := by decide +kernel
theorem dX12_turns_168 : decode cX12_turns 168 = .ok (.if_icmp .le 8, 3) := by decide +kernel
theorem dX12_turns_171 : decode cX12_turns 171 = .ok (.iload 14, 2) := by decide +kernel
theorem dX12_turns_173 : decode cX12_turns 173 = .ok (.goto 5, 3) := by decide +kernel
theorem dX12_turns_176 : decode cX12_turns 176 = .ok (.iload 7, 2) := by decide +kernel
theorem dX12_turns_178 : decode cX12_turns 178 = .ok (.istore 7, 2) := by decide +kernel
theorem dX12_turns_180 : decode cX12_turns 180 = .ok (.iinc 5 1, 3) := by decide +kernel
theorem dX12_turns_183 : decode cX12_turns 183 = .ok (.iload 8, 2) := by decide +kernel
theorem dX12_turns_185 : decode cX12_turns 185 = .ok (.iload 14, 2) := by decide +kernel
theorem dX12_turns_187 : decode cX12_turns 187 = .ok (.iadd, 1) := by decide +kernel
theorem dX12_turns_188 : decode cX12_turns 188 = .ok (.istore 8, 2) := by decide +kernel
theorem dX12_turns_190 : decode cX12_turns 190 = .ok (.iload 9, 2) := by decide +kernel
theorem dX12_turns_192 : decode cX12_turns 192 = .ok (.iload 11, 2) := by decide +kernel
theorem dX12_turns_194 : decode cX12_turns 194 = .ok (.iadd, 1) := by decide +kernel
theorem dX12_turns_195 : decode cX12_turns 195 = .ok (.istore 9, 2) := by decide +kernel
theorem dX12_turns_197 : decode cX12_turns 197 = .ok (.iload 12, 2) := by decide +kernel
theorem dX12_turns_199 : decode cX12_turns 199 = .ok (.istore 10, 2) := by decide +kernel
theorem dX12_turns_201 : decode cX12_turns 201 = .ok (.iconst 0, 1) := by decide +kernel
theorem dX12_turns_202 : decode cX12_turns 202 = .ok (.istore 11, 2) := by decide +kernel
theorem dX12_turns_204 : decode cX12_turns 204 = .ok (.iload 11, 2) := by decide +kernel
theorem dX12_turns_206 : decode cX12_turns 206 = .ok (.aload_n 0, 1) := by decide +kernel
theorem dX12_turns_207 : decode cX12_turns 207 = .ok (.getfield 87, 3) := by decide +kernel
theorem dX12_turns_210 : decode cX12_turns 210 = .ok (.iload 13, 2) := by decide +kernel
theorem dX12_turns_212 : decode cX12_turns 212 = .ok (.laload, 1) := by decide +kernel
theorem dX12_turns_213 : decode cX12_turns 213 = .ok (.lload_n 2, 1) := by decide +kernel
theorem dX12_turns_214 : decode cX12_turns 214 = .ok (.lcmp, 1) := by decide +kernel
theorem dX12_turns_215 : decode cX12_turns 215 = .ok (.ifCond .lt 7, 3) := by decide +kernel
theorem dX12_turns_218 : decode cX12_turns 218 = .ok (.iconst 1, 1) := by decide +kernel
theorem dX12_turns_219 : decode cX12_turns 219 = .ok (.goto 4, 3) := by decide +kernel
theorem dX12_turns_222 : decode cX12_turns 222 = .ok (.iconst 0, 1) := by decide +kernel
theorem dX12_turns_223 : decode cX12_turns 223 = .ok (.iadd, 1) := by decide +kernel
theorem dX12_turns_224 : decode cX12_turns 224 = .ok (.istore 11, 2) := by decide +kernel
theorem dX12_turns_226 : decode cX12_turns 226 = .ok (.iinc 12 1, 3) := by decide +kernel
theorem dX12_turns_229 : decode cX12_turns 229 = .ok (.goto (-181), 3) := by decide +kernel
theorem dX12_turns_232 : decode cX12_turns 232 = .ok (.iload 4, 2) := by decide +kernel
theorem dX12_turns_234 : decode cX12_turns 234 = .ok (.ifCond .ne 8, 3) := by decide +kernel
theorem dX12_turns_237 : decode cX12_turns 237 = .ok (.iload 5, 2) := by decide +kernel
theorem dX12_turns_239 : decode cX12_turns 239 = .ok (.goto 38, 3) := by decide +kernel
theorem dX12_turns_242 : decode cX12_turns 242 = .ok (.iload 4, 2) := by decide +kernel
theorem dX12_turns_244 : decode cX12_turns 244 = .ok (.iconst 1, 1) := by decide +kernel
theorem dX12_turns_245 : decode cX12_turns 245 = .ok (.if_icmp .ne 8, 3) := by decide +kernel
theorem dX12_turns_248 : decode cX12_turns 248 = .ok (.iload 6, 2) := by decide +kernel
theorem dX12_turns_250 : decode cX12_turns 250 = .ok (.goto 27, 3) := by decide +kernel
theorem dX12_turns_253 : decode cX12_turns 253 = .ok (.iload 4, 2) := by decide +kernel
theorem dX12_turns_255 : decode cX12_turns 255 = .ok (.iconst 2, 1) := by decide +kernel
theorem dX12_turns_256 : decode cX12_turns 256 = .ok (.if_icmp .ne 8, 3) := by decide +kernel
theorem dX12_turns_259 : decode cX12_turns 259 = .ok (.iload 7, 2) := by decide +kernel
theorem dX12_turns_261 : decode cX12_turns 261 = .ok (.goto 16, 3) := by decide +kernel
theorem dX12_turns_264 : decode cX12_turns 264 = .ok (.iload 4, 2) := by decide +kernel
theorem dX12_turns_266 : decode cX12_turns 266 = .ok (.iconst 3, 1) := by decide +kernel
theorem dX12_turns_267 : decode cX12_turns 267 = .ok (.if_icmp .ne 8, 3) := by decide +kernel
theorem dX12_turns_270 : decode cX12_turns 270 = .ok (.iload 8, 2) := by decide +kernel
theorem dX12_turns_272 : decode cX12_turns 272 = .ok (.goto 5, 3) := by decide +kernel
theorem dX12_turns_275 : decode cX12_turns 275 = .ok (.iload 9, 2) := by decide +kernel
theorem dX12_turns_277 : decode cX12_turns 277 = .ok (.ireturn, 1) := by decide +kernel
theorem dX12_down_0 : decode cX12_down 0 = .ok (.lload_n 0, 1) := by decide +kernel
theorem dX12_down_1 : decode cX12_down 1 = .ok (.iload_n 2, 1) := by decide +kernel
theorem dX12_down_2 : decode cX12_down 2 = .ok (.i2l, 1) := by decide +kernel
theorem dX12_down_3 : decode cX12_down 3 = .ok (.ldiv, 1) := by decide +kernel
theorem dX12_down_4 : decode cX12_down 4 = .ok (.lstore_n 3, 1) := by decide +kernel
theorem dX12_down_5 : decode cX12_down 5 = .ok (.lload_n 0, 1) := by decide +kernel
theorem dX12_down_6 : decode cX12_down 6 = .ok (.iload_n 2, 1) := by decide +kernel
theorem dX12_down_7 : decode cX12_down 7 = .ok (.i2l, 1) := by decide +kernel
theorem dX12_down_8 : decode cX12_down 8 = .ok (.lrem, 1) := by decide +kernel
theorem dX12_down_9 : decode cX12_down 9 = .ok (.lconst 0, 1) := by decide +kernel
theorem dX12_down_10 : decode cX12_down 10 = .ok (.lcmp, 1) := by decide +kernel
theorem dX12_down_11 : decode cX12_down 11 = .ok (.ifCond .ge 9, 3) := by decide +kernel
theorem dX12_down_14 : decode cX12_down 14 = .ok (.lload_n 3, 1) := by decide +kernel
theorem dX12_down_15 : decode cX12_down 15 = .ok (.lconst 1, 1) := by decide +kernel
theorem dX12_down_16 : decode cX12_down 16 = .ok (.lsub, 1) := by decide +kernel
theorem dX12_down_17 : decode cX12_down 17 = .ok (.goto 4, 3) := by decide +kernel
theorem dX12_down_20 : decode cX12_down 20 = .ok (.lload_n 3, 1) := by decide +kernel
theorem dX12_down_21 : decode cX12_down 21 = .ok (.lreturn, 1) := by decide +kernel
theorem dX12_eye_0 : decode cX12_eye 0 = .ok (.aload_n 0, 1) := by decide +kernel
theorem dX12_eye_1 : decode cX12_eye 1 = .ok (.iload_n 1, 1) := by decide +kernel
theorem dX12_eye_2 : decode cX12_eye 2 = .ok (.invokevirtual 254, 3) := by decide +kernel
theorem dX12_eye_5 : decode cX12_eye 5 = .ok (.ifCond .eq 59, 3) := by decide +kernel
theorem dX12_eye_8 : decode cX12_eye 8 = .ok (.iload_n 2, 1) := by decide +kernel
theorem dX12_eye_9 : decode cX12_eye 9 = .ok (.ifCond .lt 55, 3) := by decide +kernel
theorem dX12_eye_12 : decode cX12_eye 12 = .ok (.iload_n 3, 1) := by decide +kernel
theorem dX12_eye_13 : decode cX12_eye 13 = .ok (.i2l, 1) := by decide +kernel
theorem dX12_eye_14 : decode cX12_eye 14 = .ok (.lconst 1, 1) := by decide +kernel
theorem dX12_eye_15 : decode cX12_eye 15 = .ok (.ldc2_w 281, 3) := by decide +kernel
theorem dX12_eye_18 : decode cX12_eye 18 = .ok (.invokestatic 115, 3) := by decide +kernel
theorem dX12_eye_21 : decode cX12_eye 21 = .ok (.ifCond .eq 43, 3) := by decide +kernel
theorem dX12_eye_24 : decode cX12_eye 24 = .ok (.iload 4, 2) := by decide +kernel
theorem dX12_eye_26 : decode cX12_eye 26 = .ok (.i2l, 1) := by decide +kernel
theorem dX12_eye_27 : decode cX12_eye 27 = .ok (.lconst 0, 1) := by decide +kernel
theorem dX12_eye_28 : decode cX12_eye 28 = .ok (.iload_n 3, 1) := by decide +kernel
theorem dX12_eye_29 : decode cX12_eye 29 = .ok (.iconst 1, 1) := by decide +kernel
theorem dX12_eye_30 : decode cX12_eye 30 = .ok (.isub, 1) := by decide +kernel
theorem dX12_eye_31 : decode cX12_eye 31 = .ok (.i2l, 1) := by decide +kernel
theorem dX12_eye_32 : decode cX12_eye 32 = .ok (.invokestatic 115, 3) := by decide +kernel
theorem dX12_eye_35 : decode cX12_eye 35 = .ok (.ifCond .eq 29, 3) := by decide +kernel
theorem dX12_eye_38 : decode cX12_eye 38 = .ok (.iload 7, 2) := by decide +kernel
theorem dX12_eye_40 : decode cX12_eye 40 = .ok (.i2l, 1) := by decide +kernel
theorem dX12_eye_41 : decode cX12_eye 41 = .ok (.lconst 1, 1) := by decide +kernel
theorem dX12_eye_42 : decode cX12_eye 42 = .ok (.ldc2_w 273, 3) := by decide +kernel
theorem dX12_eye_45 : decode cX12_eye 45 = .ok (.invokestatic 115, 3) := by decide +kernel
theorem dX12_eye_48 : decode cX12_eye 48 = .ok (.ifCond .eq 16, 3) := by decide +kernel
theorem dX12_eye_51 : decode cX12_eye 51 = .ok (.iload 8, 2) := by decide +kernel
theorem dX12_eye_53 : decode cX12_eye 53 = .ok (.i2l, 1) := by decide +kernel
theorem dX12_eye_54 : decode cX12_eye 54 = .ok (.lconst 0, 1) := by decide +kernel
theorem dX12_eye_55 : decode cX12_eye 55 = .ok (.ldc2_w 283, 3) := by decide +kernel
theorem dX12_eye_58 : decode cX12_eye 58 = .ok (.invokestatic 115, 3) := by decide +kernel
theorem dX12_eye_61 : decode cX12_eye 61 = .ok (.ifCond .ne 5, 3) := by decide +kernel
theorem dX12_eye_64 : decode cX12_eye 64 = .ok (.iconst (-1), 1) := by decide +kernel
theorem dX12_eye_65 : decode cX12_eye 65 = .ok (.ireturn, 1) := by decide +kernel
theorem dX12_eye_66 : decode cX12_eye 66 = .ok (.iconst 0, 1) := by decide +kernel
theorem dX12_eye_67 : decode cX12_eye 67 = .ok (.istore 9, 2) := by decide +kernel
theorem dX12_eye_69 : decode cX12_eye 69 = .ok (.iload_n 2, 1) := by decide +kernel
theorem dX12_eye_70 : decode cX12_eye 70 = .ok (.istore 10, 2) := by decide +kernel
theorem dX12_eye_72 : decode cX12_eye 72 = .ok (.iload 10, 2) := by decide +kernel
theorem dX12_eye_74 : decode cX12_eye 74 = .ok (.aload_n 0, 1) := by decide +kernel
theorem dX12_eye_75 : decode cX12_eye 75 = .ok (.getfield 84, 3) := by decide +kernel
theorem dX12_eye_78 : decode cX12_eye 78 = .ok (.iload_n 1, 1) := by decide +kernel
theorem dX12_eye_79 : decode cX12_eye 79 = .ok (.iaload, 1) := by decide +kernel
theorem dX12_eye_80 : decode cX12_eye 80 = .ok (.if_icmp .ge 72, 3) := by decide +kernel
theorem dX12_eye_83 : decode cX12_eye 83 = .ok (.sipush 201, 3) := by decide +kernel
theorem dX12_eye_86 : decode cX12_eye 86 = .ok (.iload_n 1, 1) := by decide +kernel
theorem dX12_eye_87 : decode cX12_eye 87 = .ok (.imul, 1) := by decide +kernel
theorem dX12_eye_88 : decode cX12_eye 88 = .ok (.iload 10, 2) := by decide +kernel
theorem dX12_eye_90 : decode cX12_eye 90 = .ok (.iadd, 1) := by decide +kernel
theorem dX12_eye_91 : decode cX12_eye 91 = .ok (.istore 11, 2) := by decide +kernel
theorem dX12_eye_93 : decode cX12_eye 93 = .ok (.iload 9, 2) := by decide +kernel
theorem dX12_eye_95 : decode cX12_eye 95 = .ok (.iload 10, 2) := by decide +kernel
theorem dX12_eye_97 : decode cX12_eye 97 = .ok (.iload_n 2, 1) := by decide +kernel
theorem dX12_eye_98 : decode cX12_eye 98 = .ok (.isub, 1) := by decide +kernel
theorem dX12_eye_99 : decode cX12_eye 99 = .ok (.iload_n 3, 1) := by decide +kernel
theorem dX12_eye_100 : decode cX12_eye 100 = .ok (.irem, 1) := by decide +kernel
theorem dX12_eye_101 : decode cX12_eye 101 = .ok (.iload 4, 2) := by decide +kernel
theorem dX12_eye_103 : decode cX12_eye 103 = .ok (.if_icmp .ne 39, 3) := by decide +kernel
theorem dX12_eye_106 : decode cX12_eye 106 = .ok (.aload_n 0, 1) := by decide +kernel
theorem dX12_eye_107 : decode cX12_eye 107 = .ok (.getfield 91, 3) := by decide +kernel
theorem dX12_eye_110 : decode cX12_eye 110 = .ok (.iload 11, 2) := by decide +kernel
theorem dX12_eye_112 : decode cX12_eye 112 = .ok (.baload, 1) := by decide +kernel
theorem dX12_eye_113 : decode cX12_eye 113 = .ok (.ifCond .ne 29, 3) := by decide +kernel
theorem dX12_eye_116 : decode cX12_eye 116 = .ok (.aload_n 0, 1) := by decide +kernel
theorem dX12_eye_117 : decode cX12_eye 117 = .ok (.getfield 87, 3) := by decide +kernel
theorem dX12_eye_120 : decode cX12_eye 120 = .ok (.iload 11, 2) := by decide +kernel
theorem dX12_eye_122 : decode cX12_eye 122 = .ok (.laload, 1) := by decide +kernel
theorem dX12_eye_123 : decode cX12_eye 123 = .ok (.lload 5, 2) := by decide +kernel
theorem dX12_eye_125 : decode cX12_eye 125 = .ok (.lsub, 1) := by decide +kernel
theorem dX12_eye_126 : decode cX12_eye 126 = .ok (.iload 7, 2) := by decide +kernel
theorem dX12_eye_128 : decode cX12_eye 128 = .ok (.invokestatic 285, 3) := by decide +kernel
theorem dX12_eye_131 : decode cX12_eye 131 = .ok (.iload 8, 2) := by decide +kernel
theorem dX12_eye_133 : decode cX12_eye 133 = .ok (.i2l, 1) := by decide +kernel
theorem dX12_eye_134 : decode cX12_eye 134 = .ok (.lcmp, 1) := by decide +kernel
theorem dX12_eye_135 : decode cX12_eye 135 = .ok (.ifCond .ne 7, 3) := by decide +kernel
theorem dX12_eye_138 : decode cX12_eye 138 = .ok (.iconst 1, 1) := by decide +kernel
theorem dX12_eye_139 : decode cX12_eye 139 = .ok (.goto 4, 3) := by decide +kernel
theorem dX12_eye_142 : decode cX12_eye 142 = .ok (.iconst 0, 1) := by decide +kernel
theorem dX12_eye_143 : decode cX12_eye 143 = .ok (.iadd, 1) := by decide +kernel
theorem dX12_eye_144 : decode cX12_eye 144 = .ok (.istore 9, 2) := by decide +kernel
theorem dX12_eye_146 : decode cX12_eye 146 = .ok (.iinc 10 1, 3) := by decide +kernel
theorem dX12_eye_149 : decode cX12_eye 149 = .ok (.goto (-77), 3) := by decide +kernel
theorem dX12_eye_152 : decode cX12_eye 152 = .ok (.iload 9, 2) := by decide +kernel
theorem dX12_eye_154 : decode cX12_eye 154 = .ok (.ireturn, 1) := by decide +kernel
theorem dX12_bit_0 : decode cX12_bit 0 = .ok (.aload_n 0, 1) := by decide +kernel
theorem dX12_bit_1 : decode cX12_bit 1 = .ok (.iload_n 1, 1) := by decide +kernel
theorem dX12_bit_2 : decode cX12_bit 2 = .ok (.iload_n 2, 1) := by decide +kernel
theorem dX12_bit_3 : decode cX12_bit 3 = .ok (.iload_n 3, 1) := by decide +kernel
theorem dX12_bit_4 : decode cX12_bit 4 = .ok (.invokevirtual 266, 3) := by decide +kernel
theorem dX12_bit_7 : decode cX12_bit 7 = .ok (.ifCond .ge 7, 3) := by decide +kernel
theorem dX12_bit_10 : decode cX12_bit 10 = .ok (.iconst 0, 1) := by decide +kernel
theorem dX12_bit_11 : decode cX12_bit 11 = .ok (.goto 4, 3) := by decide +kernel
theorem dX12_bit_14 : decode cX12_bit 14 = .ok (.iconst 1, 1) := by decide +kernel
theorem dX12_bit_15 : decode cX12_bit 15 = .ok (.ireturn, 1) := by decide +kernel
theorem dX12_gets_0 : decode cX12_gets 0 = .ok (.aload_n 0, 1) := by decide +kernel
theorem dX12_gets_1 : decode cX12_gets 1 = .ok (.getfield 101, 3) := by decide +kernel
theorem dX12_gets_4 : decode cX12_gets 4 = .ok (.aload_n 0, 1) := by decide +kernel
theorem dX12_gets_5 : decode cX12_gets 5 = .ok (.getfield 289, 3) := by decide +kernel
theorem dX12_gets_8 : decode cX12_gets 8 = .ok (.iload_n 1, 1) := by decide +kernel
theorem dX12_gets_9 : decode cX12_gets 9 = .ok (.iastore, 1) := by decide +kernel
theorem dX12_gets_10 : decode cX12_gets 10 = .ok (.aload_n 0, 1) := by decide +kernel
theorem dX12_gets_11 : decode cX12_gets 11 = .ok (.getfield 104, 3) := by decide +kernel
theorem dX12_gets_14 : decode cX12_gets 14 = .ok (.aload_n 0, 1) := by decide +kernel
theorem dX12_gets_15 : decode cX12_gets 15 = .ok (.getfield 289, 3) := by decide +kernel
theorem dX12_gets_18 : decode cX12_gets 18 = .ok (.iload_n 2, 1) := by decide +kernel
theorem dX12_gets_19 : decode cX12_gets 19 = .ok (.iastore, 1) := by decide +kernel
theorem dX12_gets_20 : decode cX12_gets 20 = .ok (.aload_n 0, 1) := by decide +kernel
theorem dX12_gets_21 : decode cX12_gets 21 = .ok (.dup, 1) := by decide +kernel
theorem dX12_gets_22 : decode cX12_gets 22 = .ok (.getfield 289, 3) := by decide +kernel
theorem dX12_gets_25 : decode cX12_gets 25 = .ok (.iconst 1, 1) := by decide +kernel
theorem dX12_gets_26 : decode cX12_gets 26 = .ok (.iadd, 1) := by decide +kernel
theorem dX12_gets_27 : decode cX12_gets 27 = .ok (.putfield 289, 3) := by decide +kernel
theorem dX12_gets_30 : decode cX12_gets 30 = .ok (.return_, 1) := by decide +kernel
theorem dX12_bytes_0 : decode cX12_bytes 0 = .ok (.aload_n 0, 1) := by decide +kernel
theorem dX12_bytes_1 : decode cX12_bytes 1 = .ok (.iload_n 1, 1) := by decide +kernel
theorem dX12_bytes_2 : decode cX12_bytes 2 = .ok (.invokevirtual 261, 3) := by decide +kernel
theorem dX12_bytes_5 : decode cX12_bytes 5 = .ok (.ifCond .eq 29, 3) := by decide +kernel
theorem dX12_bytes_8 : decode cX12_bytes 8 = .ok (.iload_n 2, 1) := by decide +kernel
theorem dX12_bytes_9 : decode cX12_bytes 9 = .ok (.i2l, 1) := by decide +kernel
theorem dX12_bytes_10 : decode cX12_bytes 10 = .ok (.lconst 0, 1) := by decide +kernel
theorem dX12_bytes_11 : decode cX12_bytes 11 = .ok (.ldc2_w 257, 3) := by decide +kernel
theorem dX12_bytes_14 : decode cX12_bytes 14 = .ok (.invokestatic 115, 3) := by decide +kernel
theorem dX12_bytes_17 : decode cX12_bytes 17 = .ok (.ifCond .eq 17, 3) := by decide +kernel
theorem dX12_bytes_20 : decode cX12_bytes 20 = .ok (.iload_n 3, 1) := by decide +kernel
theorem dX12_bytes_21 : decode cX12_bytes 21 = .ok (.i2l, 1) := by decide +kernel
theorem dX12_bytes_22 : decode cX12_bytes 22 = .ok (.ldc2_w 264, 3) := by decide +kernel
theorem dX12_bytes_25 : decode cX12_bytes 25 = .ok (.ldc2_w 292, 3) := by decide +kernel
theorem dX12_bytes_28 : decode cX12_bytes 28 = .ok (.invokestatic 115, 3) := by decide +kernel
theorem dX12_bytes_31 : decode cX12_bytes 31 = .ok (.ifCond .ne 5, 3) := by decide +kernel
theorem dX12_bytes_34 : decode cX12_bytes 34 = .ok (.iconst (-1), 1) := by decide +kernel
theorem dX12_bytes_35 : decode cX12_bytes 35 = .ok (.ireturn, 1) := by decide +kernel
theorem dX12_bytes_36 : decode cX12_bytes 36 = .ok (.aload_n 0, 1) := by decide +kernel
theorem dX12_bytes_37 : decode cX12_bytes 37 = .ok (.iconst 0, 1) := by decide +kernel
theorem dX12_bytes_38 : decode cX12_bytes 38 = .ok (.putfield 289, 3) := by decide +kernel
theorem dX12_bytes_41 : decode cX12_bytes 41 = .ok (.aload_n 0, 1) := by decide +kernel
theorem dX12_bytes_42 : decode cX12_bytes 42 = .ok (.bipush (-4), 2) := by decide +kernel
theorem dX12_bytes_44 : decode cX12_bytes 44 = .ok (.putfield 107, 3) := by decide +kernel
theorem dX12_bytes_47 : decode cX12_bytes 47 = .ok (.iconst 0, 1) := by decide +kernel
theorem dX12_bytes_48 : decode cX12_bytes 48 = .ok (.istore 4, 2) := by decide +kernel
theorem dX12_bytes_50 : decode cX12_bytes 50 = .ok (.aload_n 0, 1) := by decide +kernel
theorem dX12_bytes_51 : decode cX12_bytes 51 = .ok (.getfield 289, 3) := by decide +kernel
theorem dX12_bytes_54 : decode cX12_bytes 54 = .ok (.bipush 20, 2) := by decide +kernel
theorem dX12_bytes_56 : decode cX12_bytes 56 = .ok (.if_icmp .ge 192, 3) := by decide +kernel
theorem dX12_bytes_59 : decode cX12_bytes 59 = .ok (.aload_n 0, 1) := by decide +kernel
theorem dX12_bytes_60 : decode cX12_bytes 60 = .ok (.getfield 107, 3) := by decide +kernel
theorem dX12_bytes_63 : decode cX12_bytes 63 = .ok (.bipush (-4), 2) := by decide +kernel
theorem dX12_bytes_65 : decode cX12_bytes 65 = .ok (.if_icmp .ne 183, 3) := by decide +kernel
theorem dX12_bytes_68 : decode cX12_bytes 68 = .ok (.iload 4, 2) := by decide +kernel
theorem dX12_bytes_70 : decode cX12_bytes 70 = .ok (.iload_n 3, 1) := by decide +kernel
theorem dX12_bytes_71 : decode cX12_bytes 71 = .ok (.iconst 2, 1) := by decide +kernel
theorem dX12_bytes_72 : decode cX12_bytes 72 = .ok (.idiv, 1) := by decide +kernel
theorem dX12_bytes_73 : decode cX12_bytes 73 = .ok (.iadd, 1) := by decide +kernel
theorem dX12_bytes_74 : decode cX12_bytes 74 = .ok (.bipush 9, 2) := by decide +kernel
theorem dX12_bytes_76 : decode cX12_bytes 76 = .ok (.iload_n 3, 1) := by decide +kernel
theorem dX12_bytes_77 : decode cX12_bytes 77 = .ok (.imul, 1) := by decide +kernel
theorem dX12_bytes_78 : decode cX12_bytes 78 = .ok (.iadd, 1) := by decide +kernel
theorem dX12_bytes_79 : decode cX12_bytes 79 = .ok (.aload_n 0, 1) := by decide +kernel
theorem dX12_bytes_80 : decode cX12_bytes 80 = .ok (.getfield 63, 3) := by decide +kernel
theorem dX12_bytes_83 : decode cX12_bytes 83 = .ok (.iload_n 1, 1) := by decide +kernel
theorem dX12_bytes_84 : decode cX12_bytes 84 = .ok (.iaload, 1) := by decide +kernel
theorem dX12_bytes_85 : decode cX12_bytes 85 = .ok (.if_icmp .ge 163, 3) := by decide +kernel
theorem dX12_bytes_88 : decode cX12_bytes 88 = .ok (.aload_n 0, 1) := by decide +kernel
theorem dX12_bytes_89 : decode cX12_bytes 89 = .ok (.iload_n 1, 1) := by decide +kernel
theorem dX12_bytes_90 : decode cX12_bytes 90 = .ok (.iload_n 2, 1) := by decide +kernel
theorem dX12_bytes_91 : decode cX12_bytes 91 = .ok (.iload 4, 2) := by decide +kernel
theorem dX12_bytes_93 : decode cX12_bytes 93 = .ok (.invokevirtual 294, 3) := by decide +kernel
theorem dX12_bytes_96 : decode cX12_bytes 96 = .ok (.ifCond .ne 41, 3) := by decide +kernel
theorem dX12_bytes_99 : decode cX12_bytes 99 = .ok (.iload 4, 2) := by decide +kernel
theorem dX12_bytes_101 : decode cX12_bytes 101 = .ok (.ifCond .eq 17, 3) := by decide +kernel
theorem dX12_bytes_104 : decode cX12_bytes 104 = .ok (.aload_n 0, 1) := by decide +kernel
theorem dX12_bytes_105 : decode cX12_bytes 105 = .ok (.iload_n 1, 1) := by decide +kernel
theorem dX12_bytes_106 : decode cX12_bytes 106 = .ok (.iload_n 2, 1) := by decide +kernel
theorem dX12_bytes_107 : decode cX12_bytes 107 = .ok (.iload 4, 2) := by decide +kernel
theorem dX12_bytes_109 : decode cX12_bytes 109 = .ok (.iconst 1, 1) := by decide +kernel
theorem dX12_bytes_110 : decode cX12_bytes 110 = .ok (.isub, 1) := by decide +kernel
theorem dX12_bytes_111 : decode cX12_bytes 111 = .ok (.invokevirtual 294, 3) := by decide +kernel
theorem dX12_bytes_114 : decode cX12_bytes 114 = .ok (.iconst 1, 1) := by decide +kernel
theorem dX12_bytes_115 : decode cX12_bytes 115 = .ok (.if_icmp .ne 22, 3) := by decide +kernel
theorem dX12_bytes_118 : decode cX12_bytes 118 = .ok (.aload_n 0, 1) := by decide +kernel
theorem dX12_bytes_119 : decode cX12_bytes 119 = .ok (.iload_n 1, 1) := by decide +kernel
theorem dX12_bytes_120 : decode cX12_bytes 120 = .ok (.iload_n 2, 1) := by decide +kernel
theorem dX12_bytes_121 : decode cX12_bytes 121 = .ok (.iload 4, 2) := by decide +kernel
theorem dX12_bytes_123 : decode cX12_bytes 123 = .ok (.iload_n 3, 1) := by decide +kernel
theorem dX12_bytes_124 : decode cX12_bytes 124 = .ok (.iconst 2, 1) := by decide +kernel
theorem dX12_bytes_125 : decode cX12_bytes 125 = .ok (.idiv, 1) := by decide +kernel
theorem dX12_bytes_126 : decode cX12_bytes 126 = .ok (.iadd, 1) := by decide +kernel
theorem dX12_bytes_127 : decode cX12_bytes 127 = .ok (.invokevirtual 294, 3) := by decide +kernel
theorem dX12_bytes_130 : decode cX12_bytes 130 = .ok (.ifCond .ne 7, 3) := by decide +kernel
theorem dX12_bytes_133 : decode cX12_bytes 133 = .ok (.iconst 1, 1) := by decide +kernel
theorem dX12_bytes_134 : decode cX12_bytes 134 = .ok (.goto 4, 3) := by decide +kernel
theorem dX12_bytes_137 : decode cX12_bytes 137 = .ok (.iconst 0, 1) := by decide +kernel
theorem dX12_bytes_138 : decode cX12_bytes 138 = .ok (.istore 5, 2) := by decide +kernel
theorem dX12_bytes_140 : decode cX12_bytes 140 = .ok (.iload 5, 2) := by decide +kernel
theorem dX12_bytes_142 : decode cX12_bytes 142 = .ok (.ifCond .eq 100, 3) := by decide +kernel
theorem dX12_bytes_145 : decode cX12_bytes 145 = .ok (.iconst 0, 1) := by decide +kernel
theorem dX12_bytes_146 : decode cX12_bytes 146 = .ok (.istore 6, 2) := by decide +kernel
theorem dX12_bytes_148 : decode cX12_bytes 148 = .ok (.iconst 1, 1) := by decide +kernel
theorem dX12_bytes_149 : decode cX12_bytes 149 = .ok (.istore 7, 2) := by decide +kernel
theorem dX12_bytes_151 : decode cX12_bytes 151 = .ok (.iload 7, 2) := by decide +kernel
theorem dX12_bytes_153 : decode cX12_bytes 153 = .ok (.bipush 9, 2) := by decide +kernel
theorem dX12_bytes_155 : decode cX12_bytes 155 = .ok (.if_icmp .ge 36, 3) := by decide +kernel
theorem dX12_bytes_158 : decode cX12_bytes 158 = .ok (.iload 6, 2) := by decide +kernel
theorem dX12_bytes_160 : decode cX12_bytes 160 = .ok (.aload_n 0, 1) := by decide +kernel
theorem dX12_bytes_161 : decode cX12_bytes 161 = .ok (.iload_n 1, 1) := by decide +kernel
theorem dX12_bytes_162 : decode cX12_bytes 162 = .ok (.iload_n 2, 1) := by decide +kernel
theorem dX12_bytes_163 : decode cX12_bytes 163 = .ok (.iload 4, 2) := by decide +kernel
theorem dX12_bytes_165 : decode cX12_bytes 165 = .ok (.iload_n 3, 1) := by decide +kernel
theorem dX12_bytes_166 : decode cX12_bytes 166 = .ok (.iconst 2, 1) := by decide +kernel
theorem dX12_bytes_167 : decode cX12_bytes 167 = .ok (.idiv, 1) := by decide +kernel
theorem dX12_bytes_168 : decode cX12_bytes 168 = .ok (.iadd, 1) := by decide +kernel
theorem dX12_bytes_169 : decode cX12_bytes 169 = .ok (.iload_n 3, 1) := by decide +kernel
theorem dX12_bytes_170 : decode cX12_bytes 170 = .ok (.iload 7, 2) := by decide +kernel
theorem dX12_bytes_172 : decode cX12_bytes 172 = .ok (.imul, 1) := by decide +kernel
theorem dX12_bytes_173 : decode cX12_bytes 173 = .ok (.iadd, 1) := by decide +kernel
theorem dX12_bytes_174 : decode cX12_bytes 174 = .ok (.invokevirtual 294, 3) := by decide +kernel
theorem dX12_bytes_177 : decode cX12_bytes 177 = .ok (.iload 7, 2) := by decide +kernel
theorem dX12_bytes_179 : decode cX12_bytes 179 = .ok (.iconst 1, 1) := by decide +kernel
theorem dX12_bytes_180 : decode cX12_bytes 180 = .ok (.isub, 1) := by decide +kernel
theorem dX12_bytes_181 : decode cX12_bytes 181 = .ok (.ishl, 1) := by decide +kernel
theorem dX12_bytes_182 : decode cX12_bytes 182 = .ok (.ior, 1) := by decide +kernel
theorem dX12_bytes_183 : decode cX12_bytes 183 = .ok (.istore 6, 2) := by decide +kernel
theorem dX12_bytes_185 : decode cX12_bytes 185 = .ok (.iinc 7 1, 3) := by decide +kernel
theorem dX12_bytes_188 : decode cX12_bytes 188 = .ok (.goto (-37), 3) := by decide +kernel
theorem dX12_bytes_191 : decode cX12_bytes 191 = .ok (.iload 4, 2) := by decide +kernel
theorem dX12_bytes_193 : decode cX12_bytes 193 = .ok (.iload_n 3, 1) := by decide +kernel
theorem dX12_bytes_194 : decode cX12_bytes 194 = .ok (.iconst 2, 1) := by decide +kernel
theorem dX12_bytes_195 : decode cX12_bytes 195 = .ok (.idiv, 1) := by decide +kernel
theorem dX12_bytes_196 : decode cX12_bytes 196 = .ok (.iadd, 1) := by decide +kernel
theorem dX12_bytes_197 : decode cX12_bytes 197 = .ok (.bipush 9, 2) := by decide +kernel
theorem dX12_bytes_199 : decode cX12_bytes 199 = .ok (.iload_n 3, 1) := by decide +kernel
theorem dX12_bytes_200 : decode cX12_bytes 200 = .ok (.imul, 1) := by decide +kernel
theorem dX12_bytes_201 : decode cX12_bytes 201 = .ok (.iadd, 1) := by decide +kernel
theorem dX12_bytes_202 : decode cX12_bytes 202 = .ok (.istore 7, 2) := by decide +kernel
theorem dX12_bytes_204 : decode cX12_bytes 204 = .ok (.aload_n 0, 1) := by decide +kernel
theorem dX12_bytes_205 : decode cX12_bytes 205 = .ok (.iload_n 1, 1) := by decide +kernel
theorem dX12_bytes_206 : decode cX12_bytes 206 = .ok (.iload_n 2, 1) := by decide +kernel
theorem dX12_bytes_207 : decode cX12_bytes 207 = .ok (.iload 7, 2) := by decide +kernel
theorem dX12_bytes_209 : decode cX12_bytes 209 = .ok (.invokevirtual 294, 3) := by decide +kernel
theorem dX12_bytes_212 : decode cX12_bytes 212 = .ok (.iconst 1, 1) := by decide +kernel
theorem dX12_bytes_213 : decode cX12_bytes 213 = .ok (.if_icmp .ne 14, 3) := by decide +kernel
theorem dX12_bytes_216 : decode cX12_bytes 216 = .ok (.aload_n 0, 1) := by decide +kernel
theorem dX12_bytes_217 : decode cX12_bytes 217 = .ok (.iload 6, 2) := by decide +kernel
theorem dX12_bytes_219 : decode cX12_bytes 219 = .ok (.iload 4, 2) := by decide +kernel
theorem dX12_bytes_221 : decode cX12_bytes 221 = .ok (.invokevirtual 297, 3) := by decide +kernel
theorem dX12_bytes_224 : decode cX12_bytes 224 = .ok (.goto 9, 3) := by decide +kernel
theorem dX12_bytes_227 : decode cX12_bytes 227 = .ok (.aload_n 0, 1) := by decide +kernel
theorem dX12_bytes_228 : decode cX12_bytes 228 = .ok (.iload 7, 2) := by decide +kernel
theorem dX12_bytes_230 : decode cX12_bytes 230 = .ok (.putfield 107, 3) := by decide +kernel
theorem dX12_bytes_233 : decode cX12_bytes 233 = .ok (.iload 7, 2) := by decide +kernel
theorem dX12_bytes_235 : decode cX12_bytes 235 = .ok (.iconst 1, 1) := by decide +kernel
theorem dX12_bytes_236 : decode cX12_bytes 236 = .ok (.iadd, 1) := by decide +kernel
theorem dX12_bytes_237 : decode cX12_bytes 237 = .ok (.istore 4, 2) := by decide +kernel
theorem dX12_bytes_239 : decode cX12_bytes 239 = .ok (.goto 6, 3) := by decide +kernel
theorem dX12_bytes_242 : decode cX12_bytes 242 = .ok (.iinc 4 1, 3) := by decide +kernel
theorem dX12_bytes_245 : decode cX12_bytes 245 = .ok (.goto (-195), 3) := by decide +kernel
theorem dX12_bytes_248 : decode cX12_bytes 248 = .ok (.aload_n 0, 1) := by decide +kernel
theorem dX12_bytes_249 : decode cX12_bytes 249 = .ok (.getfield 289, 3) := by decide +kernel
theorem dX12_bytes_252 : decode cX12_bytes 252 = .ok (.ireturn, 1) := by decide +kernel
theorem dX12_wires_0 : decode cX12_wires 0 = .ok (.aload_n 0, 1) := by decide +kernel
theorem dX12_wires_1 : decode cX12_wires 1 = .ok (.iload_n 1, 1) := by decide +kernel
theorem dX12_wires_2 : decode cX12_wires 2 = .ok (.invokevirtual 261, 3) := by decide +kernel
theorem dX12_wires_5 : decode cX12_wires 5 = .ok (.ifCond .eq 32, 3) := by decide +kernel
theorem dX12_wires_8 : decode cX12_wires 8 = .ok (.iload_n 2, 1) := by decide +kernel
theorem dX12_wires_9 : decode cX12_wires 9 = .ok (.i2l, 1) := by decide +kernel
theorem dX12_wires_10 : decode cX12_wires 10 = .ok (.lconst 0, 1) := by decide +kernel
theorem dX12_wires_11 : decode cX12_wires 11 = .ok (.ldc2_w 257, 3) := by decide +kernel
theorem dX12_wires_14 : decode cX12_wires 14 = .ok (.invokestatic 115, 3) := by decide +kernel
theorem dX12_wires_17 : decode cX12_wires 17 = .ok (.ifCond .eq 20, 3) := by decide +kernel
theorem dX12_wires_20 : decode cX12_wires 20 = .ok (.iload_n 3, 1) := by decide +kernel
theorem dX12_wires_21 : decode cX12_wires 21 = .ok (.i2l, 1) := by decide +kernel
theorem dX12_wires_22 : decode cX12_wires 22 = .ok (.lconst 0, 1) := by decide +kernel
theorem dX12_wires_23 : decode cX12_wires 23 = .ok (.ldc2_w 257, 3) := by decide +kernel
theorem dX12_wires_26 : decode cX12_wires 26 = .ok (.invokestatic 115, 3) := by decide +kernel
theorem dX12_wires_29 : decode cX12_wires 29 = .ok (.ifCond .eq 8, 3) := by decide +kernel
theorem dX12_wires_32 : decode cX12_wires 32 = .ok (.iload_n 2, 1) := by decide +kernel
theorem dX12_wires_33 : decode cX12_wires 33 = .ok (.iload_n 3, 1) := by decide +kernel
theorem dX12_wires_34 : decode cX12_wires 34 = .ok (.if_icmp .ne 5, 3) := by decide +kernel
theorem dX12_wires_37 : decode cX12_wires 37 = .ok (.iconst (-1), 1) := by decide +kernel
theorem dX12_wires_38 : decode cX12_wires 38 = .ok (.ireturn, 1) := by decide +kernel
theorem dX12_wires_39 : decode cX12_wires 39 = .ok (.aload_n 0, 1) := by decide +kernel
theorem dX12_wires_40 : decode cX12_wires 40 = .ok (.iconst 0, 1) := by decide +kernel
theorem dX12_wires_41 : decode cX12_wires 41 = .ok (.putfield 289, 3) := by decide +kernel
theorem dX12_wires_44 : decode cX12_wires 44 = .ok (.aload_n 0, 1) := by decide +kernel
theorem dX12_wires_45 : decode cX12_wires 45 = .ok (.bipush (-4), 2) := by decide +kernel
theorem dX12_wires_47 : decode cX12_wires 47 = .ok (.putfield 107, 3) := by decide +kernel
theorem dX12_wires_50 : decode cX12_wires 50 = .ok (.iconst 0, 1) := by decide +kernel
theorem dX12_wires_51 : decode cX12_wires 51 = .ok (.istore 4, 2) := by decide +kernel
theorem dX12_wires_53 : decode cX12_wires 53 = .ok (.iconst 0, 1) := by decide +kernel
theorem dX12_wires_54 : decode cX12_wires 54 = .ok (.istore 5, 2) := by decide +kernel
theorem dX12_wires_56 : decode cX12_wires 56 = .ok (.iconst 0, 1) := by decide +kernel
theorem dX12_wires_57 : decode cX12_wires 57 = .ok (.istore 6, 2) := by decide +kernel
theorem dX12_wires_59 : decode cX12_wires 59 = .ok (.iconst 0, 1) := by decide +kernel
theorem dX12_wires_60 : decode cX12_wires 60 = .ok (.istore 7, 2) := by decide +kernel
theorem dX12_wires_62 : decode cX12_wires 62 = .ok (.iconst 1, 1) := by decide +kernel
theorem dX12_wires_63 : decode cX12_wires 63 = .ok (.istore 8, 2) := by decide +kernel
theorem dX12_wires_65 : decode cX12_wires 65 = .ok (.iload 8, 2) := by decide +kernel
theorem dX12_wires_67 : decode cX12_wires 67 = .ok (.aload_n 0, 1) := by decide +kernel
theorem dX12_wires_68 : decode cX12_wires 68 = .ok (.getfield 63, 3) := by decide +kernel
theorem dX12_wires_71 : decode cX12_wires 71 = .ok (.iload_n 1, 1) := by decide +kernel
theorem dX12_wires_72 : decode cX12_wires 72 = .ok (.iaload, 1) := by decide +kernel
theorem dX12_wires_73 : decode cX12_wires 73 = .ok (.if_icmp .ge 217, 3) := by decide +kernel
theorem dX12_wires_76 : decode cX12_wires 76 = .ok (.aload_n 0, 1) := by decide +kernel
theorem dX12_wires_77 : decode cX12_wires 77 = .ok (.getfield 289, 3) := by decide +kernel
theorem dX12_wires_80 : decode cX12_wires 80 = .ok (.bipush 20, 2) := by decide +kernel
theorem dX12_wires_82 : decode cX12_wires 82 = .ok (.if_icmp .ge 208, 3) := by decide +kernel
theorem dX12_wires_85 : decode cX12_wires 85 = .ok (.aload_n 0, 1) := by decide +kernel
theorem dX12_wires_86 : decode cX12_wires 86 = .ok (.getfield 107, 3) := by decide +kernel
theorem dX12_wires_89 : decode cX12_wires 89 = .ok (.bipush (-4), 2) := by decide +kernel
theorem dX12_wires_91 : decode cX12_wires 91 = .ok (.if_icmp .ne 199, 3) := by decide +kernel
theorem dX12_wires_94 : decode cX12_wires 94 = .ok (.aload_n 0, 1) := by decide +kernel
theorem dX12_wires_95 : decode cX12_wires 95 = .ok (.iload_n 1, 1) := by decide +kernel
theorem dX12_wires_96 : decode cX12_wires 96 = .ok (.iload_n 2, 1) := by decide +kernel
theorem dX12_wires_97 : decode cX12_wires 97 = .ok (.iload 8, 2) := by decide +kernel
theorem dX12_wires_99 : decode cX12_wires 99 = .ok (.invokevirtual 294, 3) := by decide +kernel
theorem dX12_wires_102 : decode cX12_wires 102 = .ok (.istore 9, 2) := by decide +kernel
theorem dX12_wires_104 : decode cX12_wires 104 = .ok (.aload_n 0, 1) := by decide +kernel
theorem dX12_wires_105 : decode cX12_wires 105 = .ok (.iload_n 1, 1) := by decide +kernel
theorem dX12_wires_106 : decode cX12_wires 106 = .ok (.iload_n 2, 1) := by decide +kernel
theorem dX12_wires_107 : decode cX12_wires 107 = .ok (.iload 8, 2) := by decide +kernel
theorem dX12_wires_109 : decode cX12_wires 109 = .ok (.iconst 1, 1) := by decide +kernel
theorem dX12_wires_110 : decode cX12_wires 110 = .ok (.isub, 1) := by decide +kernel
theorem dX12_wires_111 : decode cX12_wires 111 = .ok (.invokevirtual 294, 3) := by decide +kernel
theorem dX12_wires_114 : decode cX12_wires 114 = .ok (.istore 10, 2) := by decide +kernel
theorem dX12_wires_116 : decode cX12_wires 116 = .ok (.aload_n 0, 1) := by decide +kernel
theorem dX12_wires_117 : decode cX12_wires 117 = .ok (.iload_n 1, 1) := by decide +kernel
theorem dX12_wires_118 : decode cX12_wires 118 = .ok (.iload_n 3, 1) := by decide +kernel
theorem dX12_wires_119 : decode cX12_wires 119 = .ok (.iload 8, 2) := by decide +kernel
theorem dX12_wires_121 : decode cX12_wires 121 = .ok (.invokevirtual 294, 3) := by decide +kernel
theorem dX12_wires_124 : decode cX12_wires 124 = .ok (.istore 11, 2) := by decide +kernel
theorem dX12_wires_126 : decode cX12_wires 126 = .ok (.aload_n 0, 1) := by decide +kernel
theorem dX12_wires_127 : decode cX12_wires 127 = .ok (.iload_n 1, 1) := by decide +kernel
theorem dX12_wires_128 : decode cX12_wires 128 = .ok (.iload_n 3, 1) := by decide +kernel
theorem dX12_wires_129 : decode cX12_wires 129 = .ok (.iload 8, 2) := by decide +kernel
theorem dX12_wires_131 : decode cX12_wires 131 = .ok (.iconst 1, 1) := by decide +kernel
theorem dX12_wires_132 : decode cX12_wires 132 = .ok (.isub, 1) := by decide +kernel
theorem dX12_wires_133 : decode cX12_wires 133 = .ok (.invokevirtual 294, 3) := by decide +kernel
theorem dX12_wires_136 : decode cX12_wires 136 = .ok (.istore 12, 2) := by decide +kernel
theorem dX12_wires_138 : decode cX12_wires 138 = .ok (.iload 9, 2) := by decide +kernel
theorem dX12_wires_140 : decode cX12_wires 140 = .ok (.iconst 1, 1) := by decide +kernel
theorem dX12_wires_141 : decode cX12_wires 141 = .ok (.if_icmp .ne 28, 3) := by decide +kernel
theorem dX12_wires_144 : decode cX12_wires 144 = .ok (.iload 10, 2) := by decide +kernel
theorem dX12_wires_146 : decode cX12_wires 146 = .ok (.iconst 1, 1) := by decide +kernel
theorem dX12_wires_147 : decode cX12_wires 147 = .ok (.if_icmp .ne 22, 3) := by decide +kernel
theorem dX12_wires_150 : decode cX12_wires 150 = .ok (.iload 11, 2) := by decide +kernel
theorem dX12_wires_152 : decode cX12_wires 152 = .ok (.iload 12, 2) := by decide +kernel
theorem dX12_wires_154 : decode cX12_wires 154 = .ok (.if_icmp .ge 15, 3) := by decide +kernel
theorem dX12_wires_157 : decode cX12_wires 157 = .ok (.iconst 1, 1) := by decide +kernel
theorem dX12_wires_158 : decode cX12_wires 158 = .ok (.istore 4, 2) := by decide +kernel
theorem dX12_wires_160 : decode cX12_wires 160 = .ok (.iconst 0, 1) := by decide +kernel
theorem dX12_wires_161 : decode cX12_wires 161 = .ok (.istore 5, 2) := by decide +kernel
theorem dX12_wires_163 : decode cX12_wires 163 = .ok (.iconst 0, 1) := by decide +kernel
theorem dX12_wires_164 : decode cX12_wires 164 = .ok (.istore 6, 2) := by decide +kernel
theorem dX12_wires_166 : decode cX12_wires 166 = .ok (.goto 118, 3) := by decide +kernel
theorem dX12_wires_169 : decode cX12_wires 169 = .ok (.iload 9, 2) := by decide +kernel
theorem dX12_wires_171 : decode cX12_wires 171 = .ok (.iconst 1, 1) := by decide +kernel
theorem dX12_wires_172 : decode cX12_wires 172 = .ok (.if_icmp .ne 39, 3) := by decide +kernel
theorem dX12_wires_175 : decode cX12_wires 175 = .ok (.iload 10, 2) := by decide +kernel
theorem dX12_wires_177 : decode cX12_wires 177 = .ok (.iconst 1, 1) := by decide +kernel
theorem dX12_wires_178 : decode cX12_wires 178 = .ok (.if_icmp .ne 33, 3) := by decide +kernel
theorem dX12_wires_181 : decode cX12_wires 181 = .ok (.iload 11, 2) := by decide +kernel
theorem dX12_wires_183 : decode cX12_wires 183 = .ok (.iload 12, 2) := by decide +kernel
theorem dX12_wires_185 : decode cX12_wires 185 = .ok (.if_icmp .le 26, 3) := by decide +kernel
theorem dX12_wires_188 : decode cX12_wires 188 = .ok (.iload 4, 2) := by decide +kernel
theorem dX12_wires_190 : decode cX12_wires 190 = .ok (.ifCond .eq 9, 3) := by decide +kernel
theorem dX12_wires_193 : decode cX12_wires 193 = .ok (.iload 5, 2) := by decide +kernel
theorem dX12_wires_195 : decode cX12_wires 195 = .ok (.iconst 1, 1) := by decide +kernel
theorem dX12_wires_196 : decode cX12_wires 196 = .ok (.if_icmp .le 9, 3) := by decide +kernel
theorem dX12_wires_199 : decode cX12_wires 199 = .ok (.aload_n 0, 1) := by decide +kernel
theorem dX12_wires_200 : decode cX12_wires 200 = .ok (.iload 8, 2) := by decide +kernel
theorem dX12_wires_202 : decode cX12_wires 202 = .ok (.putfield 107, 3) := by decide +kernel
theorem dX12_wires_205 : decode cX12_wires 205 = .ok (.iconst 0, 1) := by decide +kernel
theorem dX12_wires_206 : decode cX12_wires 206 = .ok (.istore 4, 2) := by decide +kernel
theorem dX12_wires_208 : decode cX12_wires 208 = .ok (.goto 76, 3) := by decide +kernel
theorem dX12_wires_211 : decode cX12_wires 211 = .ok (.iload 9, 2) := by decide +kernel
theorem dX12_wires_213 : decode cX12_wires 213 = .ok (.iconst 1, 1) := by decide +kernel
theorem dX12_wires_214 : decode cX12_wires 214 = .ok (.if_icmp .ne 70, 3) := by decide +kernel
theorem dX12_wires_217 : decode cX12_wires 217 = .ok (.iload 10, 2) := by decide +kernel
theorem dX12_wires_219 : decode cX12_wires 219 = .ok (.ifCond .ne 65, 3) := by decide +kernel
theorem dX12_wires_222 : decode cX12_wires 222 = .ok (.iload 4, 2) := by decide +kernel
theorem dX12_wires_224 : decode cX12_wires 224 = .ok (.ifCond .eq 60, 3) := by decide +kernel
theorem dX12_wires_227 : decode cX12_wires 227 = .ok (.iload 5, 2) := by decide +kernel
theorem dX12_wires_229 : decode cX12_wires 229 = .ok (.ifCond .ne 8, 3) := by decide +kernel
theorem dX12_wires_232 : decode cX12_wires 232 = .ok (.iload 8, 2) := by decide +kernel
theorem dX12_wires_234 : decode cX12_wires 234 = .ok (.goto 5, 3) := by decide +kernel
theorem dX12_wires_237 : decode cX12_wires 237 = .ok (.iload 7, 2) := by decide +kernel
theorem dX12_wires_239 : decode cX12_wires 239 = .ok (.istore 7, 2) := by decide +kernel
theorem dX12_wires_241 : decode cX12_wires 241 = .ok (.iload 5, 2) := by decide +kernel
theorem dX12_wires_243 : decode cX12_wires 243 = .ok (.bipush 8, 2) := by decide +kernel
theorem dX12_wires_245 : decode cX12_wires 245 = .ok (.if_icmp .ge 18, 3) := by decide +kernel
theorem dX12_wires_248 : decode cX12_wires 248 = .ok (.iload 6, 2) := by decide +kernel
theorem dX12_wires_250 : decode cX12_wires 250 = .ok (.iconst 1, 1) := by decide +kernel
theorem dX12_wires_251 : decode cX12_wires 251 = .ok (.ishl, 1) := by decide +kernel
theorem dX12_wires_252 : decode cX12_wires 252 = .ok (.iload 11, 2) := by decide +kernel
theorem dX12_wires_254 : decode cX12_wires 254 = .ok (.ior, 1) := by decide +kernel
theorem dX12_wires_255 : decode cX12_wires 255 = .ok (.istore 6, 2) := by decide +kernel
theorem dX12_wires_257 : decode cX12_wires 257 = .ok (.iinc 5 1, 3) := by decide +kernel
theorem dX12_wires_260 : decode cX12_wires 260 = .ok (.goto 24, 3) := by decide +kernel
theorem dX12_wires_263 : decode cX12_wires 263 = .ok (.aload_n 0, 1) := by decide +kernel
theorem dX12_wires_264 : decode cX12_wires 264 = .ok (.iload 6, 2) := by decide +kernel
theorem dX12_wires_266 : decode cX12_wires 266 = .ok (.sipush 256, 3) := by decide +kernel
theorem dX12_wires_269 : decode cX12_wires 269 = .ok (.iload 11, 2) := by decide +kernel
theorem dX12_wires_271 : decode cX12_wires 271 = .ok (.imul, 1) := by decide +kernel
theorem dX12_wires_272 : decode cX12_wires 272 = .ok (.iadd, 1) := by decide +kernel
theorem dX12_wires_273 : decode cX12_wires 273 = .ok (.iload 7, 2) := by decide +kernel
theorem dX12_wires_275 : decode cX12_wires 275 = .ok (.invokevirtual 297, 3) := by decide +kernel
theorem dX12_wires_278 : decode cX12_wires 278 = .ok (.iconst 0, 1) := by decide +kernel
theorem dX12_wires_279 : decode cX12_wires 279 = .ok (.istore 5, 2) := by decide +kernel
theorem dX12_wires_281 : decode cX12_wires 281 = .ok (.iconst 0, 1) := by decide +kernel
theorem dX12_wires_282 : decode cX12_wires 282 = .ok (.istore 6, 2) := by decide +kernel
theorem dX12_wires_284 : decode cX12_wires 284 = .ok (.iinc 8 1, 3) := by decide +kernel
theorem dX12_wires_287 : decode cX12_wires 287 = .ok (.goto (-222), 3) := by decide +kernel
theorem dX12_wires_290 : decode cX12_wires 290 = .ok (.aload_n 0, 1) := by decide +kernel
theorem dX12_wires_291 : decode cX12_wires 291 = .ok (.getfield 289, 3) := by decide +kernel
theorem dX12_wires_294 : decode cX12_wires 294 = .ok (.ireturn, 1) := by decide +kernel
theorem dX12_got_0 : decode cX12_got 0 = .ok (.iload_n 1, 1) := by decide +kernel
theorem dX12_got_1 : decode cX12_got 1 = .ok (.i2l, 1) := by decide +kernel
theorem dX12_got_2 : decode cX12_got 2 = .ok (.lconst 0, 1) := by decide +kernel
theorem dX12_got_3 : decode cX12_got 3 = .ok (.aload_n 0, 1) := by decide +kernel
theorem dX12_got_4 : decode cX12_got 4 = .ok (.getfield 289, 3) := by decide +kernel
theorem dX12_got_7 : decode cX12_got 7 = .ok (.iconst 1, 1) := by decide +kernel
theorem dX12_got_8 : decode cX12_got 8 = .ok (.isub, 1) := by decide +kernel
theorem dX12_got_9 : decode cX12_got 9 = .ok (.i2l, 1) := by decide +kernel
theorem dX12_got_10 : decode cX12_got 10 = .ok (.invokestatic 115, 3) := by decide +kernel
theorem dX12_got_13 : decode cX12_got 13 = .ok (.ifCond .eq 12, 3) := by decide +kernel
theorem dX12_got_16 : decode cX12_got 16 = .ok (.aload_n 0, 1) := by decide +kernel
theorem dX12_got_17 : decode cX12_got 17 = .ok (.getfield 101, 3) := by decide +kernel
theorem dX12_got_20 : decode cX12_got 20 = .ok (.iload_n 1, 1) := by decide +kernel
theorem dX12_got_21 : decode cX12_got 21 = .ok (.iaload, 1) := by decide +kernel
theorem dX12_got_22 : decode cX12_got 22 = .ok (.goto 4, 3) := by decide +kernel
theorem dX12_got_25 : decode cX12_got 25 = .ok (.iconst (-1), 1) := by decide +kernel
theorem dX12_got_26 : decode cX12_got 26 = .ok (.ireturn, 1) := by decide +kernel
theorem dX12_when_0 : decode cX12_when 0 = .ok (.iload_n 1, 1) := by decide +kernel
theorem dX12_when_1 : decode cX12_when 1 = .ok (.iconst (-1), 1) := by decide +kernel
theorem dX12_when_2 : decode cX12_when 2 = .ok (.if_icmp .ne 10, 3) := by decide +kernel
theorem dX12_when_5 : decode cX12_when 5 = .ok (.aload_n 0, 1) := by decide +kernel
theorem dX12_when_6 : decode cX12_when 6 = .ok (.getfield 107, 3) := by decide +kernel
theorem dX12_when_9 : decode cX12_when 9 = .ok (.goto 29, 3) := by decide +kernel
theorem dX12_when_12 : decode cX12_when 12 = .ok (.iload_n 1, 1) := by decide +kernel
theorem dX12_when_13 : decode cX12_when 13 = .ok (.i2l, 1) := by decide +kernel
theorem dX12_when_14 : decode cX12_when 14 = .ok (.lconst 0, 1) := by decide +kernel
theorem dX12_when_15 : decode cX12_when 15 = .ok (.aload_n 0, 1) := by decide +kernel
theorem dX12_when_16 : decode cX12_when 16 = .ok (.getfield 289, 3) := by decide +kernel
theorem dX12_when_19 : decode cX12_when 19 = .ok (.iconst 1, 1) := by decide +kernel
theorem dX12_when_20 : decode cX12_when 20 = .ok (.isub, 1) := by decide +kernel
theorem dX12_when_21 : decode cX12_when 21 = .ok (.i2l, 1) := by decide +kernel
theorem dX12_when_22 : decode cX12_when 22 = .ok (.invokestatic 115, 3) := by decide +kernel
theorem dX12_when_25 : decode cX12_when 25 = .ok (.ifCond .eq 12, 3) := by decide +kernel
theorem dX12_when_28 : decode cX12_when 28 = .ok (.aload_n 0, 1) := by decide +kernel
theorem dX12_when_29 : decode cX12_when 29 = .ok (.getfield 104, 3) := by decide +kernel
theorem dX12_when_32 : decode cX12_when 32 = .ok (.iload_n 1, 1) := by decide +kernel
theorem dX12_when_33 : decode cX12_when 33 = .ok (.iaload, 1) := by decide +kernel
theorem dX12_when_34 : decode cX12_when 34 = .ok (.goto 4, 3) := by decide +kernel
theorem dX12_when_37 : decode cX12_when 37 = .ok (.iconst (-1), 1) := by decide +kernel
theorem dX12_when_38 : decode cX12_when 38 = .ok (.ireturn, 1) := by decide +kernel
theorem dX12_frame_0 : decode cX12_frame 0 = .ok (.iload_n 1, 1) := by decide +kernel
theorem dX12_frame_1 : decode cX12_frame 1 = .ok (.ifCond .ge 5, 3) := by decide +kernel
theorem dX12_frame_4 : decode cX12_frame 4 = .ok (.iconst (-1), 1) := by decide +kernel
theorem dX12_frame_5 : decode cX12_frame 5 = .ok (.ireturn, 1) := by decide +kernel
theorem dX12_frame_6 : decode cX12_frame 6 = .ok (.iload_n 1, 1) := by decide +kernel
theorem dX12_frame_7 : decode cX12_frame 7 = .ok (.istore_n 2, 1) := by decide +kernel
theorem dX12_frame_8 : decode cX12_frame 8 = .ok (.iload_n 2, 1) := by decide +kernel
theorem dX12_frame_9 : decode cX12_frame 9 = .ok (.aload_n 0, 1) := by decide +kernel
theorem dX12_frame_10 : decode cX12_frame 10 = .ok (.getfield 289, 3) := by decide +kernel
theorem dX12_frame_13 : decode cX12_frame 13 = .ok (.if_icmp .ge 138, 3) := by decide +kernel
theorem dX12_frame_16 : decode cX12_frame 16 = .ok (.iload_n 2, 1) := by decide +kernel
theorem dX12_frame_17 : decode cX12_frame 17 = .ok (.iconst 1, 1) := by decide +kernel
theorem dX12_frame_18 : decode cX12_frame 18 = .ok (.iadd, 1) := by decide +kernel
theorem dX12_frame_19 : decode cX12_frame 19 = .ok (.aload_n 0, 1) := by decide +kernel
theorem dX12_frame_20 : decode cX12_frame 20 = .ok (.getfield 289, 3) := by decide +kernel
theorem dX12_frame_23 : decode cX12_frame 23 = .ok (.if_icmp .ge 18, 3) := by decide +kernel
theorem dX12_frame_26 : decode cX12_frame 26 = .ok (.aload_n 0, 1) := by decide +kernel
theorem dX12_frame_27 : decode cX12_frame 27 = .ok (.getfield 101, 3) := by decide +kernel
theorem dX12_frame_30 : decode cX12_frame 30 = .ok (.iload_n 2, 1) := by decide +kernel
theorem dX12_frame_31 : decode cX12_frame 31 = .ok (.iconst 1, 1) := by decide +kernel
theorem dX12_frame_32 : decode cX12_frame 32 = .ok (.iadd, 1) := by decide +kernel
theorem dX12_frame_33 : decode cX12_frame 33 = .ok (.iaload, 1) := by decide +kernel
theorem dX12_frame_34 : decode cX12_frame 34 = .ok (.sipush 255, 3) := by decide +kernel
theorem dX12_frame_37 : decode cX12_frame 37 = .ok (.iand, 1) := by decide +kernel
theorem dX12_frame_38 : decode cX12_frame 38 = .ok (.goto 4, 3) := by decide +kernel
theorem dX12_frame_41 : decode cX12_frame 41 = .ok (.iconst 0, 1) := by decide +kernel
theorem dX12_frame_42 : decode cX12_frame 42 = .ok (.istore_n 3, 1) := by decide +kernel
theorem dX12_frame_43 : decode cX12_frame 43 = .ok (.aload_n 0, 1) := by decide +kernel
theorem dX12_frame_44 : decode cX12_frame 44 = .ok (.getfield 101, 3) := by decide +kernel
theorem dX12_frame_47 : decode cX12_frame 47 = .ok (.iload_n 2, 1) := by decide +kernel
theorem dX12_frame_48 : decode cX12_frame 48 = .ok (.iaload, 1) := by decide +kernel
theorem dX12_frame_49 : decode cX12_frame 49 = .ok (.sipush 255, 3) := by decide +kernel
theorem dX12_frame_52 : decode cX12_frame 52 = .ok (.iand, 1) := by decide +kernel
theorem dX12_frame_53 : decode cX12_frame 53 = .ok (.bipush 85, 2) := by decide +kernel
theorem dX12_frame_55 : decode cX12_frame 55 = .ok (.if_icmp .ne 90, 3) := by decide +kernel
theorem dX12_frame_58 : decode cX12_frame 58 = .ok (.iload_n 3, 1) := by decide +kernel
theorem dX12_frame_59 : decode cX12_frame 59 = .ok (.i2l, 1) := by decide +kernel
theorem dX12_frame_60 : decode cX12_frame 60 = .ok (.lconst 1, 1) := by decide +kernel
theorem dX12_frame_61 : decode cX12_frame 61 = .ok (.ldc2_w 300, 3) := by decide +kernel
theorem dX12_frame_64 : decode cX12_frame 64 = .ok (.invokestatic 115, 3) := by decide +kernel
theorem dX12_frame_67 : decode cX12_frame 67 = .ok (.ifCond .eq 78, 3) := by decide +kernel
theorem dX12_frame_70 : decode cX12_frame 70 = .ok (.iload_n 2, 1) := by decide +kernel
theorem dX12_frame_71 : decode cX12_frame 71 = .ok (.iload_n 3, 1) := by decide +kernel
theorem dX12_frame_72 : decode cX12_frame 72 = .ok (.iadd, 1) := by decide +kernel
theorem dX12_frame_73 : decode cX12_frame 73 = .ok (.iconst 2, 1) := by decide +kernel
theorem dX12_frame_74 : decode cX12_frame 74 = .ok (.iadd, 1) := by decide +kernel
theorem dX12_frame_75 : decode cX12_frame 75 = .ok (.aload_n 0, 1) := by decide +kernel
theorem dX12_frame_76 : decode cX12_frame 76 = .ok (.getfield 289, 3) := by decide +kernel
theorem dX12_frame_79 : decode cX12_frame 79 = .ok (.if_icmp .ge 66, 3) := by decide +kernel
theorem dX12_frame_82 : decode cX12_frame 82 = .ok (.iload_n 3, 1) := by decide +kernel
theorem dX12_frame_83 : decode cX12_frame 83 = .ok (.istore 4, 2) := by decide +kernel
theorem dX12_frame_85 : decode cX12_frame 85 = .ok (.iconst 0, 1) := by decide +kernel
theorem dX12_frame_86 : decode cX12_frame 86 = .ok (.istore 5, 2) := by decide +kernel
theorem dX12_frame_88 : decode cX12_frame 88 = .ok (.iload 5, 2) := by decide +kernel
theorem dX12_frame_90 : decode cX12_frame 90 = .ok (.iload_n 3, 1) := by decide +kernel
theorem dX12_frame_91 : decode cX12_frame 91 = .ok (.if_icmp .ge 29, 3) := by decide +kernel
theorem dX12_frame_94 : decode cX12_frame 94 = .ok (.iload 4, 2) := by decide +kernel
theorem dX12_frame_96 : decode cX12_frame 96 = .ok (.aload_n 0, 1) := by decide +kernel
theorem dX12_frame_97 : decode cX12_frame 97 = .ok (.getfield 101, 3) := by decide +kernel
theorem dX12_frame_100 : decode cX12_frame 100 = .ok (.iload_n 2, 1) := by decide +kernel
theorem dX12_frame_101 : decode cX12_frame 101 = .ok (.iconst 2, 1) := by decide +kernel
theorem dX12_frame_102 : decode cX12_frame 102 = .ok (.iadd, 1) := by decide +kernel
theorem dX12_frame_103 : decode cX12_frame 103 = .ok (.iload 5, 2) := by decide +kernel
theorem dX12_frame_105 : decode cX12_frame 105 = .ok (.iadd, 1) := by decide +kernel
theorem dX12_frame_106 : decode cX12_frame 106 = .ok (.iaload, 1) := by decide +kernel
theorem dX12_frame_107 : decode cX12_frame 107 = .ok (.sipush 255, 3) := by decide +kernel
theorem dX12_frame_110 : decode cX12_frame 110 = .ok (.iand, 1) := by decide +kernel
theorem dX12_frame_111 : decode cX12_frame 111 = .ok (.iadd, 1) := by decide +kernel
theorem dX12_frame_112 : decode cX12_frame 112 = .ok (.istore 4, 2) := by decide +kernel
theorem dX12_frame_114 : decode cX12_frame 114 = .ok (.iinc 5 1, 3) := by decide +kernel
theorem dX12_frame_117 : decode cX12_frame 117 = .ok (.goto (-29), 3) := by decide +kernel
theorem dX12_frame_120 : decode cX12_frame 120 = .ok (.iload 4, 2) := by decide +kernel
theorem dX12_frame_122 : decode cX12_frame 122 = .ok (.sipush 255, 3) := by decide +kernel
theorem dX12_frame_125 : decode cX12_frame 125 = .ok (.iand, 1) := by decide +kernel
theorem dX12_frame_126 : decode cX12_frame 126 = .ok (.aload_n 0, 1) := by decide +kernel
theorem dX12_frame_127 : decode cX12_frame 127 = .ok (.getfield 101, 3) := by decide +kernel
theorem dX12_frame_130 : decode cX12_frame 130 = .ok (.iload_n 2, 1) := by decide +kernel
theorem dX12_frame_131 : decode cX12_frame 131 = .ok (.iconst 2, 1) := by decide +kernel
theorem dX12_frame_132 : decode cX12_frame 132 = .ok (.iadd, 1) := by decide +kernel
theorem dX12_frame_133 : decode cX12_frame 133 = .ok (.iload_n 3, 1) := by decide +kernel
theorem dX12_frame_134 : decode cX12_frame 134 = .ok (.iadd, 1) := by decide +kernel
theorem dX12_frame_135 : decode cX12_frame 135 = .ok (.iaload, 1) := by decide +kernel
theorem dX12_frame_136 : decode cX12_frame 136 = .ok (.sipush 255, 3) := by decide +kernel
theorem dX12_frame_139 : decode cX12_frame 139 = .ok (.iand, 1) := by decide +kernel
theorem dX12_frame_140 : decode cX12_frame 140 = .ok (.if_icmp .ne 5, 3) := by decide +kernel
theorem dX12_frame_143 : decode cX12_frame 143 = .ok (.iload_n 2, 1) := by decide +kernel
theorem dX12_frame_144 : decode cX12_frame 144 = .ok (.ireturn, 1) := by decide +kernel
theorem dX12_frame_145 : decode cX12_frame 145 = .ok (.iinc 2 1, 3) := by decide +kernel
theorem dX12_frame_148 : decode cX12_frame 148 = .ok (.goto (-140), 3) := by decide +kernel
theorem dX12_frame_151 : decode cX12_frame 151 = .ok (.bipush (-4), 2) := by decide +kernel
theorem dX12_frame_153 : decode cX12_frame 153 = .ok (.ireturn, 1) := by decide +kernel
theorem dJ9_floorDiv_f86c9_0 : decode cJ9_floorDiv_f86c9 0 = .ok (.lload_n 0, 1) := by decide +kernel
theorem dJ9_floorDiv_f86c9_1 : decode cJ9_floorDiv_f86c9 1 = .ok (.lload_n 2, 1) := by decide +kernel
theorem dJ9_floorDiv_f86c9_2 : decode cJ9_floorDiv_f86c9 2 = .ok (.ldiv, 1) := by decide +kernel
theorem dJ9_floorDiv_f86c9_3 : decode cJ9_floorDiv_f86c9 3 = .ok (.lstore 4, 2) := by decide +kernel
theorem dJ9_floorDiv_f86c9_5 : decode cJ9_floorDiv_f86c9 5 = .ok (.lload_n 0, 1) := by decide +kernel
theorem dJ9_floorDiv_f86c9_6 : decode cJ9_floorDiv_f86c9 6 = .ok (.lload_n 2, 1) := by decide +kernel
theorem dJ9_floorDiv_f86c9_7 : decode cJ9_floorDiv_f86c9 7 = .ok (.lxor, 1) := by decide +kernel
theorem dJ9_floorDiv_f86c9_8 : decode cJ9_floorDiv_f86c9 8 = .ok (.lconst 0, 1) := by decide +kernel
theorem dJ9_floorDiv_f86c9_9 : decode cJ9_floorDiv_f86c9 9 = .ok (.lcmp, 1) := by decide +kernel
theorem dJ9_floorDiv_f86c9_10 : decode cJ9_floorDiv_f86c9 10 = .ok (.ifCond .ge 17, 3) := by decide +kernel
theorem dJ9_floorDiv_f86c9_13 : decode cJ9_floorDiv_f86c9 13 = .ok (.lload 4, 2) := by decide +kernel
theorem dJ9_floorDiv_f86c9_15 : decode cJ9_floorDiv_f86c9 15 = .ok (.lload_n 2, 1) := by decide +kernel
theorem dJ9_floorDiv_f86c9_16 : decode cJ9_floorDiv_f86c9 16 = .ok (.lmul, 1) := by decide +kernel
theorem dJ9_floorDiv_f86c9_17 : decode cJ9_floorDiv_f86c9 17 = .ok (.lload_n 0, 1) := by decide +kernel
theorem dJ9_floorDiv_f86c9_18 : decode cJ9_floorDiv_f86c9 18 = .ok (.lcmp, 1) := by decide +kernel
theorem dJ9_floorDiv_f86c9_19 : decode cJ9_floorDiv_f86c9 19 = .ok (.ifCond .eq 8, 3) := by decide +kernel
theorem dJ9_floorDiv_f86c9_22 : decode cJ9_floorDiv_f86c9 22 = .ok (.lload 4, 2) := by decide +kernel
theorem dJ9_floorDiv_f86c9_24 : decode cJ9_floorDiv_f86c9 24 = .ok (.lconst 1, 1) := by decide +kernel
theorem dJ9_floorDiv_f86c9_25 : decode cJ9_floorDiv_f86c9 25 = .ok (.lsub, 1) := by decide +kernel
theorem dJ9_floorDiv_f86c9_26 : decode cJ9_floorDiv_f86c9 26 = .ok (.lreturn, 1) := by decide +kernel
theorem dJ9_floorDiv_f86c9_27 : decode cJ9_floorDiv_f86c9 27 = .ok (.lload 4, 2) := by decide +kernel
theorem dJ9_floorDiv_f86c9_29 : decode cJ9_floorDiv_f86c9 29 = .ok (.lreturn, 1) := by decide +kernel
theorem dJ9_floorMod_7cf53_0 : decode cJ9_floorMod_7cf53 0 = .ok (.iload_n 0, 1) := by decide +kernel
theorem dJ9_floorMod_7cf53_1 : decode cJ9_floorMod_7cf53 1 = .ok (.iload_n 1, 1) := by decide +kernel
theorem dJ9_floorMod_7cf53_2 : decode cJ9_floorMod_7cf53 2 = .ok (.irem, 1) := by decide +kernel
theorem dJ9_floorMod_7cf53_3 : decode cJ9_floorMod_7cf53 3 = .ok (.istore_n 2, 1) := by decide +kernel
theorem dJ9_floorMod_7cf53_4 : decode cJ9_floorMod_7cf53 4 = .ok (.iload_n 0, 1) := by decide +kernel
theorem dJ9_floorMod_7cf53_5 : decode cJ9_floorMod_7cf53 5 = .ok (.iload_n 1, 1) := by decide +kernel
theorem dJ9_floorMod_7cf53_6 : decode cJ9_floorMod_7cf53 6 = .ok (.ixor, 1) := by decide +kernel
theorem dJ9_floorMod_7cf53_7 : decode cJ9_floorMod_7cf53 7 = .ok (.ifCond .ge 11, 3) := by decide +kernel
theorem dJ9_floorMod_7cf53_10 : decode cJ9_floorMod_7cf53 10 = .ok (.iload_n 2, 1) := by decide +kernel
theorem dJ9_floorMod_7cf53_11 : decode cJ9_floorMod_7cf53 11 = .ok (.ifCond .eq 7, 3) := by decide +kernel
theorem dJ9_floorMod_7cf53_14 : decode cJ9_floorMod_7cf53 14 = .ok (.iload_n 2, 1) := by decide +kernel
theorem dJ9_floorMod_7cf53_15 : decode cJ9_floorMod_7cf53 15 = .ok (.iload_n 1, 1) := by decide +kernel
theorem dJ9_floorMod_7cf53_16 : decode cJ9_floorMod_7cf53 16 = .ok (.iadd, 1) := by decide +kernel
theorem dJ9_floorMod_7cf53_17 : decode cJ9_floorMod_7cf53 17 = .ok (.ireturn, 1) := by decide +kernel
theorem dJ9_floorMod_7cf53_18 : decode cJ9_floorMod_7cf53 18 = .ok (.iload_n 2, 1) := by decide +kernel
theorem dJ9_floorMod_7cf53_19 : decode cJ9_floorMod_7cf53 19 = .ok (.ireturn, 1) := by decide +kernel
theorem dJ9_max_7cf53_0 : decode cJ9_max_7cf53 0 = .ok (.iload_n 0, 1) := by decide +kernel
theorem dJ9_max_7cf53_1 : decode cJ9_max_7cf53 1 = .ok (.iload_n 1, 1) := by decide +kernel
theorem dJ9_max_7cf53_2 : decode cJ9_max_7cf53 2 = .ok (.if_icmp .lt 7, 3) := by decide +kernel
theorem dJ9_max_7cf53_5 : decode cJ9_max_7cf53 5 = .ok (.iload_n 0, 1) := by decide +kernel
theorem dJ9_max_7cf53_6 : decode cJ9_max_7cf53 6 = .ok (.goto 4, 3) := by decide +kernel
theorem dJ9_max_7cf53_9 : decode cJ9_max_7cf53 9 = .ok (.iload_n 1, 1) := by decide +kernel
theorem dJ9_max_7cf53_10 : decode cJ9_max_7cf53 10 = .ok (.ireturn, 1) := by decide +kernel
theorem dJ9_min_7cf53_0 : decode cJ9_min_7cf53 0 = .ok (.iload_n 0, 1) := by decide +kernel
theorem dJ9_min_7cf53_1 : decode cJ9_min_7cf53 1 = .ok (.iload_n 1, 1) := by decide +kernel
theorem dJ9_min_7cf53_2 : decode cJ9_min_7cf53 2 = .ok (.if_icmp .gt 7, 3) := by decide +kernel
theorem dJ9_min_7cf53_5 : decode cJ9_min_7cf53 5 = .ok (.iload_n 0, 1) := by decide +kernel
theorem dJ9_min_7cf53_6 : decode cJ9_min_7cf53 6 = .ok (.goto 4, 3) := by decide +kernel
theorem dJ9_min_7cf53_9 : decode cJ9_min_7cf53 9 = .ok (.iload_n 1, 1) := by decide +kernel
theorem dJ9_min_7cf53_10 : decode cJ9_min_7cf53 10 = .ok (.ireturn, 1) := by decide +kernel
theorem dJ0_length_8abf5_0 : decode cJ0_length_8abf5 0 = .ok (.aload_n 0, 1) := by decide +kernel
theorem dJ0_length_8abf5_1 : decode cJ0_length_8abf5 1 = .ok (.getfield 9, 3) := by decide +kernel
theorem dJ0_length_8abf5_4 : decode cJ0_length_8abf5 4 = .ok (.arraylength, 1) := by decide +kernel
theorem dJ0_length_8abf5_5 : decode cJ0_length_8abf5 5 = .ok (.aload_n 0, 1) := by decide +kernel
theorem dJ0_length_8abf5_6 : decode cJ0_length_8abf5 6 = .ok (.invokevirtual 335, 3) := by decide +kernel
theorem dJ0_length_8abf5_9 : decode cJ0_length_8abf5 9 = .ok (.ishr, 1) := by decide +kernel
theorem dJ0_length_8abf5_10 : decode cJ0_length_8abf5 10 = .ok (.ireturn, 1) := by decide +kernel
theorem dJ0_charAt_5068e_0 : decode cJ0_charAt_5068e 0 = .ok (.aload_n 0, 1) := by decide +kernel
theorem dJ0_charAt_5068e_1 : decode cJ0_charAt_5068e 1 = .ok (.invokevirtual 492, 3) := by decide +kernel
theorem dJ0_charAt_5068e_4 : decode cJ0_charAt_5068e 4 = .ok (.ifCond .eq 12, 3) := by decide +kernel
theorem dJ0_charAt_5068e_7 : decode cJ0_charAt_5068e 7 = .ok (.aload_n 0, 1) := by decide +kernel
theorem dJ0_charAt_5068e_8 : decode cJ0_charAt_5068e 8 = .ok (.getfield 9, 3) := by decide +kernel
theorem dJ0_charAt_5068e_11 : decode cJ0_charAt_5068e 11 = .ok (.iload_n 1, 1) := by decide +kernel
theorem dJ0_charAt_5068e_12 : decode cJ0_charAt_5068e 12 = .ok (.invokestatic 495, 3) := by decide +kernel
theorem dJ0_charAt_5068e_15 : decode cJ0_charAt_5068e 15 = .ok (.ireturn, 1) := by decide +kernel
theorem dJ0_charAt_5068e_16 : decode cJ0_charAt_5068e 16 = .ok (.aload_n 0, 1) := by decide +kernel
theorem dJ0_charAt_5068e_17 : decode cJ0_charAt_5068e 17 = .ok (.getfield 9, 3) := by decide +kernel
theorem dJ0_charAt_5068e_20 : decode cJ0_charAt_5068e 20 = .ok (.iload_n 1, 1) := by decide +kernel
theorem dJ0_charAt_5068e_21 : decode cJ0_charAt_5068e 21 = .ok (.invokestatic 498, 3) := by decide +kernel
theorem dJ0_charAt_5068e_24 : decode cJ0_charAt_5068e 24 = .ok (.ireturn, 1) := by decide +kernel
theorem dJ0_coder_7d493_0 : decode cJ0_coder_7d493 0 = .ok (.getstatic 38, 3) := by decide +kernel
theorem dJ0_coder_7d493_3 : decode cJ0_coder_7d493 3 = .ok (.ifCond .eq 10, 3) := by decide +kernel
theorem dJ0_coder_7d493_6 : decode cJ0_coder_7d493 6 = .ok (.aload_n 0, 1) := by decide +kernel
theorem dJ0_coder_7d493_7 : decode cJ0_coder_7d493 7 = .ok (.getfield 15, 3) := by decide +kernel
theorem dJ0_coder_7d493_10 : decode cJ0_coder_7d493 10 = .ok (.goto 4, 3) := by decide +kernel
theorem dJ0_coder_7d493_13 : decode cJ0_coder_7d493 13 = .ok (.iconst 1, 1) := by decide +kernel
theorem dJ0_coder_7d493_14 : decode cJ0_coder_7d493 14 = .ok (.ireturn, 1) := by decide +kernel
theorem dJ0_isLatin1_aae02_0 : decode cJ0_isLatin1_aae02 0 = .ok (.getstatic 38, 3) := by decide +kernel
theorem dJ0_isLatin1_aae02_3 : decode cJ0_isLatin1_aae02 3 = .ok (.ifCond .eq 14, 3) := by decide +kernel
theorem dJ0_isLatin1_aae02_6 : decode cJ0_isLatin1_aae02 6 = .ok (.aload_n 0, 1) := by decide +kernel
theorem dJ0_isLatin1_aae02_7 : decode cJ0_isLatin1_aae02 7 = .ok (.getfield 15, 3) := by decide +kernel
theorem dJ0_isLatin1_aae02_10 : decode cJ0_isLatin1_aae02 10 = .ok (.ifCond .ne 7, 3) := by decide +kernel
theorem dJ0_isLatin1_aae02_13 : decode cJ0_isLatin1_aae02 13 = .ok (.iconst 1, 1) := by decide +kernel
theorem dJ0_isLatin1_aae02_14 : decode cJ0_isLatin1_aae02 14 = .ok (.goto 4, 3) := by decide +kernel
theorem dJ0_isLatin1_aae02_17 : decode cJ0_isLatin1_aae02 17 = .ok (.iconst 0, 1) := by decide +kernel
theorem dJ0_isLatin1_aae02_18 : decode cJ0_isLatin1_aae02 18 = .ok (.ireturn, 1) := by decide +kernel
theorem dJ0_checkIndex_df160_0 : decode cJ0_checkIndex_df160 0 = .ok (.iload_n 0, 1) := by decide +kernel
theorem dJ0_checkIndex_df160_1 : decode cJ0_checkIndex_df160 1 = .ok (.iload_n 1, 1) := by decide +kernel
theorem dJ0_checkIndex_df160_2 : decode cJ0_checkIndex_df160 2 = .ok (.getstatic 1053, 3) := by decide +kernel
theorem dJ0_checkIndex_df160_5 : decode cJ0_checkIndex_df160 5 = .ok (.invokestatic 1059, 3) := by decide +kernel
theorem dJ0_checkIndex_df160_8 : decode cJ0_checkIndex_df160 8 = .ok (.pop, 1) := by decide +kernel
theorem dJ0_checkIndex_df160_9 : decode cJ0_checkIndex_df160 9 = .ok (.return_, 1) := by decide +kernel
theorem dJ1_charAt_3b067_0 : decode cJ1_charAt_3b067 0 = .ok (.iload_n 1, 1) := by decide +kernel
theorem dJ1_charAt_3b067_1 : decode cJ1_charAt_3b067 1 = .ok (.aload_n 0, 1) := by decide +kernel
theorem dJ1_charAt_3b067_2 : decode cJ1_charAt_3b067 2 = .ok (.arraylength, 1) := by decide +kernel
theorem dJ1_charAt_3b067_3 : decode cJ1_charAt_3b067 3 = .ok (.invokestatic 9, 3) := by decide +kernel
theorem dJ1_charAt_3b067_6 : decode cJ1_charAt_3b067 6 = .ok (.aload_n 0, 1) := by decide +kernel
theorem dJ1_charAt_3b067_7 : decode cJ1_charAt_3b067 7 = .ok (.iload_n 1, 1) := by decide +kernel
theorem dJ1_charAt_3b067_8 : decode cJ1_charAt_3b067 8 = .ok (.baload, 1) := by decide +kernel
theorem dJ1_charAt_3b067_9 : decode cJ1_charAt_3b067 9 = .ok (.sipush 255, 3) := by decide +kernel
theorem dJ1_charAt_3b067_12 : decode cJ1_charAt_3b067 12 = .ok (.iand, 1) := by decide +kernel
theorem dJ1_charAt_3b067_13 : decode cJ1_charAt_3b067 13 = .ok (.i2c, 1) := by decide +kernel
theorem dJ1_charAt_3b067_14 : decode cJ1_charAt_3b067 14 = .ok (.ireturn, 1) := by decide +kernel
theorem dJ2_getChar_3b067_0 : decode cJ2_getChar_3b067 0 = .ok (.getstatic 44, 3) := by decide +kernel
theorem dJ2_getChar_3b067_3 : decode cJ2_getChar_3b067 3 = .ok (.ifCond .ne 25, 3) := by decide +kernel
theorem dJ2_getChar_3b067_6 : decode cJ2_getChar_3b067 6 = .ok (.iload_n 1, 1) := by decide +kernel
theorem dJ2_getChar_3b067_7 : decode cJ2_getChar_3b067 7 = .ok (.ifCond .lt 11, 3) := by decide +kernel
theorem dJ2_getChar_3b067_10 : decode cJ2_getChar_3b067 10 = .ok (.iload_n 1, 1) := by decide +kernel
theorem dJ2_getChar_3b067_11 : decode cJ2_getChar_3b067 11 = .ok (.aload_n 0, 1) := by decide +kernel
theorem dJ2_getChar_3b067_12 : decode cJ2_getChar_3b067 12 = .ok (.invokestatic 48, 3) := by decide +kernel
theorem dJ2_getChar_3b067_15 : decode cJ2_getChar_3b067 15 = .ok (.if_icmp .lt 13, 3) := by decide +kernel
theorem dJ2_getChar_3b067_18 : decode cJ2_getChar_3b067 18 = .ok (.new 52, 3) := by decide +kernel
theorem dJ2_getChar_3b067_21 : decode cJ2_getChar_3b067 21 = .ok (.dup, 1) := by decide +kernel
theorem dJ2_getChar_3b067_22 : decode cJ2_getChar_3b067 22 = .ok (.ldc 54, 2) := by decide +kernel
theorem dJ2_getChar_3b067_24 : decode cJ2_getChar_3b067 24 = .ok (.invokespecial 56, 3) := by decide +kernel
theorem dJ2_getChar_3b067_27 : decode cJ2_getChar_3b067 27 = .ok (.athrow, 1) := by decide +kernel
theorem dJ2_getChar_3b067_28 : decode cJ2_getChar_3b067 28 = .ok (.iload_n 1, 1) := by decide +kernel
theorem dJ2_getChar_3b067_29 : decode cJ2_getChar_3b067 29 = .ok (.iconst 1, 1) := by decide +kernel
theorem dJ2_getChar_3b067_30 : decode cJ2_getChar_3b067 30 = .ok (.ishl, 1) := by decide +kernel
theorem dJ2_getChar_3b067_31 : decode cJ2_getChar_3b067 31 = .ok (.istore_n 1, 1) := by decide +kernel
theorem dJ2_getChar_3b067_32 : decode cJ2_getChar_3b067 32 = .ok (.aload_n 0, 1) := by decide +kernel
theorem dJ2_getChar_3b067_33 : decode cJ2_getChar_3b067 33 = .ok (.iload_n 1, 1) := by decide +kernel
theorem dJ2_getChar_3b067_34 : decode cJ2_getChar_3b067 34 = .ok (.iinc 1 1, 3) := by decide +kernel
theorem dJ2_getChar_3b067_37 : decode cJ2_getChar_3b067 37 = .ok (.baload, 1) := by decide +kernel
theorem dJ2_getChar_3b067_38 : decode cJ2_getChar_3b067 38 = .ok (.sipush 255, 3) := by decide +kernel
theorem dJ2_getChar_3b067_41 : decode cJ2_getChar_3b067 41 = .ok (.iand, 1) := by decide +kernel
theorem dJ2_getChar_3b067_42 : decode cJ2_getChar_3b067 42 = .ok (.getstatic 59, 3) := by decide +kernel
theorem dJ2_getChar_3b067_45 : decode cJ2_getChar_3b067 45 = .ok (.ishl, 1) := by decide +kernel
theorem dJ2_getChar_3b067_46 : decode cJ2_getChar_3b067 46 = .ok (.aload_n 0, 1) := by decide +kernel
theorem dJ2_getChar_3b067_47 : decode cJ2_getChar_3b067 47 = .ok (.iload_n 1, 1) := by decide +kernel
theorem dJ2_getChar_3b067_48 : decode cJ2_getChar_3b067 48 = .ok (.baload, 1) := by decide +kernel
theorem dJ2_getChar_3b067_49 : decode cJ2_getChar_3b067 49 = .ok (.sipush 255, 3) := by decide +kernel
theorem dJ2_getChar_3b067_52 : decode cJ2_getChar_3b067 52 = .ok (.iand, 1) := by decide +kernel
theorem dJ2_getChar_3b067_53 : decode cJ2_getChar_3b067 53 = .ok (.getstatic 63, 3) := by decide +kernel
theorem dJ2_getChar_3b067_56 : decode cJ2_getChar_3b067 56 = .ok (.ishl, 1) := by decide +kernel
theorem dJ2_getChar_3b067_57 : decode cJ2_getChar_3b067 57 = .ok (.ior, 1) := by decide +kernel
theorem dJ2_getChar_3b067_58 : decode cJ2_getChar_3b067 58 = .ok (.i2c, 1) := by decide +kernel
theorem dJ2_getChar_3b067_59 : decode cJ2_getChar_3b067 59 = .ok (.ireturn, 1) := by decide +kernel
theorem dJ2_length_9d52b_0 : decode cJ2_length_9d52b 0 = .ok (.aload_n 0, 1) := by decide +kernel
theorem dJ2_length_9d52b_1 : decode cJ2_length_9d52b 1 = .ok (.arraylength, 1) := by decide +kernel
theorem dJ2_length_9d52b_2 : decode cJ2_length_9d52b 2 = .ok (.iconst 1, 1) := by decide +kernel
theorem dJ2_length_9d52b_3 : decode cJ2_length_9d52b 3 = .ok (.ishr, 1) := by decide +kernel
theorem dJ2_length_9d52b_4 : decode cJ2_length_9d52b 4 = .ok (.ireturn, 1) := by decide +kernel
theorem dJ2_charAt_3b067_0 : decode cJ2_charAt_3b067 0 = .ok (.iload_n 1, 1) := by decide +kernel
theorem dJ2_charAt_3b067_1 : decode cJ2_charAt_3b067 1 = .ok (.aload_n 0, 1) := by decide +kernel
theorem dJ2_charAt_3b067_2 : decode cJ2_charAt_3b067 2 = .ok (.invokestatic 67, 3) := by decide +kernel
theorem dJ2_charAt_3b067_5 : decode cJ2_charAt_3b067 5 = .ok (.aload_n 0, 1) := by decide +kernel
theorem dJ2_charAt_3b067_6 : decode cJ2_charAt_3b067 6 = .ok (.iload_n 1, 1) := by decide +kernel
theorem dJ2_charAt_3b067_7 : decode cJ2_charAt_3b067 7 = .ok (.invokestatic 71, 3) := by decide +kernel
theorem dJ2_charAt_3b067_10 : decode cJ2_charAt_3b067 10 = .ok (.ireturn, 1) := by decide +kernel
theorem dJ2_checkIndex_2214a_0 : decode cJ2_checkIndex_2214a 0 = .ok (.iload_n 0, 1) := by decide +kernel
theorem dJ2_checkIndex_2214a_1 : decode cJ2_checkIndex_2214a 1 = .ok (.aload_n 1, 1) := by decide +kernel
theorem dJ2_checkIndex_2214a_2 : decode cJ2_checkIndex_2214a 2 = .ok (.invokestatic 48, 3) := by decide +kernel
theorem dJ2_checkIndex_2214a_5 : decode cJ2_checkIndex_2214a 5 = .ok (.invokestatic 414, 3) := by decide +kernel
theorem dJ2_checkIndex_2214a_8 : decode cJ2_checkIndex_2214a 8 = .ok (.return_, 1) := by decide +kernel
theorem dJ3_checkIndex_8e157_0 : decode cJ3_checkIndex_8e157 0 = .ok (.iload_n 0, 1) := by decide +kernel
theorem dJ3_checkIndex_8e157_1 : decode cJ3_checkIndex_8e157 1 = .ok (.ifCond .lt 8, 3) := by decide +kernel
theorem dJ3_checkIndex_8e157_4 : decode cJ3_checkIndex_8e157 4 = .ok (.iload_n 0, 1) := by decide +kernel
theorem dJ3_checkIndex_8e157_5 : decode cJ3_checkIndex_8e157 5 = .ok (.iload_n 1, 1) := by decide +kernel
theorem dJ3_checkIndex_8e157_6 : decode cJ3_checkIndex_8e157 6 = .ok (.if_icmp .lt 10, 3) := by decide +kernel
theorem dJ3_checkIndex_8e157_9 : decode cJ3_checkIndex_8e157 9 = .ok (.aload_n 2, 1) := by decide +kernel
theorem dJ3_checkIndex_8e157_10 : decode cJ3_checkIndex_8e157 10 = .ok (.iload_n 0, 1) := by decide +kernel
theorem dJ3_checkIndex_8e157_11 : decode cJ3_checkIndex_8e157 11 = .ok (.iload_n 1, 1) := by decide +kernel
theorem dJ3_checkIndex_8e157_12 : decode cJ3_checkIndex_8e157 12 = .ok (.invokestatic 95, 3) := by decide +kernel
theorem dJ3_checkIndex_8e157_15 : decode cJ3_checkIndex_8e157 15 = .ok (.athrow, 1) := by decide +kernel
theorem dJ3_checkIndex_8e157_16 : decode cJ3_checkIndex_8e157 16 = .ok (.iload_n 0, 1) := by decide +kernel
theorem dJ3_checkIndex_8e157_17 : decode cJ3_checkIndex_8e157 17 = .ok (.ireturn, 1) := by decide +kernel
end
section
theorem dL_law_0 : decode cL_law 0 = .ok (.new 7, 3) := by decide +kernel
theorem dL_law_3 : decode cL_law 3 = .ok (.dup, 1) := by decide +kernel
theorem dL_law_4 : decode cL_law 4 = .ok (.invokespecial 9, 3) := by decide +kernel
theorem dL_law_7 : decode cL_law 7 = .ok (.astore_n 1, 1) := by decide +kernel
theorem dL_law_8 : decode cL_law 8 = .ok (.new 10, 3) := by decide +kernel
theorem dL_law_11 : decode cL_law 11 = .ok (.dup, 1) := by decide +kernel
theorem dL_law_12 : decode cL_law 12 = .ok (.invokespecial 12, 3) := by decide +kernel
theorem dL_law_15 : decode cL_law 15 = .ok (.astore_n 2, 1) := by decide +kernel
theorem dL_law_16 : decode cL_law 16 = .ok (.iconst 0, 1) := by decide +kernel
theorem dL_law_17 : decode cL_law 17 = .ok (.istore_n 3, 1) := by decide +kernel
theorem dL_law_18 : decode cL_law 18 = .ok (.iload_n 3, 1) := by decide +kernel
theorem dL_law_19 : decode cL_law 19 = .ok (.aload_n 0, 1) := by decide +kernel
theorem dL_law_20 : decode cL_law 20 = .ok (.arraylength, 1) := by decide +kernel
theorem dL_law_21 : decode cL_law 21 = .ok (.bipush 9, 2) := by decide +kernel
theorem dL_law_23 : decode cL_law 23 = .ok (.isub, 1) := by decide +kernel
theorem dL_law_24 : decode cL_law 24 = .ok (.if_icmp .gt 1263, 3) := by decide +kernel
theorem dL_law_27 : decode cL_law 27 = .ok (.aload_n 0, 1) := by decide +kernel
theorem dL_law_28 : decode cL_law 28 = .ok (.iload_n 3, 1) := by decide +kernel
theorem dL_law_29 : decode cL_law 29 = .ok (.iaload, 1) := by decide +kernel
theorem dL_law_30 : decode cL_law 30 = .ok (.bipush 31, 2) := by decide +kernel
theorem dL_law_32 : decode cL_law 32 = .ok (.iand, 1) := by decide +kernel
theorem dL_law_33 : decode cL_law 33 = .ok (.tableswitch 1248 0 28 #[131, 184, 207, 220, 233, 266, 279, 332, 385, 418, 441, 474, 517, 530, 573, 616, 691, 704, 747, 810, 844, 877, 901, 974, 1093, 1136, 1179, 1202, 1225], 131) := by decide +kernel
theorem dL_law_164 : decode cL_law 164 = .ok (.aload_n 1, 1) := by decide +kernel
theorem dL_law_165 : decode cL_law 165 = .ok (.aload_n 0, 1) := by decide +kernel
theorem dL_law_166 : decode cL_law 166 = .ok (.iload_n 3, 1) := by decide +kernel
theorem dL_law_167 : decode cL_law 167 = .ok (.iconst 1, 1) := by decide +kernel
theorem dL_law_168 : decode cL_law 168 = .ok (.iadd, 1) := by decide +kernel
theorem dL_law_169 : decode cL_law 169 = .ok (.iaload, 1) := by decide +kernel
theorem dL_law_170 : decode cL_law 170 = .ok (.i2l, 1) := by decide +kernel
theorem dL_law_171 : decode cL_law 171 = .ok (.bipush 32, 2) := by decide +kernel
theorem dL_law_173 : decode cL_law 173 = .ok (.lshl, 1) := by decide +kernel
theorem dL_law_174 : decode cL_law 174 = .ok (.aload_n 0, 1) := by decide +kernel
theorem dL_law_175 : decode cL_law 175 = .ok (.iload_n 3, 1) := by decide +kernel
theorem dL_law_176 : decode cL_law 176 = .ok (.iconst 2, 1) := by decide +kernel
theorem dL_law_177 : decode cL_law 177 = .ok (.iadd, 1) := by decide +kernel
theorem dL_law_178 : decode cL_law 178 = .ok (.iaload, 1) := by decide +kernel
theorem dL_law_179 : decode cL_law 179 = .ok (.i2l, 1) := by decide +kernel
theorem dL_law_180 : decode cL_law 180 = .ok (.ldc2_w 13, 3) := by decide +kernel
theorem dL_law_183 : decode cL_law 183 = .ok (.land, 1) := by decide +kernel
theorem dL_law_184 : decode cL_law 184 = .ok (.lor, 1) := by decide +kernel
theorem dL_law_185 : decode cL_law 185 = .ok (.invokevirtual 15, 3) := by decide +kernel
theorem dL_law_188 : decode cL_law 188 = .ok (.aload_n 2, 1) := by decide +kernel
theorem dL_law_189 : decode cL_law 189 = .ok (.aload_n 0, 1) := by decide +kernel
theorem dL_law_190 : decode cL_law 190 = .ok (.iload_n 3, 1) := by decide +kernel
theorem dL_law_191 : decode cL_law 191 = .ok (.iconst 1, 1) := by decide +kernel
theorem dL_law_192 : decode cL_law 192 = .ok (.iadd, 1) := by decide +kernel
theorem dL_law_193 : decode cL_law 193 = .ok (.iaload, 1) := by decide +kernel
theorem dL_law_194 : decode cL_law 194 = .ok (.i2l, 1) := by decide +kernel
theorem dL_law_195 : decode cL_law 195 = .ok (.bipush 32, 2) := by decide +kernel
theorem dL_law_197 : decode cL_law 197 = .ok (.lshl, 1) := by decide +kernel
theorem dL_law_198 : decode cL_law 198 = .ok (.aload_n 0, 1) := by decide +kernel
theorem dL_law_199 : decode cL_law 199 = .ok (.iload_n 3, 1) := by decide +kernel
theorem dL_law_200 : decode cL_law 200 = .ok (.iconst 2, 1) := by decide +kernel
theorem dL_law_201 : decode cL_law 201 = .ok (.iadd, 1) := by decide +kernel
theorem dL_law_202 : decode cL_law 202 = .ok (.iaload, 1) := by decide +kernel
theorem dL_law_203 : decode cL_law 203 = .ok (.i2l, 1) := by decide +kernel
theorem dL_law_204 : decode cL_law 204 = .ok (.ldc2_w 13, 3) := by decide +kernel
theorem dL_law_207 : decode cL_law 207 = .ok (.land, 1) := by decide +kernel
theorem dL_law_208 : decode cL_law 208 = .ok (.lor, 1) := by decide +kernel
theorem dL_law_209 : decode cL_law 209 = .ok (.invokevirtual 19, 3) := by decide +kernel
theorem dL_law_212 : decode cL_law 212 = .ok (.if_icmp .eq 1069, 3) := by decide +kernel
theorem dL_law_215 : decode cL_law 215 = .ok (.iconst 0, 1) := by decide +kernel
theorem dL_law_216 : decode cL_law 216 = .ok (.ireturn, 1) := by decide +kernel
theorem dL_law_217 : decode cL_law 217 = .ok (.aload_n 1, 1) := by decide +kernel
theorem dL_law_218 : decode cL_law 218 = .ok (.aload_n 0, 1) := by decide +kernel
theorem dL_law_219 : decode cL_law 219 = .ok (.iload_n 3, 1) := by decide +kernel
theorem dL_law_220 : decode cL_law 220 = .ok (.iconst 1, 1) := by decide +kernel
theorem dL_law_221 : decode cL_law 221 = .ok (.iadd, 1) := by decide +kernel
theorem dL_law_222 : decode cL_law 222 = .ok (.iaload, 1) := by decide +kernel
theorem dL_law_223 : decode cL_law 223 = .ok (.invokevirtual 20, 3) := by decide +kernel
theorem dL_law_226 : decode cL_law 226 = .ok (.aload_n 2, 1) := by decide +kernel
theorem dL_law_227 : decode cL_law 227 = .ok (.aload_n 0, 1) := by decide +kernel
theorem dL_law_228 : decode cL_law 228 = .ok (.iload_n 3, 1) := by decide +kernel
theorem dL_law_229 : decode cL_law 229 = .ok (.iconst 1, 1) := by decide +kernel
theorem dL_law_230 : decode cL_law 230 = .ok (.iadd, 1) := by decide +kernel
theorem dL_law_231 : decode cL_law 231 = .ok (.iaload, 1) := by decide +kernel
theorem dL_law_232 : decode cL_law 232 = .ok (.invokevirtual 24, 3) := by decide +kernel
theorem dL_law_235 : decode cL_law 235 = .ok (.if_icmp .eq 1046, 3) := by decide +kernel
theorem dL_law_238 : decode cL_law 238 = .ok (.iconst 0, 1) := by decide +kernel
theorem dL_law_239 : decode cL_law 239 = .ok (.ireturn, 1) := by decide +kernel
theorem dL_law_240 : decode cL_law 240 = .ok (.aload_n 1, 1) := by decide +kernel
theorem dL_law_241 : decode cL_law 241 = .ok (.invokevirtual 25, 3) := by decide +kernel
theorem dL_law_244 : decode cL_law 244 = .ok (.aload_n 2, 1) := by decide +kernel
theorem dL_law_245 : decode cL_law 245 = .ok (.invokevirtual 29, 3) := by decide +kernel
theorem dL_law_248 : decode cL_law 248 = .ok (.if_icmp .eq 1033, 3) := by decide +kernel
theorem dL_law_251 : decode cL_law 251 = .ok (.iconst 0, 1) := by decide +kernel
theorem dL_law_252 : decode cL_law 252 = .ok (.ireturn, 1) := by decide +kernel
theorem dL_law_253 : decode cL_law 253 = .ok (.aload_n 1, 1) := by decide +kernel
theorem dL_law_254 : decode cL_law 254 = .ok (.invokevirtual 30, 3) := by decide +kernel
theorem dL_law_257 : decode cL_law 257 = .ok (.aload_n 2, 1) := by decide +kernel
theorem dL_law_258 : decode cL_law 258 = .ok (.invokevirtual 33, 3) := by decide +kernel
theorem dL_law_261 : decode cL_law 261 = .ok (.if_icmp .eq 1020, 3) := by decide +kernel
theorem dL_law_264 : decode cL_law 264 = .ok (.iconst 0, 1) := by decide +kernel
theorem dL_law_265 : decode cL_law 265 = .ok (.ireturn, 1) := by decide +kernel
theorem dL_law_266 : decode cL_law 266 = .ok (.aload_n 1, 1) := by decide +kernel
theorem dL_law_267 : decode cL_law 267 = .ok (.aload_n 0, 1) := by decide +kernel
theorem dL_law_268 : decode cL_law 268 = .ok (.iload_n 3, 1) := by decide +kernel
theorem dL_law_269 : decode cL_law 269 = .ok (.iconst 1, 1) := by decide +kernel
theorem dL_law_270 : decode cL_law 270 = .ok (.iadd, 1) := by decide +kernel
theorem dL_law_271 : decode cL_law 271 = .ok (.iaload, 1) := by decide +kernel
theorem dL_law_272 : decode cL_law 272 = .ok (.aload_n 0, 1) := by decide +kernel
theorem dL_law_273 : decode cL_law 273 = .ok (.iload_n 3, 1) := by decide +kernel
theorem dL_law_274 : decode cL_law 274 = .ok (.iconst 2, 1) := by decide +kernel
theorem dL_law_275 : decode cL_law 275 = .ok (.iadd, 1) := by decide +kernel
theorem dL_law_276 : decode cL_law 276 = .ok (.iaload, 1) := by decide +kernel
theorem dL_law_277 : decode cL_law 277 = .ok (.invokevirtual 34, 3) := by decide +kernel
theorem dL_law_280 : decode cL_law 280 = .ok (.aload_n 2, 1) := by decide +kernel
theorem dL_law_281 : decode cL_law 281 = .ok (.aload_n 0, 1) := by decide +kernel
theorem dL_law_282 : decode cL_law 282 = .ok (.iload_n 3, 1) := by decide +kernel
theorem dL_law_283 : decode cL_law 283 = .ok (.iconst 1, 1) := by decide +kernel
theorem dL_law_284 : decode cL_law 284 = .ok (.iadd, 1) := by decide +kernel
theorem dL_law_285 : decode cL_law 285 = .ok (.iaload, 1) := by decide +kernel
theorem dL_law_286 : decode cL_law 286 = .ok (.aload_n 0, 1) := by decide +kernel
theorem dL_law_287 : decode cL_law 287 = .ok (.iload_n 3, 1) := by decide +kernel
theorem dL_law_288 : decode cL_law 288 = .ok (.iconst 2, 1) := by decide +kernel
theorem dL_law_289 : decode cL_law 289 = .ok (.iadd, 1) := by decide +kernel
theorem dL_law_290 : decode cL_law 290 = .ok (.iaload, 1) := by decide +kernel
theorem dL_law_291 : decode cL_law 291 = .ok (.invokevirtual 38, 3) := by decide +kernel
theorem dL_law_294 : decode cL_law 294 = .ok (.if_icmp .eq 987, 3) := by decide +kernel
theorem dL_law_297 : decode cL_law 297 = .ok (.iconst 0, 1) := by decide +kernel
theorem dL_law_298 : decode cL_law 298 = .ok (.ireturn, 1) := by decide +kernel
theorem dL_law_299 : decode cL_law 299 = .ok (.aload_n 1, 1) := by decide +kernel
theorem dL_law_300 : decode cL_law 300 = .ok (.invokevirtual 39, 3) := by decide +kernel
theorem dL_law_303 : decode cL_law 303 = .ok (.aload_n 2, 1) := by decide +kernel
theorem dL_law_304 : decode cL_law 304 = .ok (.invokevirtual 42, 3) := by decide +kernel
theorem dL_law_307 : decode cL_law 307 = .ok (.if_icmp .eq 974, 3) := by decide +kernel
theorem dL_law_310 : decode cL_law 310 = .ok (.iconst 0, 1) := by decide +kernel
theorem dL_law_311 : decode cL_law 311 = .ok (.ireturn, 1) := by decide +kernel
theorem dL_law_312 : decode cL_law 312 = .ok (.aload_n 1, 1) := by decide +kernel
theorem dL_law_313 : decode cL_law 313 = .ok (.aload_n 0, 1) := by decide +kernel
theorem dL_law_314 : decode cL_law 314 = .ok (.iload_n 3, 1) := by decide +kernel
theorem dL_law_315 : decode cL_law 315 = .ok (.iconst 1, 1) := by decide +kernel
theorem dL_law_316 : decode cL_law 316 = .ok (.iadd, 1) := by decide +kernel
theorem dL_law_317 : decode cL_law 317 = .ok (.iaload, 1) := by decide +kernel
theorem dL_law_318 : decode cL_law 318 = .ok (.i2l, 1) := by decide +kernel
theorem dL_law_319 : decode cL_law 319 = .ok (.bipush 32, 2) := by decide +kernel
theorem dL_law_321 : decode cL_law 321 = .ok (.lshl, 1) := by decide +kernel
theorem dL_law_322 : decode cL_law 322 = .ok (.aload_n 0, 1) := by decide +kernel
theorem dL_law_323 : decode cL_law 323 = .ok (.iload_n 3, 1) := by decide +kernel
theorem dL_law_324 : decode cL_law 324 = .ok (.iconst 2, 1) := by decide +kernel
theorem dL_law_325 : decode cL_law 325 = .ok (.iadd, 1) := by decide +kernel
theorem dL_law_326 : decode cL_law 326 = .ok (.iaload, 1) := by decide +kernel
theorem dL_law_327 : decode cL_law 327 = .ok (.i2l, 1) := by decide +kernel
theorem dL_law_328 : decode cL_law 328 = .ok (.ldc2_w 13, 3) := by decide +kernel
theorem dL_law_331 : decode cL_law 331 = .ok (.land, 1) := by decide +kernel
theorem dL_law_332 : decode cL_law 332 = .ok (.lor, 1) := by decide +kernel
theorem dL_law_333 : decode cL_law 333 = .ok (.invokevirtual 43, 3) := by decide +kernel
theorem dL_law_336 : decode cL_law 336 = .ok (.aload_n 2, 1) := by decide +kernel
theorem dL_law_337 : decode cL_law 337 = .ok (.aload_n 0, 1) := by decide +kernel
theorem dL_law_338 : decode cL_law 338 = .ok (.iload_n 3, 1) := by decide +kernel
theorem dL_law_339 : decode cL_law 339 = .ok (.iconst 1, 1) := by decide +kernel
theorem dL_law_340 : decode cL_law 340 = .ok (.iadd, 1) := by decide +kernel
theorem dL_law_341 : decode cL_law 341 = .ok (.iaload, 1) := by decide +kernel
theorem dL_law_342 : decode cL_law 342 = .ok (.i2l, 1) := by decide +kernel
theorem dL_law_343 : decode cL_law 343 = .ok (.bipush 32, 2) := by decide +kernel
theorem dL_law_345 : decode cL_law 345 = .ok (.lshl, 1) := by decide +kernel
theorem dL_law_346 : decode cL_law 346 = .ok (.aload_n 0, 1) := by decide +kernel
theorem dL_law_347 : decode cL_law 347 = .ok (.iload_n 3, 1) := by decide +kernel
theorem dL_law_348 : decode cL_law 348 = .ok (.iconst 2, 1) := by decide +kernel
theorem dL_law_349 : decode cL_law 349 = .ok (.iadd, 1) := by decide +kernel
theorem dL_law_350 : decode cL_law 350 = .ok (.iaload, 1) := by decide +kernel
theorem dL_law_351 : decode cL_law 351 = .ok (.i2l, 1) := by decide +kernel
theorem dL_law_352 : decode cL_law 352 = .ok (.ldc2_w 13, 3) := by decide +kernel
theorem dL_law_355 : decode cL_law 355 = .ok (.land, 1) := by decide +kernel
theorem dL_law_356 : decode cL_law 356 = .ok (.lor, 1) := by decide +kernel
theorem dL_law_357 : decode cL_law 357 = .ok (.invokevirtual 46, 3) := by decide +kernel
theorem dL_law_360 : decode cL_law 360 = .ok (.if_icmp .eq 921, 3) := by decide +kernel
theorem dL_law_363 : decode cL_law 363 = .ok (.iconst 0, 1) := by decide +kernel
theorem dL_law_364 : decode cL_law 364 = .ok (.ireturn, 1) := by decide +kernel
theorem dL_law_365 : decode cL_law 365 = .ok (.aload_n 1, 1) := by decide +kernel
theorem dL_law_366 : decode cL_law 366 = .ok (.aload_n 0, 1) := by decide +kernel
theorem dL_law_367 : decode cL_law 367 = .ok (.iload_n 3, 1) := by decide +kernel
theorem dL_law_368 : decode cL_law 368 = .ok (.iconst 1, 1) := by decide +kernel
theorem dL_law_369 : decode cL_law 369 = .ok (.iadd, 1) := by decide +kernel
theorem dL_law_370 : decode cL_law 370 = .ok (.iaload, 1) := by decide +kernel
theorem dL_law_371 : decode cL_law 371 = .ok (.aload_n 0, 1) := by decide +kernel
theorem dL_law_372 : decode cL_law 372 = .ok (.iload_n 3, 1) := by decide +kernel
theorem dL_law_373 : decode cL_law 373 = .ok (.iconst 2, 1) := by decide +kernel
theorem dL_law_374 : decode cL_law 374 = .ok (.iadd, 1) := by decide +kernel
theorem dL_law_375 : decode cL_law 375 = .ok (.iaload, 1) := by decide +kernel
theorem dL_law_376 : decode cL_law 376 = .ok (.aload_n 0, 1) := by decide +kernel
theorem dL_law_377 : decode cL_law 377 = .ok (.iload_n 3, 1) := by decide +kernel
theorem dL_law_378 : decode cL_law 378 = .ok (.iconst 3, 1) := by decide +kernel
theorem dL_law_379 : decode cL_law 379 = .ok (.iadd, 1) := by decide +kernel
theorem dL_law_380 : decode cL_law 380 = .ok (.iaload, 1) := by decide +kernel
theorem dL_law_381 : decode cL_law 381 = .ok (.aload_n 0, 1) := by decide +kernel
theorem dL_law_382 : decode cL_law 382 = .ok (.iload_n 3, 1) := by decide +kernel
theorem dL_law_383 : decode cL_law 383 = .ok (.iconst 4, 1) := by decide +kernel
theorem dL_law_384 : decode cL_law 384 = .ok (.iadd, 1) := by decide +kernel
theorem dL_law_385 : decode cL_law 385 = .ok (.iaload, 1) := by decide +kernel
theorem dL_law_386 : decode cL_law 386 = .ok (.invokevirtual 47, 3) := by decide +kernel
theorem dL_law_389 : decode cL_law 389 = .ok (.aload_n 2, 1) := by decide +kernel
theorem dL_law_390 : decode cL_law 390 = .ok (.aload_n 0, 1) := by decide +kernel
theorem dL_law_391 : decode cL_law 391 = .ok (.iload_n 3, 1) := by decide +kernel
theorem dL_law_392 : decode cL_law 392 = .ok (.iconst 1, 1) := by decide +kernel
theorem dL_law_393 : decode cL_law 393 = .ok (.iadd, 1) := by decide +kernel
theorem dL_law_394 : decode cL_law 394 = .ok (.iaload, 1) := by decide +kernel
theorem dL_law_395 : decode cL_law 395 = .ok (.aload_n 0, 1) := by decide +kernel
theorem dL_law_396 : decode cL_law 396 = .ok (.iload_n 3, 1) := by decide +kernel
theorem dL_law_397 : decode cL_law 397 = .ok (.iconst 2, 1) := by decide +kernel
theorem dL_law_398 : decode cL_law 398 = .ok (.iadd, 1) := by decide +kernel
theorem dL_law_399 : decode cL_law 399 = .ok (.iaload, 1) := by decide +kernel
theorem dL_law_400 : decode cL_law 400 = .ok (.aload_n 0, 1) := by decide +kernel
theorem dL_law_401 : decode cL_law 401 = .ok (.iload_n 3, 1) := by decide +kernel
theorem dL_law_402 : decode cL_law 402 = .ok (.iconst 3, 1) := by decide +kernel
theorem dL_law_403 : decode cL_law 403 = .ok (.iadd, 1) := by decide +kernel
theorem dL_law_404 : decode cL_law 404 = .ok (.iaload, 1) := by decide +kernel
theorem dL_law_405 : decode cL_law 405 = .ok (.aload_n 0, 1) := by decide +kernel
theorem dL_law_406 : decode cL_law 406 = .ok (.iload_n 3, 1) := by decide +kernel
theorem dL_law_407 : decode cL_law 407 = .ok (.iconst 4, 1) := by decide +kernel
theorem dL_law_408 : decode cL_law 408 = .ok (.iadd, 1) := by decide +kernel
theorem dL_law_409 : decode cL_law 409 = .ok (.iaload, 1) := by decide +kernel
theorem dL_law_410 : decode cL_law 410 = .ok (.invokevirtual 51, 3) := by decide +kernel
theorem dL_law_413 : decode cL_law 413 = .ok (.if_icmp .eq 868, 3) := by decide +kernel
theorem dL_law_416 : decode cL_law 416 = .ok (.iconst 0, 1) := by decide +kernel
theorem dL_law_417 : decode cL_law 417 = .ok (.ireturn, 1) := by decide +kernel
theorem dL_law_418 : decode cL_law 418 = .ok (.aload_n 1, 1) := by decide +kernel
theorem dL_law_419 : decode cL_law 419 = .ok (.aload_n 0, 1) := by decide +kernel
theorem dL_law_420 : decode cL_law 420 = .ok (.iload_n 3, 1) := by decide +kernel
theorem dL_law_421 : decode cL_law 421 = .ok (.iconst 1, 1) := by decide +kernel
theorem dL_law_422 : decode cL_law 422 = .ok (.iadd, 1) := by decide +kernel
theorem dL_law_423 : decode cL_law 423 = .ok (.iaload, 1) := by decide +kernel
theorem dL_law_424 : decode cL_law 424 = .ok (.aload_n 0, 1) := by decide +kernel
theorem dL_law_425 : decode cL_law 425 = .ok (.iload_n 3, 1) := by decide +kernel
theorem dL_law_426 : decode cL_law 426 = .ok (.iconst 2, 1) := by decide +kernel
theorem dL_law_427 : decode cL_law 427 = .ok (.iadd, 1) := by decide +kernel
theorem dL_law_428 : decode cL_law 428 = .ok (.iaload, 1) := by decide +kernel
theorem dL_law_429 : decode cL_law 429 = .ok (.invokevirtual 52, 3) := by decide +kernel
theorem dL_law_432 : decode cL_law 432 = .ok (.aload_n 2, 1) := by decide +kernel
theorem dL_law_433 : decode cL_law 433 = .ok (.aload_n 0, 1) := by decide +kernel
theorem dL_law_434 : decode cL_law 434 = .ok (.iload_n 3, 1) := by decide +kernel
theorem dL_law_435 : decode cL_law 435 = .ok (.iconst 1, 1) := by decide +kernel
theorem dL_law_436 : decode cL_law 436 = .ok (.iadd, 1) := by decide +kernel
theorem dL_law_437 : decode cL_law 437 = .ok (.iaload, 1) := by decide +kernel
theorem dL_law_438 : decode cL_law 438 = .ok (.aload_n 0, 1) := by decide +kernel
end
section
theorem dL_law_439 : decode cL_law 439 = .ok (.iload_n 3, 1) := by decide +kernel
theorem dL_law_440 : decode cL_law 440 = .ok (.iconst 2, 1) := by decide +kernel
theorem dL_law_441 : decode cL_law 441 = .ok (.iadd, 1) := by decide +kernel
theorem dL_law_442 : decode cL_law 442 = .ok (.iaload, 1) := by decide +kernel
theorem dL_law_443 : decode cL_law 443 = .ok (.invokevirtual 55, 3) := by decide +kernel
theorem dL_law_446 : decode cL_law 446 = .ok (.if_icmp .eq 835, 3) := by decide +kernel
theorem dL_law_449 : decode cL_law 449 = .ok (.iconst 0, 1) := by decide +kernel
theorem dL_law_450 : decode cL_law 450 = .ok (.ireturn, 1) := by decide +kernel
theorem dL_law_451 : decode cL_law 451 = .ok (.aload_n 1, 1) := by decide +kernel
theorem dL_law_452 : decode cL_law 452 = .ok (.aload_n 0, 1) := by decide +kernel
theorem dL_law_453 : decode cL_law 453 = .ok (.iload_n 3, 1) := by decide +kernel
theorem dL_law_454 : decode cL_law 454 = .ok (.iconst 1, 1) := by decide +kernel
theorem dL_law_455 : decode cL_law 455 = .ok (.iadd, 1) := by decide +kernel
theorem dL_law_456 : decode cL_law 456 = .ok (.iaload, 1) := by decide +kernel
theorem dL_law_457 : decode cL_law 457 = .ok (.invokevirtual 56, 3) := by decide +kernel
theorem dL_law_460 : decode cL_law 460 = .ok (.aload_n 2, 1) := by decide +kernel
theorem dL_law_461 : decode cL_law 461 = .ok (.aload_n 0, 1) := by decide +kernel
theorem dL_law_462 : decode cL_law 462 = .ok (.iload_n 3, 1) := by decide +kernel
theorem dL_law_463 : decode cL_law 463 = .ok (.iconst 1, 1) := by decide +kernel
theorem dL_law_464 : decode cL_law 464 = .ok (.iadd, 1) := by decide +kernel
theorem dL_law_465 : decode cL_law 465 = .ok (.iaload, 1) := by decide +kernel
theorem dL_law_466 : decode cL_law 466 = .ok (.invokevirtual 59, 3) := by decide +kernel
theorem dL_law_469 : decode cL_law 469 = .ok (.if_icmp .eq 812, 3) := by decide +kernel
theorem dL_law_472 : decode cL_law 472 = .ok (.iconst 0, 1) := by decide +kernel
theorem dL_law_473 : decode cL_law 473 = .ok (.ireturn, 1) := by decide +kernel
theorem dL_law_474 : decode cL_law 474 = .ok (.aload_n 1, 1) := by decide +kernel
theorem dL_law_475 : decode cL_law 475 = .ok (.aload_n 0, 1) := by decide +kernel
theorem dL_law_476 : decode cL_law 476 = .ok (.iload_n 3, 1) := by decide +kernel
theorem dL_law_477 : decode cL_law 477 = .ok (.iconst 1, 1) := by decide +kernel
theorem dL_law_478 : decode cL_law 478 = .ok (.iadd, 1) := by decide +kernel
theorem dL_law_479 : decode cL_law 479 = .ok (.iaload, 1) := by decide +kernel
theorem dL_law_480 : decode cL_law 480 = .ok (.aload_n 0, 1) := by decide +kernel
theorem dL_law_481 : decode cL_law 481 = .ok (.iload_n 3, 1) := by decide +kernel
theorem dL_law_482 : decode cL_law 482 = .ok (.iconst 2, 1) := by decide +kernel
theorem dL_law_483 : decode cL_law 483 = .ok (.iadd, 1) := by decide +kernel
theorem dL_law_484 : decode cL_law 484 = .ok (.iaload, 1) := by decide +kernel
theorem dL_law_485 : decode cL_law 485 = .ok (.invokevirtual 60, 3) := by decide +kernel
theorem dL_law_488 : decode cL_law 488 = .ok (.aload_n 2, 1) := by decide +kernel
theorem dL_law_489 : decode cL_law 489 = .ok (.aload_n 0, 1) := by decide +kernel
theorem dL_law_490 : decode cL_law 490 = .ok (.iload_n 3, 1) := by decide +kernel
theorem dL_law_491 : decode cL_law 491 = .ok (.iconst 1, 1) := by decide +kernel
theorem dL_law_492 : decode cL_law 492 = .ok (.iadd, 1) := by decide +kernel
theorem dL_law_493 : decode cL_law 493 = .ok (.iaload, 1) := by decide +kernel
theorem dL_law_494 : decode cL_law 494 = .ok (.aload_n 0, 1) := by decide +kernel
theorem dL_law_495 : decode cL_law 495 = .ok (.iload_n 3, 1) := by decide +kernel
theorem dL_law_496 : decode cL_law 496 = .ok (.iconst 2, 1) := by decide +kernel
theorem dL_law_497 : decode cL_law 497 = .ok (.iadd, 1) := by decide +kernel
theorem dL_law_498 : decode cL_law 498 = .ok (.iaload, 1) := by decide +kernel
theorem dL_law_499 : decode cL_law 499 = .ok (.invokevirtual 63, 3) := by decide +kernel
theorem dL_law_502 : decode cL_law 502 = .ok (.if_icmp .eq 779, 3) := by decide +kernel
theorem dL_law_505 : decode cL_law 505 = .ok (.iconst 0, 1) := by decide +kernel
theorem dL_law_506 : decode cL_law 506 = .ok (.ireturn, 1) := by decide +kernel
theorem dL_law_507 : decode cL_law 507 = .ok (.aload_n 1, 1) := by decide +kernel
theorem dL_law_508 : decode cL_law 508 = .ok (.aload_n 0, 1) := by decide +kernel
theorem dL_law_509 : decode cL_law 509 = .ok (.iload_n 3, 1) := by decide +kernel
theorem dL_law_510 : decode cL_law 510 = .ok (.iconst 1, 1) := by decide +kernel
theorem dL_law_511 : decode cL_law 511 = .ok (.iadd, 1) := by decide +kernel
theorem dL_law_512 : decode cL_law 512 = .ok (.iaload, 1) := by decide +kernel
theorem dL_law_513 : decode cL_law 513 = .ok (.aload_n 0, 1) := by decide +kernel
theorem dL_law_514 : decode cL_law 514 = .ok (.iload_n 3, 1) := by decide +kernel
theorem dL_law_515 : decode cL_law 515 = .ok (.iconst 2, 1) := by decide +kernel
theorem dL_law_516 : decode cL_law 516 = .ok (.iadd, 1) := by decide +kernel
theorem dL_law_517 : decode cL_law 517 = .ok (.iaload, 1) := by decide +kernel
theorem dL_law_518 : decode cL_law 518 = .ok (.aload_n 0, 1) := by decide +kernel
theorem dL_law_519 : decode cL_law 519 = .ok (.iload_n 3, 1) := by decide +kernel
theorem dL_law_520 : decode cL_law 520 = .ok (.iconst 3, 1) := by decide +kernel
theorem dL_law_521 : decode cL_law 521 = .ok (.iadd, 1) := by decide +kernel
theorem dL_law_522 : decode cL_law 522 = .ok (.iaload, 1) := by decide +kernel
theorem dL_law_523 : decode cL_law 523 = .ok (.invokevirtual 64, 3) := by decide +kernel
theorem dL_law_526 : decode cL_law 526 = .ok (.aload_n 2, 1) := by decide +kernel
theorem dL_law_527 : decode cL_law 527 = .ok (.aload_n 0, 1) := by decide +kernel
theorem dL_law_528 : decode cL_law 528 = .ok (.iload_n 3, 1) := by decide +kernel
theorem dL_law_529 : decode cL_law 529 = .ok (.iconst 1, 1) := by decide +kernel
theorem dL_law_530 : decode cL_law 530 = .ok (.iadd, 1) := by decide +kernel
theorem dL_law_531 : decode cL_law 531 = .ok (.iaload, 1) := by decide +kernel
theorem dL_law_532 : decode cL_law 532 = .ok (.aload_n 0, 1) := by decide +kernel
theorem dL_law_533 : decode cL_law 533 = .ok (.iload_n 3, 1) := by decide +kernel
theorem dL_law_534 : decode cL_law 534 = .ok (.iconst 2, 1) := by decide +kernel
theorem dL_law_535 : decode cL_law 535 = .ok (.iadd, 1) := by decide +kernel
theorem dL_law_536 : decode cL_law 536 = .ok (.iaload, 1) := by decide +kernel
theorem dL_law_537 : decode cL_law 537 = .ok (.aload_n 0, 1) := by decide +kernel
theorem dL_law_538 : decode cL_law 538 = .ok (.iload_n 3, 1) := by decide +kernel
theorem dL_law_539 : decode cL_law 539 = .ok (.iconst 3, 1) := by decide +kernel
theorem dL_law_540 : decode cL_law 540 = .ok (.iadd, 1) := by decide +kernel
theorem dL_law_541 : decode cL_law 541 = .ok (.iaload, 1) := by decide +kernel
theorem dL_law_542 : decode cL_law 542 = .ok (.invokevirtual 68, 3) := by decide +kernel
theorem dL_law_545 : decode cL_law 545 = .ok (.if_icmp .eq 736, 3) := by decide +kernel
theorem dL_law_548 : decode cL_law 548 = .ok (.iconst 0, 1) := by decide +kernel
theorem dL_law_549 : decode cL_law 549 = .ok (.ireturn, 1) := by decide +kernel
theorem dL_law_550 : decode cL_law 550 = .ok (.aload_n 1, 1) := by decide +kernel
theorem dL_law_551 : decode cL_law 551 = .ok (.invokevirtual 69, 3) := by decide +kernel
theorem dL_law_554 : decode cL_law 554 = .ok (.aload_n 2, 1) := by decide +kernel
theorem dL_law_555 : decode cL_law 555 = .ok (.invokevirtual 72, 3) := by decide +kernel
theorem dL_law_558 : decode cL_law 558 = .ok (.if_icmp .eq 723, 3) := by decide +kernel
theorem dL_law_561 : decode cL_law 561 = .ok (.iconst 0, 1) := by decide +kernel
theorem dL_law_562 : decode cL_law 562 = .ok (.ireturn, 1) := by decide +kernel
theorem dL_law_563 : decode cL_law 563 = .ok (.aload_n 1, 1) := by decide +kernel
theorem dL_law_564 : decode cL_law 564 = .ok (.aload_n 0, 1) := by decide +kernel
theorem dL_law_565 : decode cL_law 565 = .ok (.iload_n 3, 1) := by decide +kernel
theorem dL_law_566 : decode cL_law 566 = .ok (.iconst 1, 1) := by decide +kernel
theorem dL_law_567 : decode cL_law 567 = .ok (.iadd, 1) := by decide +kernel
theorem dL_law_568 : decode cL_law 568 = .ok (.iaload, 1) := by decide +kernel
theorem dL_law_569 : decode cL_law 569 = .ok (.aload_n 0, 1) := by decide +kernel
theorem dL_law_570 : decode cL_law 570 = .ok (.iload_n 3, 1) := by decide +kernel
theorem dL_law_571 : decode cL_law 571 = .ok (.iconst 2, 1) := by decide +kernel
theorem dL_law_572 : decode cL_law 572 = .ok (.iadd, 1) := by decide +kernel
theorem dL_law_573 : decode cL_law 573 = .ok (.iaload, 1) := by decide +kernel
theorem dL_law_574 : decode cL_law 574 = .ok (.aload_n 0, 1) := by decide +kernel
theorem dL_law_575 : decode cL_law 575 = .ok (.iload_n 3, 1) := by decide +kernel
theorem dL_law_576 : decode cL_law 576 = .ok (.iconst 3, 1) := by decide +kernel
theorem dL_law_577 : decode cL_law 577 = .ok (.iadd, 1) := by decide +kernel
theorem dL_law_578 : decode cL_law 578 = .ok (.iaload, 1) := by decide +kernel
theorem dL_law_579 : decode cL_law 579 = .ok (.invokevirtual 73, 3) := by decide +kernel
theorem dL_law_582 : decode cL_law 582 = .ok (.aload_n 2, 1) := by decide +kernel
theorem dL_law_583 : decode cL_law 583 = .ok (.aload_n 0, 1) := by decide +kernel
theorem dL_law_584 : decode cL_law 584 = .ok (.iload_n 3, 1) := by decide +kernel
theorem dL_law_585 : decode cL_law 585 = .ok (.iconst 1, 1) := by decide +kernel
theorem dL_law_586 : decode cL_law 586 = .ok (.iadd, 1) := by decide +kernel
theorem dL_law_587 : decode cL_law 587 = .ok (.iaload, 1) := by decide +kernel
theorem dL_law_588 : decode cL_law 588 = .ok (.aload_n 0, 1) := by decide +kernel
theorem dL_law_589 : decode cL_law 589 = .ok (.iload_n 3, 1) := by decide +kernel
theorem dL_law_590 : decode cL_law 590 = .ok (.iconst 2, 1) := by decide +kernel
theorem dL_law_591 : decode cL_law 591 = .ok (.iadd, 1) := by decide +kernel
theorem dL_law_592 : decode cL_law 592 = .ok (.iaload, 1) := by decide +kernel
theorem dL_law_593 : decode cL_law 593 = .ok (.aload_n 0, 1) := by decide +kernel
theorem dL_law_594 : decode cL_law 594 = .ok (.iload_n 3, 1) := by decide +kernel
theorem dL_law_595 : decode cL_law 595 = .ok (.iconst 3, 1) := by decide +kernel
theorem dL_law_596 : decode cL_law 596 = .ok (.iadd, 1) := by decide +kernel
theorem dL_law_597 : decode cL_law 597 = .ok (.iaload, 1) := by decide +kernel
theorem dL_law_598 : decode cL_law 598 = .ok (.invokevirtual 76, 3) := by decide +kernel
theorem dL_law_601 : decode cL_law 601 = .ok (.if_icmp .eq 680, 3) := by decide +kernel
theorem dL_law_604 : decode cL_law 604 = .ok (.iconst 0, 1) := by decide +kernel
theorem dL_law_605 : decode cL_law 605 = .ok (.ireturn, 1) := by decide +kernel
theorem dL_law_606 : decode cL_law 606 = .ok (.aload_n 1, 1) := by decide +kernel
theorem dL_law_607 : decode cL_law 607 = .ok (.aload_n 0, 1) := by decide +kernel
theorem dL_law_608 : decode cL_law 608 = .ok (.iload_n 3, 1) := by decide +kernel
theorem dL_law_609 : decode cL_law 609 = .ok (.iconst 1, 1) := by decide +kernel
theorem dL_law_610 : decode cL_law 610 = .ok (.iadd, 1) := by decide +kernel
theorem dL_law_611 : decode cL_law 611 = .ok (.iaload, 1) := by decide +kernel
theorem dL_law_612 : decode cL_law 612 = .ok (.aload_n 0, 1) := by decide +kernel
theorem dL_law_613 : decode cL_law 613 = .ok (.iload_n 3, 1) := by decide +kernel
theorem dL_law_614 : decode cL_law 614 = .ok (.iconst 2, 1) := by decide +kernel
theorem dL_law_615 : decode cL_law 615 = .ok (.iadd, 1) := by decide +kernel
theorem dL_law_616 : decode cL_law 616 = .ok (.iaload, 1) := by decide +kernel
theorem dL_law_617 : decode cL_law 617 = .ok (.aload_n 0, 1) := by decide +kernel
theorem dL_law_618 : decode cL_law 618 = .ok (.iload_n 3, 1) := by decide +kernel
theorem dL_law_619 : decode cL_law 619 = .ok (.iconst 3, 1) := by decide +kernel
theorem dL_law_620 : decode cL_law 620 = .ok (.iadd, 1) := by decide +kernel
theorem dL_law_621 : decode cL_law 621 = .ok (.iaload, 1) := by decide +kernel
theorem dL_law_622 : decode cL_law 622 = .ok (.invokevirtual 77, 3) := by decide +kernel
theorem dL_law_625 : decode cL_law 625 = .ok (.aload_n 2, 1) := by decide +kernel
theorem dL_law_626 : decode cL_law 626 = .ok (.aload_n 0, 1) := by decide +kernel
theorem dL_law_627 : decode cL_law 627 = .ok (.iload_n 3, 1) := by decide +kernel
theorem dL_law_628 : decode cL_law 628 = .ok (.iconst 1, 1) := by decide +kernel
theorem dL_law_629 : decode cL_law 629 = .ok (.iadd, 1) := by decide +kernel
theorem dL_law_630 : decode cL_law 630 = .ok (.iaload, 1) := by decide +kernel
theorem dL_law_631 : decode cL_law 631 = .ok (.aload_n 0, 1) := by decide +kernel
theorem dL_law_632 : decode cL_law 632 = .ok (.iload_n 3, 1) := by decide +kernel
theorem dL_law_633 : decode cL_law 633 = .ok (.iconst 2, 1) := by decide +kernel
theorem dL_law_634 : decode cL_law 634 = .ok (.iadd, 1) := by decide +kernel
theorem dL_law_635 : decode cL_law 635 = .ok (.iaload, 1) := by decide +kernel
theorem dL_law_636 : decode cL_law 636 = .ok (.aload_n 0, 1) := by decide +kernel
theorem dL_law_637 : decode cL_law 637 = .ok (.iload_n 3, 1) := by decide +kernel
theorem dL_law_638 : decode cL_law 638 = .ok (.iconst 3, 1) := by decide +kernel
theorem dL_law_639 : decode cL_law 639 = .ok (.iadd, 1) := by decide +kernel
theorem dL_law_640 : decode cL_law 640 = .ok (.iaload, 1) := by decide +kernel
theorem dL_law_641 : decode cL_law 641 = .ok (.invokevirtual 80, 3) := by decide +kernel
theorem dL_law_644 : decode cL_law 644 = .ok (.if_icmp .eq 637, 3) := by decide +kernel
theorem dL_law_647 : decode cL_law 647 = .ok (.iconst 0, 1) := by decide +kernel
theorem dL_law_648 : decode cL_law 648 = .ok (.ireturn, 1) := by decide +kernel
theorem dL_law_649 : decode cL_law 649 = .ok (.aload_n 1, 1) := by decide +kernel
theorem dL_law_650 : decode cL_law 650 = .ok (.aload_n 0, 1) := by decide +kernel
theorem dL_law_651 : decode cL_law 651 = .ok (.iload_n 3, 1) := by decide +kernel
theorem dL_law_652 : decode cL_law 652 = .ok (.iconst 1, 1) := by decide +kernel
theorem dL_law_653 : decode cL_law 653 = .ok (.iadd, 1) := by decide +kernel
theorem dL_law_654 : decode cL_law 654 = .ok (.iaload, 1) := by decide +kernel
theorem dL_law_655 : decode cL_law 655 = .ok (.aload_n 0, 1) := by decide +kernel
theorem dL_law_656 : decode cL_law 656 = .ok (.iload_n 3, 1) := by decide +kernel
theorem dL_law_657 : decode cL_law 657 = .ok (.iconst 2, 1) := by decide +kernel
theorem dL_law_658 : decode cL_law 658 = .ok (.iadd, 1) := by decide +kernel
theorem dL_law_659 : decode cL_law 659 = .ok (.iaload, 1) := by decide +kernel
theorem dL_law_660 : decode cL_law 660 = .ok (.aload_n 0, 1) := by decide +kernel
theorem dL_law_661 : decode cL_law 661 = .ok (.iload_n 3, 1) := by decide +kernel
theorem dL_law_662 : decode cL_law 662 = .ok (.iconst 3, 1) := by decide +kernel
theorem dL_law_663 : decode cL_law 663 = .ok (.iadd, 1) := by decide +kernel
theorem dL_law_664 : decode cL_law 664 = .ok (.iaload, 1) := by decide +kernel
theorem dL_law_665 : decode cL_law 665 = .ok (.aload_n 0, 1) := by decide +kernel
theorem dL_law_666 : decode cL_law 666 = .ok (.iload_n 3, 1) := by decide +kernel
theorem dL_law_667 : decode cL_law 667 = .ok (.iconst 4, 1) := by decide +kernel
theorem dL_law_668 : decode cL_law 668 = .ok (.iadd, 1) := by decide +kernel
theorem dL_law_669 : decode cL_law 669 = .ok (.iaload, 1) := by decide +kernel
theorem dL_law_670 : decode cL_law 670 = .ok (.aload_n 0, 1) := by decide +kernel
theorem dL_law_671 : decode cL_law 671 = .ok (.iload_n 3, 1) := by decide +kernel
theorem dL_law_672 : decode cL_law 672 = .ok (.iconst 5, 1) := by decide +kernel
theorem dL_law_673 : decode cL_law 673 = .ok (.iadd, 1) := by decide +kernel
theorem dL_law_674 : decode cL_law 674 = .ok (.iaload, 1) := by decide +kernel
theorem dL_law_675 : decode cL_law 675 = .ok (.aload_n 0, 1) := by decide +kernel
theorem dL_law_676 : decode cL_law 676 = .ok (.iload_n 3, 1) := by decide +kernel
theorem dL_law_677 : decode cL_law 677 = .ok (.bipush 6, 2) := by decide +kernel
theorem dL_law_679 : decode cL_law 679 = .ok (.iadd, 1) := by decide +kernel
theorem dL_law_680 : decode cL_law 680 = .ok (.iaload, 1) := by decide +kernel
theorem dL_law_681 : decode cL_law 681 = .ok (.invokevirtual 81, 3) := by decide +kernel
theorem dL_law_684 : decode cL_law 684 = .ok (.aload_n 2, 1) := by decide +kernel
theorem dL_law_685 : decode cL_law 685 = .ok (.aload_n 0, 1) := by decide +kernel
theorem dL_law_686 : decode cL_law 686 = .ok (.iload_n 3, 1) := by decide +kernel
theorem dL_law_687 : decode cL_law 687 = .ok (.iconst 1, 1) := by decide +kernel
theorem dL_law_688 : decode cL_law 688 = .ok (.iadd, 1) := by decide +kernel
theorem dL_law_689 : decode cL_law 689 = .ok (.iaload, 1) := by decide +kernel
theorem dL_law_690 : decode cL_law 690 = .ok (.aload_n 0, 1) := by decide +kernel
theorem dL_law_691 : decode cL_law 691 = .ok (.iload_n 3, 1) := by decide +kernel
theorem dL_law_692 : decode cL_law 692 = .ok (.iconst 2, 1) := by decide +kernel
theorem dL_law_693 : decode cL_law 693 = .ok (.iadd, 1) := by decide +kernel
theorem dL_law_694 : decode cL_law 694 = .ok (.iaload, 1) := by decide +kernel
theorem dL_law_695 : decode cL_law 695 = .ok (.aload_n 0, 1) := by decide +kernel
theorem dL_law_696 : decode cL_law 696 = .ok (.iload_n 3, 1) := by decide +kernel
theorem dL_law_697 : decode cL_law 697 = .ok (.iconst 3, 1) := by decide +kernel
theorem dL_law_698 : decode cL_law 698 = .ok (.iadd, 1) := by decide +kernel
theorem dL_law_699 : decode cL_law 699 = .ok (.iaload, 1) := by decide +kernel
theorem dL_law_700 : decode cL_law 700 = .ok (.aload_n 0, 1) := by decide +kernel
theorem dL_law_701 : decode cL_law 701 = .ok (.iload_n 3, 1) := by decide +kernel
theorem dL_law_702 : decode cL_law 702 = .ok (.iconst 4, 1) := by decide +kernel
theorem dL_law_703 : decode cL_law 703 = .ok (.iadd, 1) := by decide +kernel
theorem dL_law_704 : decode cL_law 704 = .ok (.iaload, 1) := by decide +kernel
theorem dL_law_705 : decode cL_law 705 = .ok (.aload_n 0, 1) := by decide +kernel
theorem dL_law_706 : decode cL_law 706 = .ok (.iload_n 3, 1) := by decide +kernel
theorem dL_law_707 : decode cL_law 707 = .ok (.iconst 5, 1) := by decide +kernel
theorem dL_law_708 : decode cL_law 708 = .ok (.iadd, 1) := by decide +kernel
theorem dL_law_709 : decode cL_law 709 = .ok (.iaload, 1) := by decide +kernel
theorem dL_law_710 : decode cL_law 710 = .ok (.aload_n 0, 1) := by decide +kernel
theorem dL_law_711 : decode cL_law 711 = .ok (.iload_n 3, 1) := by decide +kernel
theorem dL_law_712 : decode cL_law 712 = .ok (.bipush 6, 2) := by decide +kernel
theorem dL_law_714 : decode cL_law 714 = .ok (.iadd, 1) := by decide +kernel
theorem dL_law_715 : decode cL_law 715 = .ok (.iaload, 1) := by decide +kernel
theorem dL_law_716 : decode cL_law 716 = .ok (.invokevirtual 85, 3) := by decide +kernel
theorem dL_law_719 : decode cL_law 719 = .ok (.if_icmp .eq 562, 3) := by decide +kernel
end
section
theorem dL_law_722 : decode cL_law 722 = .ok (.iconst 0, 1) := by decide +kernel
theorem dL_law_723 : decode cL_law 723 = .ok (.ireturn, 1) := by decide +kernel
theorem dL_law_724 : decode cL_law 724 = .ok (.aload_n 1, 1) := by decide +kernel
theorem dL_law_725 : decode cL_law 725 = .ok (.invokevirtual 86, 3) := by decide +kernel
theorem dL_law_728 : decode cL_law 728 = .ok (.aload_n 2, 1) := by decide +kernel
theorem dL_law_729 : decode cL_law 729 = .ok (.invokevirtual 89, 3) := by decide +kernel
theorem dL_law_732 : decode cL_law 732 = .ok (.if_icmp .eq 549, 3) := by decide +kernel
theorem dL_law_735 : decode cL_law 735 = .ok (.iconst 0, 1) := by decide +kernel
theorem dL_law_736 : decode cL_law 736 = .ok (.ireturn, 1) := by decide +kernel
theorem dL_law_737 : decode cL_law 737 = .ok (.aload_n 1, 1) := by decide +kernel
theorem dL_law_738 : decode cL_law 738 = .ok (.aload_n 0, 1) := by decide +kernel
theorem dL_law_739 : decode cL_law 739 = .ok (.iload_n 3, 1) := by decide +kernel
theorem dL_law_740 : decode cL_law 740 = .ok (.iconst 1, 1) := by decide +kernel
theorem dL_law_741 : decode cL_law 741 = .ok (.iadd, 1) := by decide +kernel
theorem dL_law_742 : decode cL_law 742 = .ok (.iaload, 1) := by decide +kernel
theorem dL_law_743 : decode cL_law 743 = .ok (.aload_n 0, 1) := by decide +kernel
theorem dL_law_744 : decode cL_law 744 = .ok (.iload_n 3, 1) := by decide +kernel
theorem dL_law_745 : decode cL_law 745 = .ok (.iconst 2, 1) := by decide +kernel
theorem dL_law_746 : decode cL_law 746 = .ok (.iadd, 1) := by decide +kernel
theorem dL_law_747 : decode cL_law 747 = .ok (.iaload, 1) := by decide +kernel
theorem dL_law_748 : decode cL_law 748 = .ok (.aload_n 0, 1) := by decide +kernel
theorem dL_law_749 : decode cL_law 749 = .ok (.iload_n 3, 1) := by decide +kernel
theorem dL_law_750 : decode cL_law 750 = .ok (.iconst 3, 1) := by decide +kernel
theorem dL_law_751 : decode cL_law 751 = .ok (.iadd, 1) := by decide +kernel
theorem dL_law_752 : decode cL_law 752 = .ok (.iaload, 1) := by decide +kernel
theorem dL_law_753 : decode cL_law 753 = .ok (.invokevirtual 90, 3) := by decide +kernel
theorem dL_law_756 : decode cL_law 756 = .ok (.aload_n 2, 1) := by decide +kernel
theorem dL_law_757 : decode cL_law 757 = .ok (.aload_n 0, 1) := by decide +kernel
theorem dL_law_758 : decode cL_law 758 = .ok (.iload_n 3, 1) := by decide +kernel
theorem dL_law_759 : decode cL_law 759 = .ok (.iconst 1, 1) := by decide +kernel
theorem dL_law_760 : decode cL_law 760 = .ok (.iadd, 1) := by decide +kernel
theorem dL_law_761 : decode cL_law 761 = .ok (.iaload, 1) := by decide +kernel
theorem dL_law_762 : decode cL_law 762 = .ok (.aload_n 0, 1) := by decide +kernel
theorem dL_law_763 : decode cL_law 763 = .ok (.iload_n 3, 1) := by decide +kernel
theorem dL_law_764 : decode cL_law 764 = .ok (.iconst 2, 1) := by decide +kernel
theorem dL_law_765 : decode cL_law 765 = .ok (.iadd, 1) := by decide +kernel
theorem dL_law_766 : decode cL_law 766 = .ok (.iaload, 1) := by decide +kernel
theorem dL_law_767 : decode cL_law 767 = .ok (.aload_n 0, 1) := by decide +kernel
theorem dL_law_768 : decode cL_law 768 = .ok (.iload_n 3, 1) := by decide +kernel
theorem dL_law_769 : decode cL_law 769 = .ok (.iconst 3, 1) := by decide +kernel
theorem dL_law_770 : decode cL_law 770 = .ok (.iadd, 1) := by decide +kernel
theorem dL_law_771 : decode cL_law 771 = .ok (.iaload, 1) := by decide +kernel
theorem dL_law_772 : decode cL_law 772 = .ok (.invokevirtual 93, 3) := by decide +kernel
theorem dL_law_775 : decode cL_law 775 = .ok (.if_icmp .eq 506, 3) := by decide +kernel
theorem dL_law_778 : decode cL_law 778 = .ok (.iconst 0, 1) := by decide +kernel
theorem dL_law_779 : decode cL_law 779 = .ok (.ireturn, 1) := by decide +kernel
theorem dL_law_780 : decode cL_law 780 = .ok (.aload_n 1, 1) := by decide +kernel
theorem dL_law_781 : decode cL_law 781 = .ok (.aload_n 0, 1) := by decide +kernel
theorem dL_law_782 : decode cL_law 782 = .ok (.iload_n 3, 1) := by decide +kernel
theorem dL_law_783 : decode cL_law 783 = .ok (.iconst 1, 1) := by decide +kernel
theorem dL_law_784 : decode cL_law 784 = .ok (.iadd, 1) := by decide +kernel
theorem dL_law_785 : decode cL_law 785 = .ok (.iaload, 1) := by decide +kernel
theorem dL_law_786 : decode cL_law 786 = .ok (.aload_n 0, 1) := by decide +kernel
theorem dL_law_787 : decode cL_law 787 = .ok (.iload_n 3, 1) := by decide +kernel
theorem dL_law_788 : decode cL_law 788 = .ok (.iconst 2, 1) := by decide +kernel
theorem dL_law_789 : decode cL_law 789 = .ok (.iadd, 1) := by decide +kernel
theorem dL_law_790 : decode cL_law 790 = .ok (.iaload, 1) := by decide +kernel
theorem dL_law_791 : decode cL_law 791 = .ok (.aload_n 0, 1) := by decide +kernel
theorem dL_law_792 : decode cL_law 792 = .ok (.iload_n 3, 1) := by decide +kernel
theorem dL_law_793 : decode cL_law 793 = .ok (.iconst 3, 1) := by decide +kernel
theorem dL_law_794 : decode cL_law 794 = .ok (.iadd, 1) := by decide +kernel
theorem dL_law_795 : decode cL_law 795 = .ok (.iaload, 1) := by decide +kernel
theorem dL_law_796 : decode cL_law 796 = .ok (.aload_n 0, 1) := by decide +kernel
theorem dL_law_797 : decode cL_law 797 = .ok (.iload_n 3, 1) := by decide +kernel
theorem dL_law_798 : decode cL_law 798 = .ok (.iconst 4, 1) := by decide +kernel
theorem dL_law_799 : decode cL_law 799 = .ok (.iadd, 1) := by decide +kernel
theorem dL_law_800 : decode cL_law 800 = .ok (.iaload, 1) := by decide +kernel
theorem dL_law_801 : decode cL_law 801 = .ok (.aload_n 0, 1) := by decide +kernel
theorem dL_law_802 : decode cL_law 802 = .ok (.iload_n 3, 1) := by decide +kernel
theorem dL_law_803 : decode cL_law 803 = .ok (.iconst 5, 1) := by decide +kernel
theorem dL_law_804 : decode cL_law 804 = .ok (.iadd, 1) := by decide +kernel
theorem dL_law_805 : decode cL_law 805 = .ok (.iaload, 1) := by decide +kernel
theorem dL_law_806 : decode cL_law 806 = .ok (.invokevirtual 94, 3) := by decide +kernel
theorem dL_law_809 : decode cL_law 809 = .ok (.aload_n 2, 1) := by decide +kernel
theorem dL_law_810 : decode cL_law 810 = .ok (.aload_n 0, 1) := by decide +kernel
theorem dL_law_811 : decode cL_law 811 = .ok (.iload_n 3, 1) := by decide +kernel
theorem dL_law_812 : decode cL_law 812 = .ok (.iconst 1, 1) := by decide +kernel
theorem dL_law_813 : decode cL_law 813 = .ok (.iadd, 1) := by decide +kernel
theorem dL_law_814 : decode cL_law 814 = .ok (.iaload, 1) := by decide +kernel
theorem dL_law_815 : decode cL_law 815 = .ok (.aload_n 0, 1) := by decide +kernel
theorem dL_law_816 : decode cL_law 816 = .ok (.iload_n 3, 1) := by decide +kernel
theorem dL_law_817 : decode cL_law 817 = .ok (.iconst 2, 1) := by decide +kernel
theorem dL_law_818 : decode cL_law 818 = .ok (.iadd, 1) := by decide +kernel
theorem dL_law_819 : decode cL_law 819 = .ok (.iaload, 1) := by decide +kernel
theorem dL_law_820 : decode cL_law 820 = .ok (.aload_n 0, 1) := by decide +kernel
theorem dL_law_821 : decode cL_law 821 = .ok (.iload_n 3, 1) := by decide +kernel
theorem dL_law_822 : decode cL_law 822 = .ok (.iconst 3, 1) := by decide +kernel
theorem dL_law_823 : decode cL_law 823 = .ok (.iadd, 1) := by decide +kernel
theorem dL_law_824 : decode cL_law 824 = .ok (.iaload, 1) := by decide +kernel
theorem dL_law_825 : decode cL_law 825 = .ok (.aload_n 0, 1) := by decide +kernel
theorem dL_law_826 : decode cL_law 826 = .ok (.iload_n 3, 1) := by decide +kernel
theorem dL_law_827 : decode cL_law 827 = .ok (.iconst 4, 1) := by decide +kernel
theorem dL_law_828 : decode cL_law 828 = .ok (.iadd, 1) := by decide +kernel
theorem dL_law_829 : decode cL_law 829 = .ok (.iaload, 1) := by decide +kernel
theorem dL_law_830 : decode cL_law 830 = .ok (.aload_n 0, 1) := by decide +kernel
theorem dL_law_831 : decode cL_law 831 = .ok (.iload_n 3, 1) := by decide +kernel
theorem dL_law_832 : decode cL_law 832 = .ok (.iconst 5, 1) := by decide +kernel
theorem dL_law_833 : decode cL_law 833 = .ok (.iadd, 1) := by decide +kernel
theorem dL_law_834 : decode cL_law 834 = .ok (.iaload, 1) := by decide +kernel
theorem dL_law_835 : decode cL_law 835 = .ok (.invokevirtual 98, 3) := by decide +kernel
theorem dL_law_838 : decode cL_law 838 = .ok (.if_icmp .eq 443, 3) := by decide +kernel
theorem dL_law_841 : decode cL_law 841 = .ok (.iconst 0, 1) := by decide +kernel
theorem dL_law_842 : decode cL_law 842 = .ok (.ireturn, 1) := by decide +kernel
theorem dL_law_843 : decode cL_law 843 = .ok (.aload_n 1, 1) := by decide +kernel
theorem dL_law_844 : decode cL_law 844 = .ok (.aload_n 0, 1) := by decide +kernel
theorem dL_law_845 : decode cL_law 845 = .ok (.iload_n 3, 1) := by decide +kernel
theorem dL_law_846 : decode cL_law 846 = .ok (.iconst 1, 1) := by decide +kernel
theorem dL_law_847 : decode cL_law 847 = .ok (.iadd, 1) := by decide +kernel
theorem dL_law_848 : decode cL_law 848 = .ok (.iaload, 1) := by decide +kernel
theorem dL_law_849 : decode cL_law 849 = .ok (.aload_n 0, 1) := by decide +kernel
theorem dL_law_850 : decode cL_law 850 = .ok (.iload_n 3, 1) := by decide +kernel
theorem dL_law_851 : decode cL_law 851 = .ok (.iconst 2, 1) := by decide +kernel
theorem dL_law_852 : decode cL_law 852 = .ok (.iadd, 1) := by decide +kernel
theorem dL_law_853 : decode cL_law 853 = .ok (.iaload, 1) := by decide +kernel
theorem dL_law_854 : decode cL_law 854 = .ok (.invokevirtual 99, 3) := by decide +kernel
theorem dL_law_857 : decode cL_law 857 = .ok (.aload_n 2, 1) := by decide +kernel
theorem dL_law_858 : decode cL_law 858 = .ok (.aload_n 0, 1) := by decide +kernel
theorem dL_law_859 : decode cL_law 859 = .ok (.iload_n 3, 1) := by decide +kernel
theorem dL_law_860 : decode cL_law 860 = .ok (.iconst 1, 1) := by decide +kernel
theorem dL_law_861 : decode cL_law 861 = .ok (.iadd, 1) := by decide +kernel
theorem dL_law_862 : decode cL_law 862 = .ok (.iaload, 1) := by decide +kernel
theorem dL_law_863 : decode cL_law 863 = .ok (.aload_n 0, 1) := by decide +kernel
theorem dL_law_864 : decode cL_law 864 = .ok (.iload_n 3, 1) := by decide +kernel
theorem dL_law_865 : decode cL_law 865 = .ok (.iconst 2, 1) := by decide +kernel
theorem dL_law_866 : decode cL_law 866 = .ok (.iadd, 1) := by decide +kernel
theorem dL_law_867 : decode cL_law 867 = .ok (.iaload, 1) := by decide +kernel
theorem dL_law_868 : decode cL_law 868 = .ok (.invokevirtual 103, 3) := by decide +kernel
theorem dL_law_871 : decode cL_law 871 = .ok (.lcmp, 1) := by decide +kernel
theorem dL_law_872 : decode cL_law 872 = .ok (.ifCond .eq 409, 3) := by decide +kernel
theorem dL_law_875 : decode cL_law 875 = .ok (.iconst 0, 1) := by decide +kernel
theorem dL_law_876 : decode cL_law 876 = .ok (.ireturn, 1) := by decide +kernel
theorem dL_law_877 : decode cL_law 877 = .ok (.aload_n 1, 1) := by decide +kernel
theorem dL_law_878 : decode cL_law 878 = .ok (.aload_n 0, 1) := by decide +kernel
theorem dL_law_879 : decode cL_law 879 = .ok (.iload_n 3, 1) := by decide +kernel
theorem dL_law_880 : decode cL_law 880 = .ok (.iconst 1, 1) := by decide +kernel
theorem dL_law_881 : decode cL_law 881 = .ok (.iadd, 1) := by decide +kernel
theorem dL_law_882 : decode cL_law 882 = .ok (.iaload, 1) := by decide +kernel
theorem dL_law_883 : decode cL_law 883 = .ok (.aload_n 0, 1) := by decide +kernel
theorem dL_law_884 : decode cL_law 884 = .ok (.iload_n 3, 1) := by decide +kernel
theorem dL_law_885 : decode cL_law 885 = .ok (.iconst 2, 1) := by decide +kernel
theorem dL_law_886 : decode cL_law 886 = .ok (.iadd, 1) := by decide +kernel
theorem dL_law_887 : decode cL_law 887 = .ok (.iaload, 1) := by decide +kernel
theorem dL_law_888 : decode cL_law 888 = .ok (.invokevirtual 104, 3) := by decide +kernel
theorem dL_law_891 : decode cL_law 891 = .ok (.aload_n 2, 1) := by decide +kernel
theorem dL_law_892 : decode cL_law 892 = .ok (.aload_n 0, 1) := by decide +kernel
theorem dL_law_893 : decode cL_law 893 = .ok (.iload_n 3, 1) := by decide +kernel
theorem dL_law_894 : decode cL_law 894 = .ok (.iconst 1, 1) := by decide +kernel
theorem dL_law_895 : decode cL_law 895 = .ok (.iadd, 1) := by decide +kernel
theorem dL_law_896 : decode cL_law 896 = .ok (.iaload, 1) := by decide +kernel
theorem dL_law_897 : decode cL_law 897 = .ok (.aload_n 0, 1) := by decide +kernel
theorem dL_law_898 : decode cL_law 898 = .ok (.iload_n 3, 1) := by decide +kernel
theorem dL_law_899 : decode cL_law 899 = .ok (.iconst 2, 1) := by decide +kernel
theorem dL_law_900 : decode cL_law 900 = .ok (.iadd, 1) := by decide +kernel
theorem dL_law_901 : decode cL_law 901 = .ok (.iaload, 1) := by decide +kernel
theorem dL_law_902 : decode cL_law 902 = .ok (.invokevirtual 107, 3) := by decide +kernel
theorem dL_law_905 : decode cL_law 905 = .ok (.if_icmp .eq 376, 3) := by decide +kernel
theorem dL_law_908 : decode cL_law 908 = .ok (.iconst 0, 1) := by decide +kernel
theorem dL_law_909 : decode cL_law 909 = .ok (.ireturn, 1) := by decide +kernel
theorem dL_law_910 : decode cL_law 910 = .ok (.aload_n 1, 1) := by decide +kernel
theorem dL_law_911 : decode cL_law 911 = .ok (.aload_n 0, 1) := by decide +kernel
theorem dL_law_912 : decode cL_law 912 = .ok (.iload_n 3, 1) := by decide +kernel
theorem dL_law_913 : decode cL_law 913 = .ok (.iconst 1, 1) := by decide +kernel
theorem dL_law_914 : decode cL_law 914 = .ok (.iadd, 1) := by decide +kernel
theorem dL_law_915 : decode cL_law 915 = .ok (.iaload, 1) := by decide +kernel
theorem dL_law_916 : decode cL_law 916 = .ok (.invokevirtual 108, 3) := by decide +kernel
theorem dL_law_919 : decode cL_law 919 = .ok (.aload_n 2, 1) := by decide +kernel
theorem dL_law_920 : decode cL_law 920 = .ok (.aload_n 0, 1) := by decide +kernel
theorem dL_law_921 : decode cL_law 921 = .ok (.iload_n 3, 1) := by decide +kernel
theorem dL_law_922 : decode cL_law 922 = .ok (.iconst 1, 1) := by decide +kernel
theorem dL_law_923 : decode cL_law 923 = .ok (.iadd, 1) := by decide +kernel
theorem dL_law_924 : decode cL_law 924 = .ok (.iaload, 1) := by decide +kernel
theorem dL_law_925 : decode cL_law 925 = .ok (.invokevirtual 112, 3) := by decide +kernel
theorem dL_law_928 : decode cL_law 928 = .ok (.lcmp, 1) := by decide +kernel
theorem dL_law_929 : decode cL_law 929 = .ok (.ifCond .eq 352, 3) := by decide +kernel
theorem dL_law_932 : decode cL_law 932 = .ok (.iconst 0, 1) := by decide +kernel
theorem dL_law_933 : decode cL_law 933 = .ok (.ireturn, 1) := by decide +kernel
theorem dL_law_934 : decode cL_law 934 = .ok (.aload_n 1, 1) := by decide +kernel
theorem dL_law_935 : decode cL_law 935 = .ok (.aload_n 0, 1) := by decide +kernel
theorem dL_law_936 : decode cL_law 936 = .ok (.iload_n 3, 1) := by decide +kernel
theorem dL_law_937 : decode cL_law 937 = .ok (.iconst 1, 1) := by decide +kernel
theorem dL_law_938 : decode cL_law 938 = .ok (.iadd, 1) := by decide +kernel
theorem dL_law_939 : decode cL_law 939 = .ok (.iaload, 1) := by decide +kernel
theorem dL_law_940 : decode cL_law 940 = .ok (.aload_n 0, 1) := by decide +kernel
theorem dL_law_941 : decode cL_law 941 = .ok (.iload_n 3, 1) := by decide +kernel
theorem dL_law_942 : decode cL_law 942 = .ok (.iconst 2, 1) := by decide +kernel
theorem dL_law_943 : decode cL_law 943 = .ok (.iadd, 1) := by decide +kernel
theorem dL_law_944 : decode cL_law 944 = .ok (.iaload, 1) := by decide +kernel
theorem dL_law_945 : decode cL_law 945 = .ok (.i2l, 1) := by decide +kernel
theorem dL_law_946 : decode cL_law 946 = .ok (.bipush 32, 2) := by decide +kernel
theorem dL_law_948 : decode cL_law 948 = .ok (.lshl, 1) := by decide +kernel
theorem dL_law_949 : decode cL_law 949 = .ok (.aload_n 0, 1) := by decide +kernel
theorem dL_law_950 : decode cL_law 950 = .ok (.iload_n 3, 1) := by decide +kernel
theorem dL_law_951 : decode cL_law 951 = .ok (.iconst 3, 1) := by decide +kernel
theorem dL_law_952 : decode cL_law 952 = .ok (.iadd, 1) := by decide +kernel
theorem dL_law_953 : decode cL_law 953 = .ok (.iaload, 1) := by decide +kernel
theorem dL_law_954 : decode cL_law 954 = .ok (.i2l, 1) := by decide +kernel
theorem dL_law_955 : decode cL_law 955 = .ok (.ldc2_w 13, 3) := by decide +kernel
theorem dL_law_958 : decode cL_law 958 = .ok (.land, 1) := by decide +kernel
theorem dL_law_959 : decode cL_law 959 = .ok (.lor, 1) := by decide +kernel
theorem dL_law_960 : decode cL_law 960 = .ok (.aload_n 0, 1) := by decide +kernel
theorem dL_law_961 : decode cL_law 961 = .ok (.iload_n 3, 1) := by decide +kernel
theorem dL_law_962 : decode cL_law 962 = .ok (.iconst 4, 1) := by decide +kernel
theorem dL_law_963 : decode cL_law 963 = .ok (.iadd, 1) := by decide +kernel
theorem dL_law_964 : decode cL_law 964 = .ok (.iaload, 1) := by decide +kernel
theorem dL_law_965 : decode cL_law 965 = .ok (.invokevirtual 113, 3) := by decide +kernel
theorem dL_law_968 : decode cL_law 968 = .ok (.aload_n 2, 1) := by decide +kernel
theorem dL_law_969 : decode cL_law 969 = .ok (.aload_n 0, 1) := by decide +kernel
theorem dL_law_970 : decode cL_law 970 = .ok (.iload_n 3, 1) := by decide +kernel
theorem dL_law_971 : decode cL_law 971 = .ok (.iconst 1, 1) := by decide +kernel
theorem dL_law_972 : decode cL_law 972 = .ok (.iadd, 1) := by decide +kernel
theorem dL_law_973 : decode cL_law 973 = .ok (.iaload, 1) := by decide +kernel
theorem dL_law_974 : decode cL_law 974 = .ok (.aload_n 0, 1) := by decide +kernel
theorem dL_law_975 : decode cL_law 975 = .ok (.iload_n 3, 1) := by decide +kernel
theorem dL_law_976 : decode cL_law 976 = .ok (.iconst 2, 1) := by decide +kernel
theorem dL_law_977 : decode cL_law 977 = .ok (.iadd, 1) := by decide +kernel
theorem dL_law_978 : decode cL_law 978 = .ok (.iaload, 1) := by decide +kernel
theorem dL_law_979 : decode cL_law 979 = .ok (.i2l, 1) := by decide +kernel
theorem dL_law_980 : decode cL_law 980 = .ok (.bipush 32, 2) := by decide +kernel
theorem dL_law_982 : decode cL_law 982 = .ok (.lshl, 1) := by decide +kernel
theorem dL_law_983 : decode cL_law 983 = .ok (.aload_n 0, 1) := by decide +kernel
theorem dL_law_984 : decode cL_law 984 = .ok (.iload_n 3, 1) := by decide +kernel
theorem dL_law_985 : decode cL_law 985 = .ok (.iconst 3, 1) := by decide +kernel
theorem dL_law_986 : decode cL_law 986 = .ok (.iadd, 1) := by decide +kernel
theorem dL_law_987 : decode cL_law 987 = .ok (.iaload, 1) := by decide +kernel
theorem dL_law_988 : decode cL_law 988 = .ok (.i2l, 1) := by decide +kernel
theorem dL_law_989 : decode cL_law 989 = .ok (.ldc2_w 13, 3) := by decide +kernel
theorem dL_law_992 : decode cL_law 992 = .ok (.land, 1) := by decide +kernel
theorem dL_law_993 : decode cL_law 993 = .ok (.lor, 1) := by decide +kernel
theorem dL_law_994 : decode cL_law 994 = .ok (.aload_n 0, 1) := by decide +kernel
theorem dL_law_995 : decode cL_law 995 = .ok (.iload_n 3, 1) := by decide +kernel
theorem dL_law_996 : decode cL_law 996 = .ok (.iconst 4, 1) := by decide +kernel
theorem dL_law_997 : decode cL_law 997 = .ok (.iadd, 1) := by decide +kernel
theorem dL_law_998 : decode cL_law 998 = .ok (.iaload, 1) := by decide +kernel
theorem dL_law_999 : decode cL_law 999 = .ok (.invokevirtual 117, 3) := by decide +kernel
theorem dL_law_1002 : decode cL_law 1002 = .ok (.if_icmp .eq 279, 3) := by decide +kernel
end
section
theorem dL_law_1005 : decode cL_law 1005 = .ok (.iconst 0, 1) := by decide +kernel
theorem dL_law_1006 : decode cL_law 1006 = .ok (.ireturn, 1) := by decide +kernel
theorem dL_law_1007 : decode cL_law 1007 = .ok (.aload_n 1, 1) := by decide +kernel
theorem dL_law_1008 : decode cL_law 1008 = .ok (.aload_n 0, 1) := by decide +kernel
theorem dL_law_1009 : decode cL_law 1009 = .ok (.iload_n 3, 1) := by decide +kernel
theorem dL_law_1010 : decode cL_law 1010 = .ok (.iconst 1, 1) := by decide +kernel
theorem dL_law_1011 : decode cL_law 1011 = .ok (.iadd, 1) := by decide +kernel
theorem dL_law_1012 : decode cL_law 1012 = .ok (.iaload, 1) := by decide +kernel
theorem dL_law_1013 : decode cL_law 1013 = .ok (.aload_n 0, 1) := by decide +kernel
theorem dL_law_1014 : decode cL_law 1014 = .ok (.iload_n 3, 1) := by decide +kernel
theorem dL_law_1015 : decode cL_law 1015 = .ok (.iconst 2, 1) := by decide +kernel
theorem dL_law_1016 : decode cL_law 1016 = .ok (.iadd, 1) := by decide +kernel
theorem dL_law_1017 : decode cL_law 1017 = .ok (.iaload, 1) := by decide +kernel
theorem dL_law_1018 : decode cL_law 1018 = .ok (.aload_n 0, 1) := by decide +kernel
theorem dL_law_1019 : decode cL_law 1019 = .ok (.iload_n 3, 1) := by decide +kernel
theorem dL_law_1020 : decode cL_law 1020 = .ok (.iconst 3, 1) := by decide +kernel
theorem dL_law_1021 : decode cL_law 1021 = .ok (.iadd, 1) := by decide +kernel
theorem dL_law_1022 : decode cL_law 1022 = .ok (.iaload, 1) := by decide +kernel
theorem dL_law_1023 : decode cL_law 1023 = .ok (.aload_n 0, 1) := by decide +kernel
theorem dL_law_1024 : decode cL_law 1024 = .ok (.iload_n 3, 1) := by decide +kernel
theorem dL_law_1025 : decode cL_law 1025 = .ok (.iconst 4, 1) := by decide +kernel
theorem dL_law_1026 : decode cL_law 1026 = .ok (.iadd, 1) := by decide +kernel
theorem dL_law_1027 : decode cL_law 1027 = .ok (.iaload, 1) := by decide +kernel
theorem dL_law_1028 : decode cL_law 1028 = .ok (.aload_n 0, 1) := by decide +kernel
theorem dL_law_1029 : decode cL_law 1029 = .ok (.iload_n 3, 1) := by decide +kernel
theorem dL_law_1030 : decode cL_law 1030 = .ok (.iconst 5, 1) := by decide +kernel
theorem dL_law_1031 : decode cL_law 1031 = .ok (.iadd, 1) := by decide +kernel
theorem dL_law_1032 : decode cL_law 1032 = .ok (.iaload, 1) := by decide +kernel
theorem dL_law_1033 : decode cL_law 1033 = .ok (.i2l, 1) := by decide +kernel
theorem dL_law_1034 : decode cL_law 1034 = .ok (.bipush 32, 2) := by decide +kernel
theorem dL_law_1036 : decode cL_law 1036 = .ok (.lshl, 1) := by decide +kernel
theorem dL_law_1037 : decode cL_law 1037 = .ok (.aload_n 0, 1) := by decide +kernel
theorem dL_law_1038 : decode cL_law 1038 = .ok (.iload_n 3, 1) := by decide +kernel
theorem dL_law_1039 : decode cL_law 1039 = .ok (.bipush 6, 2) := by decide +kernel
theorem dL_law_1041 : decode cL_law 1041 = .ok (.iadd, 1) := by decide +kernel
theorem dL_law_1042 : decode cL_law 1042 = .ok (.iaload, 1) := by decide +kernel
theorem dL_law_1043 : decode cL_law 1043 = .ok (.i2l, 1) := by decide +kernel
theorem dL_law_1044 : decode cL_law 1044 = .ok (.ldc2_w 13, 3) := by decide +kernel
theorem dL_law_1047 : decode cL_law 1047 = .ok (.land, 1) := by decide +kernel
theorem dL_law_1048 : decode cL_law 1048 = .ok (.lor, 1) := by decide +kernel
theorem dL_law_1049 : decode cL_law 1049 = .ok (.aload_n 0, 1) := by decide +kernel
theorem dL_law_1050 : decode cL_law 1050 = .ok (.iload_n 3, 1) := by decide +kernel
theorem dL_law_1051 : decode cL_law 1051 = .ok (.bipush 7, 2) := by decide +kernel
theorem dL_law_1053 : decode cL_law 1053 = .ok (.iadd, 1) := by decide +kernel
theorem dL_law_1054 : decode cL_law 1054 = .ok (.iaload, 1) := by decide +kernel
theorem dL_law_1055 : decode cL_law 1055 = .ok (.aload_n 0, 1) := by decide +kernel
theorem dL_law_1056 : decode cL_law 1056 = .ok (.iload_n 3, 1) := by decide +kernel
theorem dL_law_1057 : decode cL_law 1057 = .ok (.bipush 8, 2) := by decide +kernel
theorem dL_law_1059 : decode cL_law 1059 = .ok (.iadd, 1) := by decide +kernel
theorem dL_law_1060 : decode cL_law 1060 = .ok (.iaload, 1) := by decide +kernel
theorem dL_law_1061 : decode cL_law 1061 = .ok (.invokevirtual 118, 3) := by decide +kernel
theorem dL_law_1064 : decode cL_law 1064 = .ok (.aload_n 2, 1) := by decide +kernel
theorem dL_law_1065 : decode cL_law 1065 = .ok (.aload_n 0, 1) := by decide +kernel
theorem dL_law_1066 : decode cL_law 1066 = .ok (.iload_n 3, 1) := by decide +kernel
theorem dL_law_1067 : decode cL_law 1067 = .ok (.iconst 1, 1) := by decide +kernel
theorem dL_law_1068 : decode cL_law 1068 = .ok (.iadd, 1) := by decide +kernel
theorem dL_law_1069 : decode cL_law 1069 = .ok (.iaload, 1) := by decide +kernel
theorem dL_law_1070 : decode cL_law 1070 = .ok (.aload_n 0, 1) := by decide +kernel
theorem dL_law_1071 : decode cL_law 1071 = .ok (.iload_n 3, 1) := by decide +kernel
theorem dL_law_1072 : decode cL_law 1072 = .ok (.iconst 2, 1) := by decide +kernel
theorem dL_law_1073 : decode cL_law 1073 = .ok (.iadd, 1) := by decide +kernel
theorem dL_law_1074 : decode cL_law 1074 = .ok (.iaload, 1) := by decide +kernel
theorem dL_law_1075 : decode cL_law 1075 = .ok (.aload_n 0, 1) := by decide +kernel
theorem dL_law_1076 : decode cL_law 1076 = .ok (.iload_n 3, 1) := by decide +kernel
theorem dL_law_1077 : decode cL_law 1077 = .ok (.iconst 3, 1) := by decide +kernel
theorem dL_law_1078 : decode cL_law 1078 = .ok (.iadd, 1) := by decide +kernel
theorem dL_law_1079 : decode cL_law 1079 = .ok (.iaload, 1) := by decide +kernel
theorem dL_law_1080 : decode cL_law 1080 = .ok (.aload_n 0, 1) := by decide +kernel
theorem dL_law_1081 : decode cL_law 1081 = .ok (.iload_n 3, 1) := by decide +kernel
theorem dL_law_1082 : decode cL_law 1082 = .ok (.iconst 4, 1) := by decide +kernel
theorem dL_law_1083 : decode cL_law 1083 = .ok (.iadd, 1) := by decide +kernel
theorem dL_law_1084 : decode cL_law 1084 = .ok (.iaload, 1) := by decide +kernel
theorem dL_law_1085 : decode cL_law 1085 = .ok (.aload_n 0, 1) := by decide +kernel
theorem dL_law_1086 : decode cL_law 1086 = .ok (.iload_n 3, 1) := by decide +kernel
theorem dL_law_1087 : decode cL_law 1087 = .ok (.iconst 5, 1) := by decide +kernel
theorem dL_law_1088 : decode cL_law 1088 = .ok (.iadd, 1) := by decide +kernel
theorem dL_law_1089 : decode cL_law 1089 = .ok (.iaload, 1) := by decide +kernel
theorem dL_law_1090 : decode cL_law 1090 = .ok (.i2l, 1) := by decide +kernel
theorem dL_law_1091 : decode cL_law 1091 = .ok (.bipush 32, 2) := by decide +kernel
theorem dL_law_1093 : decode cL_law 1093 = .ok (.lshl, 1) := by decide +kernel
theorem dL_law_1094 : decode cL_law 1094 = .ok (.aload_n 0, 1) := by decide +kernel
theorem dL_law_1095 : decode cL_law 1095 = .ok (.iload_n 3, 1) := by decide +kernel
theorem dL_law_1096 : decode cL_law 1096 = .ok (.bipush 6, 2) := by decide +kernel
theorem dL_law_1098 : decode cL_law 1098 = .ok (.iadd, 1) := by decide +kernel
theorem dL_law_1099 : decode cL_law 1099 = .ok (.iaload, 1) := by decide +kernel
theorem dL_law_1100 : decode cL_law 1100 = .ok (.i2l, 1) := by decide +kernel
theorem dL_law_1101 : decode cL_law 1101 = .ok (.ldc2_w 13, 3) := by decide +kernel
theorem dL_law_1104 : decode cL_law 1104 = .ok (.land, 1) := by decide +kernel
theorem dL_law_1105 : decode cL_law 1105 = .ok (.lor, 1) := by decide +kernel
theorem dL_law_1106 : decode cL_law 1106 = .ok (.aload_n 0, 1) := by decide +kernel
theorem dL_law_1107 : decode cL_law 1107 = .ok (.iload_n 3, 1) := by decide +kernel
theorem dL_law_1108 : decode cL_law 1108 = .ok (.bipush 7, 2) := by decide +kernel
theorem dL_law_1110 : decode cL_law 1110 = .ok (.iadd, 1) := by decide +kernel
theorem dL_law_1111 : decode cL_law 1111 = .ok (.iaload, 1) := by decide +kernel
theorem dL_law_1112 : decode cL_law 1112 = .ok (.aload_n 0, 1) := by decide +kernel
theorem dL_law_1113 : decode cL_law 1113 = .ok (.iload_n 3, 1) := by decide +kernel
theorem dL_law_1114 : decode cL_law 1114 = .ok (.bipush 8, 2) := by decide +kernel
theorem dL_law_1116 : decode cL_law 1116 = .ok (.iadd, 1) := by decide +kernel
theorem dL_law_1117 : decode cL_law 1117 = .ok (.iaload, 1) := by decide +kernel
theorem dL_law_1118 : decode cL_law 1118 = .ok (.invokevirtual 122, 3) := by decide +kernel
theorem dL_law_1121 : decode cL_law 1121 = .ok (.if_icmp .eq 160, 3) := by decide +kernel
theorem dL_law_1124 : decode cL_law 1124 = .ok (.iconst 0, 1) := by decide +kernel
theorem dL_law_1125 : decode cL_law 1125 = .ok (.ireturn, 1) := by decide +kernel
theorem dL_law_1126 : decode cL_law 1126 = .ok (.aload_n 1, 1) := by decide +kernel
theorem dL_law_1127 : decode cL_law 1127 = .ok (.aload_n 0, 1) := by decide +kernel
theorem dL_law_1128 : decode cL_law 1128 = .ok (.iload_n 3, 1) := by decide +kernel
theorem dL_law_1129 : decode cL_law 1129 = .ok (.iconst 1, 1) := by decide +kernel
theorem dL_law_1130 : decode cL_law 1130 = .ok (.iadd, 1) := by decide +kernel
theorem dL_law_1131 : decode cL_law 1131 = .ok (.iaload, 1) := by decide +kernel
theorem dL_law_1132 : decode cL_law 1132 = .ok (.aload_n 0, 1) := by decide +kernel
theorem dL_law_1133 : decode cL_law 1133 = .ok (.iload_n 3, 1) := by decide +kernel
theorem dL_law_1134 : decode cL_law 1134 = .ok (.iconst 2, 1) := by decide +kernel
theorem dL_law_1135 : decode cL_law 1135 = .ok (.iadd, 1) := by decide +kernel
theorem dL_law_1136 : decode cL_law 1136 = .ok (.iaload, 1) := by decide +kernel
theorem dL_law_1137 : decode cL_law 1137 = .ok (.aload_n 0, 1) := by decide +kernel
theorem dL_law_1138 : decode cL_law 1138 = .ok (.iload_n 3, 1) := by decide +kernel
theorem dL_law_1139 : decode cL_law 1139 = .ok (.iconst 3, 1) := by decide +kernel
theorem dL_law_1140 : decode cL_law 1140 = .ok (.iadd, 1) := by decide +kernel
theorem dL_law_1141 : decode cL_law 1141 = .ok (.iaload, 1) := by decide +kernel
theorem dL_law_1142 : decode cL_law 1142 = .ok (.invokevirtual 123, 3) := by decide +kernel
theorem dL_law_1145 : decode cL_law 1145 = .ok (.aload_n 2, 1) := by decide +kernel
theorem dL_law_1146 : decode cL_law 1146 = .ok (.aload_n 0, 1) := by decide +kernel
theorem dL_law_1147 : decode cL_law 1147 = .ok (.iload_n 3, 1) := by decide +kernel
theorem dL_law_1148 : decode cL_law 1148 = .ok (.iconst 1, 1) := by decide +kernel
theorem dL_law_1149 : decode cL_law 1149 = .ok (.iadd, 1) := by decide +kernel
theorem dL_law_1150 : decode cL_law 1150 = .ok (.iaload, 1) := by decide +kernel
theorem dL_law_1151 : decode cL_law 1151 = .ok (.aload_n 0, 1) := by decide +kernel
theorem dL_law_1152 : decode cL_law 1152 = .ok (.iload_n 3, 1) := by decide +kernel
theorem dL_law_1153 : decode cL_law 1153 = .ok (.iconst 2, 1) := by decide +kernel
theorem dL_law_1154 : decode cL_law 1154 = .ok (.iadd, 1) := by decide +kernel
theorem dL_law_1155 : decode cL_law 1155 = .ok (.iaload, 1) := by decide +kernel
theorem dL_law_1156 : decode cL_law 1156 = .ok (.aload_n 0, 1) := by decide +kernel
theorem dL_law_1157 : decode cL_law 1157 = .ok (.iload_n 3, 1) := by decide +kernel
theorem dL_law_1158 : decode cL_law 1158 = .ok (.iconst 3, 1) := by decide +kernel
theorem dL_law_1159 : decode cL_law 1159 = .ok (.iadd, 1) := by decide +kernel
theorem dL_law_1160 : decode cL_law 1160 = .ok (.iaload, 1) := by decide +kernel
theorem dL_law_1161 : decode cL_law 1161 = .ok (.invokevirtual 126, 3) := by decide +kernel
theorem dL_law_1164 : decode cL_law 1164 = .ok (.if_icmp .eq 117, 3) := by decide +kernel
theorem dL_law_1167 : decode cL_law 1167 = .ok (.iconst 0, 1) := by decide +kernel
theorem dL_law_1168 : decode cL_law 1168 = .ok (.ireturn, 1) := by decide +kernel
theorem dL_law_1169 : decode cL_law 1169 = .ok (.aload_n 1, 1) := by decide +kernel
theorem dL_law_1170 : decode cL_law 1170 = .ok (.aload_n 0, 1) := by decide +kernel
theorem dL_law_1171 : decode cL_law 1171 = .ok (.iload_n 3, 1) := by decide +kernel
theorem dL_law_1172 : decode cL_law 1172 = .ok (.iconst 1, 1) := by decide +kernel
theorem dL_law_1173 : decode cL_law 1173 = .ok (.iadd, 1) := by decide +kernel
theorem dL_law_1174 : decode cL_law 1174 = .ok (.iaload, 1) := by decide +kernel
theorem dL_law_1175 : decode cL_law 1175 = .ok (.aload_n 0, 1) := by decide +kernel
theorem dL_law_1176 : decode cL_law 1176 = .ok (.iload_n 3, 1) := by decide +kernel
theorem dL_law_1177 : decode cL_law 1177 = .ok (.iconst 2, 1) := by decide +kernel
theorem dL_law_1178 : decode cL_law 1178 = .ok (.iadd, 1) := by decide +kernel
theorem dL_law_1179 : decode cL_law 1179 = .ok (.iaload, 1) := by decide +kernel
theorem dL_law_1180 : decode cL_law 1180 = .ok (.aload_n 0, 1) := by decide +kernel
theorem dL_law_1181 : decode cL_law 1181 = .ok (.iload_n 3, 1) := by decide +kernel
theorem dL_law_1182 : decode cL_law 1182 = .ok (.iconst 3, 1) := by decide +kernel
theorem dL_law_1183 : decode cL_law 1183 = .ok (.iadd, 1) := by decide +kernel
theorem dL_law_1184 : decode cL_law 1184 = .ok (.iaload, 1) := by decide +kernel
theorem dL_law_1185 : decode cL_law 1185 = .ok (.invokevirtual 127, 3) := by decide +kernel
theorem dL_law_1188 : decode cL_law 1188 = .ok (.aload_n 2, 1) := by decide +kernel
theorem dL_law_1189 : decode cL_law 1189 = .ok (.aload_n 0, 1) := by decide +kernel
theorem dL_law_1190 : decode cL_law 1190 = .ok (.iload_n 3, 1) := by decide +kernel
theorem dL_law_1191 : decode cL_law 1191 = .ok (.iconst 1, 1) := by decide +kernel
theorem dL_law_1192 : decode cL_law 1192 = .ok (.iadd, 1) := by decide +kernel
theorem dL_law_1193 : decode cL_law 1193 = .ok (.iaload, 1) := by decide +kernel
theorem dL_law_1194 : decode cL_law 1194 = .ok (.aload_n 0, 1) := by decide +kernel
theorem dL_law_1195 : decode cL_law 1195 = .ok (.iload_n 3, 1) := by decide +kernel
theorem dL_law_1196 : decode cL_law 1196 = .ok (.iconst 2, 1) := by decide +kernel
theorem dL_law_1197 : decode cL_law 1197 = .ok (.iadd, 1) := by decide +kernel
theorem dL_law_1198 : decode cL_law 1198 = .ok (.iaload, 1) := by decide +kernel
theorem dL_law_1199 : decode cL_law 1199 = .ok (.aload_n 0, 1) := by decide +kernel
theorem dL_law_1200 : decode cL_law 1200 = .ok (.iload_n 3, 1) := by decide +kernel
theorem dL_law_1201 : decode cL_law 1201 = .ok (.iconst 3, 1) := by decide +kernel
theorem dL_law_1202 : decode cL_law 1202 = .ok (.iadd, 1) := by decide +kernel
theorem dL_law_1203 : decode cL_law 1203 = .ok (.iaload, 1) := by decide +kernel
theorem dL_law_1204 : decode cL_law 1204 = .ok (.invokevirtual 130, 3) := by decide +kernel
theorem dL_law_1207 : decode cL_law 1207 = .ok (.if_icmp .eq 74, 3) := by decide +kernel
theorem dL_law_1210 : decode cL_law 1210 = .ok (.iconst 0, 1) := by decide +kernel
theorem dL_law_1211 : decode cL_law 1211 = .ok (.ireturn, 1) := by decide +kernel
theorem dL_law_1212 : decode cL_law 1212 = .ok (.aload_n 1, 1) := by decide +kernel
theorem dL_law_1213 : decode cL_law 1213 = .ok (.aload_n 0, 1) := by decide +kernel
theorem dL_law_1214 : decode cL_law 1214 = .ok (.iload_n 3, 1) := by decide +kernel
theorem dL_law_1215 : decode cL_law 1215 = .ok (.iconst 1, 1) := by decide +kernel
theorem dL_law_1216 : decode cL_law 1216 = .ok (.iadd, 1) := by decide +kernel
theorem dL_law_1217 : decode cL_law 1217 = .ok (.iaload, 1) := by decide +kernel
theorem dL_law_1218 : decode cL_law 1218 = .ok (.invokevirtual 131, 3) := by decide +kernel
theorem dL_law_1221 : decode cL_law 1221 = .ok (.aload_n 2, 1) := by decide +kernel
theorem dL_law_1222 : decode cL_law 1222 = .ok (.aload_n 0, 1) := by decide +kernel
theorem dL_law_1223 : decode cL_law 1223 = .ok (.iload_n 3, 1) := by decide +kernel
theorem dL_law_1224 : decode cL_law 1224 = .ok (.iconst 1, 1) := by decide +kernel
theorem dL_law_1225 : decode cL_law 1225 = .ok (.iadd, 1) := by decide +kernel
theorem dL_law_1226 : decode cL_law 1226 = .ok (.iaload, 1) := by decide +kernel
theorem dL_law_1227 : decode cL_law 1227 = .ok (.invokevirtual 134, 3) := by decide +kernel
theorem dL_law_1230 : decode cL_law 1230 = .ok (.if_icmp .eq 51, 3) := by decide +kernel
theorem dL_law_1233 : decode cL_law 1233 = .ok (.iconst 0, 1) := by decide +kernel
theorem dL_law_1234 : decode cL_law 1234 = .ok (.ireturn, 1) := by decide +kernel
theorem dL_law_1235 : decode cL_law 1235 = .ok (.aload_n 1, 1) := by decide +kernel
theorem dL_law_1236 : decode cL_law 1236 = .ok (.aload_n 0, 1) := by decide +kernel
theorem dL_law_1237 : decode cL_law 1237 = .ok (.iload_n 3, 1) := by decide +kernel
theorem dL_law_1238 : decode cL_law 1238 = .ok (.iconst 1, 1) := by decide +kernel
theorem dL_law_1239 : decode cL_law 1239 = .ok (.iadd, 1) := by decide +kernel
theorem dL_law_1240 : decode cL_law 1240 = .ok (.iaload, 1) := by decide +kernel
theorem dL_law_1241 : decode cL_law 1241 = .ok (.invokevirtual 135, 3) := by decide +kernel
theorem dL_law_1244 : decode cL_law 1244 = .ok (.aload_n 2, 1) := by decide +kernel
theorem dL_law_1245 : decode cL_law 1245 = .ok (.aload_n 0, 1) := by decide +kernel
theorem dL_law_1246 : decode cL_law 1246 = .ok (.iload_n 3, 1) := by decide +kernel
theorem dL_law_1247 : decode cL_law 1247 = .ok (.iconst 1, 1) := by decide +kernel
theorem dL_law_1248 : decode cL_law 1248 = .ok (.iadd, 1) := by decide +kernel
theorem dL_law_1249 : decode cL_law 1249 = .ok (.iaload, 1) := by decide +kernel
theorem dL_law_1250 : decode cL_law 1250 = .ok (.invokevirtual 138, 3) := by decide +kernel
theorem dL_law_1253 : decode cL_law 1253 = .ok (.if_icmp .eq 28, 3) := by decide +kernel
theorem dL_law_1256 : decode cL_law 1256 = .ok (.iconst 0, 1) := by decide +kernel
theorem dL_law_1257 : decode cL_law 1257 = .ok (.ireturn, 1) := by decide +kernel
theorem dL_law_1258 : decode cL_law 1258 = .ok (.aload_n 1, 1) := by decide +kernel
theorem dL_law_1259 : decode cL_law 1259 = .ok (.aload_n 0, 1) := by decide +kernel
theorem dL_law_1260 : decode cL_law 1260 = .ok (.iload_n 3, 1) := by decide +kernel
theorem dL_law_1261 : decode cL_law 1261 = .ok (.iconst 1, 1) := by decide +kernel
theorem dL_law_1262 : decode cL_law 1262 = .ok (.iadd, 1) := by decide +kernel
theorem dL_law_1263 : decode cL_law 1263 = .ok (.iaload, 1) := by decide +kernel
theorem dL_law_1264 : decode cL_law 1264 = .ok (.invokevirtual 139, 3) := by decide +kernel
theorem dL_law_1267 : decode cL_law 1267 = .ok (.aload_n 2, 1) := by decide +kernel
theorem dL_law_1268 : decode cL_law 1268 = .ok (.aload_n 0, 1) := by decide +kernel
theorem dL_law_1269 : decode cL_law 1269 = .ok (.iload_n 3, 1) := by decide +kernel
theorem dL_law_1270 : decode cL_law 1270 = .ok (.iconst 1, 1) := by decide +kernel
theorem dL_law_1271 : decode cL_law 1271 = .ok (.iadd, 1) := by decide +kernel
theorem dL_law_1272 : decode cL_law 1272 = .ok (.iaload, 1) := by decide +kernel
theorem dL_law_1273 : decode cL_law 1273 = .ok (.invokevirtual 142, 3) := by decide +kernel
theorem dL_law_1276 : decode cL_law 1276 = .ok (.if_icmp .eq 5, 3) := by decide +kernel
theorem dL_law_1279 : decode cL_law 1279 = .ok (.iconst 0, 1) := by decide +kernel
theorem dL_law_1280 : decode cL_law 1280 = .ok (.ireturn, 1) := by decide +kernel
theorem dL_law_1281 : decode cL_law 1281 = .ok (.iinc 3 9, 3) := by decide +kernel
theorem dL_law_1284 : decode cL_law 1284 = .ok (.goto (-1266), 3) := by decide +kernel
theorem dL_law_1287 : decode cL_law 1287 = .ok (.iconst 1, 1) := by decide +kernel
theorem dL_law_1288 : decode cL_law 1288 = .ok (.ireturn, 1) := by decide +kernel
end
section
/-! the world: the cells by their numbers, typed memory; the judgement MW and its rows (laid by wip/whole/mkmw.py) -/
abbrev mM : Type := (Nat → Nat → Int32) × (Nat → Nat → Int64) × (Nat → Nat → Nat)
/-- D, the addresses, the classes of the arrays, what may change, the strings (their addresses, their bytes' addresses) -/
abbrev mX : Type := va_G × (Nat → Nat) × (Nat → ClassId) × (Nat → Prop) × (Nat → Nat) × (Nat → Nat)
def mNA : Nat := 98
def mKinds : List Nat := [11, 9, 20, 21, 21, 21, 1, 4, 2, 21, 8, 25, 5, 21, 5, 21, 5, 21, 5, 21, 5, 21, 5, 21, 5, 21, 5, 21, 0, 27, 7, 7, 7, 7, 7, 7, 0, 27, 7, 7, 7, 7, 7, 7, 26, 6, 21, 6, 21, 6, 21, 6, 21, 24, 3, 22, 23, 3, 22, 23, 3, 22, 23, 3, 22, 23, 10, 21, 21, 12, 21, 21, 21, 21, 21, 21, 21, 21, 21, 21, 21, 21, 21, 21, 21, 21, 21, 21, 21, 21, 21, 21, 22, 23, 22, 23, 21, 21]
def mLens : List Nat := [0, 0, 200, 201, 201, 201, 0, 0, 0, 256, 0, 8, 0, 201, 0, 201, 0, 201, 0, 201, 0, 201, 0, 201, 0, 201, 0, 201, 0, 6, 0, 0, 0, 0, 0, 0, 0, 6, 0, 0, 0, 0, 0, 0, 4, 0, 64, 0, 64, 0, 64, 0, 64, 4, 0, 201, 201, 0, 201, 201, 0, 201, 201, 0, 201, 201, 0, 20, 20, 0, 200, 33000, 6, 6, 6, 6, 6, 6, 6, 6, 6, 6, 6, 6, 8, 8, 8, 1608, 4, 4, 256, 4, 804, 804, 201, 201, 20, 20]
def mKind (a : Nat) : Nat := mKinds.getD a 99
def mLen (a : Nat) : Nat := mLens.getD a 0
def mRow (X : mX) (k a : Nat) (ri : Nat → Int32) (rj : Nat → Int64) (rp : Nat → Nat) : va_E := match k with
  | 0 => .inr (0, [.ref (X.2.1 (a + 1)), .int (ri 1)])
  | 1 => .inr (1, [.ref (X.2.1 (1)), .int (ri 1), .int (ri 2), .int (ri 3), .int (ri 4)])
  | 2 => .inr (2, [.ref (X.2.1 (a + 1)), .int (ri 1)])
  | 3 => .inr (3, [.ref (X.2.1 (a + 1)), .ref (X.2.1 (a + 2)), .int (ri 2)])
  | 4 => .inr (4, [.ref (X.2.1 (8)), .ref (X.2.1 (10)), .ref (X.2.1 (rp 2)), .ref (X.2.1 (rp 3)), .int (ri 4), .int (ri 5), .int (ri 6), .int (ri 7), .int (ri 8), .int (ri 9), .int (ri 10), .int (ri 11), .int (ri 12)])
  | 5 => .inr (5, [.ref (X.2.1 (a + 1)), .int (ri 1), .int (ri 2), .int (ri 3)])
  | 6 => .inr (6, [.ref (X.2.1 (a + 1)), .int (ri 1), .int (ri 2)])
  | 7 => .inr (7, [.int (ri 0), .int (ri 1), .int (ri 2), .int (ri 3), .int (ri 4), .int (ri 5), .int (ri 6), .int (ri 7), .int (ri 8), .int (ri 9)])
  | 8 => .inr (8, [.ref (X.2.1 (a + 1)), .int (ri 1)])
  | 9 => .inr (9, [.ref (X.2.1 (2)), .int (ri 1), .ref (X.2.1 (3)), .ref (X.2.1 (4)), .ref (X.2.1 (5)), .int (ri 5)])
  | 10 => .inr (10, [.ref (X.2.1 (67)), .ref (X.2.1 (68)), .int (ri 2), .int (ri 3), .int (ri 4), .int (ri 5), .int (ri 6), .int (ri 7)])
  | 11 => .inr (11, [.ref (X.2.1 (1)), .ref (X.2.1 (6)), .ref (X.2.1 (7)), .ref (X.2.1 (44)), .ref (X.2.1 (53)), .ref (X.2.1 (66)), .int (ri 6)])
  | 12 => .inr (12, [.ref (X.2.1 (70)), .int (ri 1), .ref (X.2.1 (71)), .int (ri 3), .int (ri 4), .ref (X.2.1 (72)), .ref (X.2.1 (73)), .ref (X.2.1 (74)), .ref (X.2.1 (75)), .ref (X.2.1 (76)), .ref (X.2.1 (77)), .int (ri 11), .ref (X.2.1 (78)), .ref (X.2.1 (79)), .ref (X.2.1 (80)), .ref (X.2.1 (81)), .ref (X.2.1 (82)), .ref (X.2.1 (83)), .int (ri 18), .int (ri 19), .int (ri 20), .int (ri 21), .int (ri 22), .int (ri 23), .long (rj 24), .int (ri 25), .int (ri 26), .int (ri 27), .int (ri 28), .int (ri 29), .int (ri 30), .int (ri 31), .int (ri 32), .int (ri 33), .int (ri 34), .ref (X.2.1 (84)), .ref (X.2.1 (85)), .ref (X.2.1 (86)), .ref (X.2.1 (87)), .ref (X.2.1 (88)), .ref (X.2.1 (89)), .ref (X.2.1 (90)), .int (ri 42), .ref (X.2.1 (91)), .ref (X.2.1 (92)), .ref (X.2.1 (93)), .ref (X.2.1 (94)), .ref (X.2.1 (95)), .int (ri 48), .ref (X.2.1 (96)), .ref (X.2.1 (97)), .int (ri 51)])
  | 20 => .inl (X.2.2.1 0, mLen a, .inl ri)
  | 21 => .inl (X.2.2.1 1, mLen a, .inl ri)
  | 22 => .inl (X.2.2.1 2, mLen a, .inr (.inl rj))
  | 23 => .inl (X.2.2.1 3, mLen a, .inl ri)
  | 24 => .inl (X.2.2.1 4, mLen a, .inr (.inr (.inr (.inr (fun i => some (X.2.1 (a + 1 + 3 * i)))))))
  | 25 => .inl (X.2.2.1 5, mLen a, .inr (.inr (.inr (.inr (fun i => some (X.2.1 (a + 1 + 2 * i)))))))
  | 26 => .inl (X.2.2.1 6, mLen a, .inr (.inr (.inr (.inr (fun i => some (X.2.1 (a + 1 + 2 * i)))))))
  | 27 => .inl (X.2.2.1 7, mLen a, .inr (.inr (.inr (.inr (fun i => some (X.2.1 (a + 1 + i)))))))
  | _ => .inr (99, [])
def mTys (X : mX) : List (ClassId × FieldType) := [(X.2.2.1 0, .byte), (X.2.2.1 1, .int), (X.2.2.1 2, .long), (X.2.2.1 3, .boolean), (X.2.2.1 4, .object RX3), (X.2.2.1 5, .object RX5), (X.2.2.1 6, .object RX6), (X.2.2.1 7, .object RX7)]
def mCell (X : mX) (S : mM) (a : Nat) : va_E := mRow X (mKind a) a (S.1 a) (S.2.1 a) (S.2.2 a)
def mWs (X : mX) (S : mM) : va_W := (List.range mNA).map (fun a => (X.2.1 a, mCell X S a))
def setI (S : mM) (a k : Nat) (v : Int32) : mM := (fun b => if b = a then upd (S.1 a) k v else S.1 b, S.2)
def setJ (S : mM) (a k : Nat) (v : Int64) : mM := (S.1, fun b => if b = a then vp_updL (S.2.1 a) k v else S.2.1 b, S.2.2)
def setP (S : mM) (a k : Nat) (v : Nat) : mM := (S.1, S.2.1, fun b => if b = a then va_up (S.2.2 a) k v else S.2.2 b)
theorem mWs_at {X : mX} {S : mM} {a : Nat} (h : a < mNA) : (mWs X S)[a]? = some (X.2.1 a, mCell X S a) := by
  simp [mWs, h]
theorem mWs_set {X : mX} {S S' : mM} {a : Nat} {e : va_E} (h : a < mNA) (hne : ∀ b, b ≠ a → mCell X S' b = mCell X S b) (he : mCell X S' a = e) : (mWs X S).set a (X.2.1 a, e) = mWs X S' := by
  apply List.ext_getElem?
  intro i
  rw [List.getElem?_set]
  by_cases hi : a = i
  · subst hi
    have hl : a < (mWs X S).length := by simpa [mWs] using h
    rw [if_pos rfl, if_pos hl, mWs_at h, he]
  · rw [if_neg hi]
    by_cases hl : i < mNA
    · rw [mWs_at hl, mWs_at hl, hne i (fun q => hi q.symm)]
    · have e1 : (mWs X S)[i]? = none := List.getElem?_eq_none (by simpa [mWs] using hl)
      have e2 : (mWs X S')[i]? = none := List.getElem?_eq_none (by simpa [mWs] using hl)
      rw [e1, e2]
theorem mKind_lt {a k : Nat} (h : mKind a = k) (hk : k ≠ 99) : a < mNA := by
  rcases Nat.lt_or_ge a mNA with q | q
  · exact q
  · exfalso
    apply hk
    rw [← h]
    have h9 : mKinds[a]? = none := List.getElem?_eq_none q
    simp [mKind, List.getD, h9]
theorem mSetI_ne {X : mX} {S : mM} {a k : Nat} {v : Int32} (b : Nat) (h : b ≠ a) : mCell X (setI S a k v) b = mCell X S b := by
  simp only [mCell, setI, if_neg h]
theorem mSetJ_ne {X : mX} {S : mM} {a k : Nat} {v : Int64} (b : Nat) (h : b ≠ a) : mCell X (setJ S a k v) b = mCell X S b := by
  simp only [mCell, setJ, if_neg h]
theorem mSetP_ne {X : mX} {S : mM} {a k : Nat} {v : Nat} (b : Nat) (h : b ≠ a) : mCell X (setP S a k v) b = mCell X S b := by
  simp only [mCell, setP, if_neg h]
theorem mSetI_at {X : mX} {S : mM} {a k : Nat} {v : Int32} : mCell X (setI S a k v) a = mRow X (mKind a) a (upd (S.1 a) k v) (S.2.1 a) (S.2.2 a) := by
  simp only [mCell, setI, if_true]
theorem mSetJ_at {X : mX} {S : mM} {a k : Nat} {v : Int64} : mCell X (setJ S a k v) a = mRow X (mKind a) a (S.1 a) (vp_updL (S.2.1 a) k v) (S.2.2 a) := by
  simp only [mCell, setJ, if_true]
theorem mSetP_at {X : mX} {S : mM} {a k : Nat} {v : Nat} : mCell X (setP S a k v) a = mRow X (mKind a) a (S.1 a) (S.2.1 a) (va_up (S.2.2 a) k v) := by
  simp only [mCell, setP, if_true]
/-- the words that every method may use: what of the tables stays -/
def mW : List Cond := lw_tbl.filter goodWord
def mIsNest (w : Cond) : Bool := match w with
  | .fieldLinkNest _ _ _ _ _ _ => true
  | .methodLinkNest _ _ _ _ => true
  | _ => false
def mN : List Cond := tables_1.filter mIsNest
theorem mW_good : GoodIn mW mW := fun w h => ⟨h, good_of_word (List.mem_filter.mp h).2⟩
theorem mW_of {w : Cond} (h : w ∈ lw_tbl) (hg : goodWord w = true) : w ∈ mW := List.mem_filter.mpr ⟨h, hg⟩
/-- the nine words of the tape: their lengths, bytes, places in the pool, texts -/
def mSL : List Nat := [4, 4, 4, 4, 4, 2, 3, 5, 6]
def mSB : List (List Int32) := [[114, 105, 115, 101], [102, 97, 108, 108], [119, 105, 100, 101], [116, 104, 105, 110], [114, 117, 110, 116], [105, 110], [111, 117, 116], [101, 113, 117, 97, 108], [119, 105, 116, 104, 105, 110]]
def mSI : List Nat := [59, 65, 67, 69, 71, 73, 75, 77, 79]
def mST : List String := ["rise", "fall", "wide", "thin", "runt", "in", "out", "equal", "within"]
def mStr (X : mX) (U : State) : Prop := vk_S 9 mSL mSB X.2.2.2.2.1 X.2.2.2.2.2 X.2.2.2.1 U U.heap ∧ (∀ i, i < 9 → vk_R RX9 (mSI.getD i 0) (mST.getD i "") (X.2.2.2.2.1 i) U) ∧ va_Z "java/lang/String" "COMPACT_STRINGS" "Z" (.int 1) X.2.2.2.1 U U.heap ∧ va_Zq "jdk/internal/util/Preconditions" "SIOOBE_FORMATTER" "Ljava/util/function/BiFunction;" X.2.2.2.1 U U.heap
/-- what stays of the launch: tables, nests, addresses apart, strings -/
def mGood (X : mX) (U : State) : Prop := va_K X.1 vwCl (mTys X) U ∧ (∀ w ∈ mN, va_Nw w U) ∧ ((∀ i j, i < mNA → j < mNA → X.2.1 i = X.2.1 j → i = j) ∧ (∀ a, a < mNA → X.2.2.2.1 (X.2.1 a))) ∧ mStr X U
theorem mGood.D {X : mX} {U : State} (h : mGood X U) (S : mM) : va_D X.2.2.2.1 (mWs X S) := by
  have hlt : ∀ {i : Nat} {q : Nat × va_E}, (mWs X S)[i]? = some q → i < mNA := fun {i q} hq => by
    have := (List.getElem?_eq_some_iff.mp hq).1
    simpa [mWs] using this
  refine ⟨fun i j p q hi hj hpq => ?_, fun k q hk => ?_⟩
  · have h1 := hlt hi
    have h2 := hlt hj
    rw [mWs_at h1] at hi
    rw [mWs_at h2] at hj
    cases hi
    cases hj
    exact h.2.2.1.1 i j h1 h2 hpq
  · have h1 := hlt hk
    rw [mWs_at h1] at hk
    cases hk
    exact h.2.2.1.2 k h1
theorem mNest_warm {w : Cond} (hw : mIsNest w = true) {s U : State} (hW : s.WarmedH U.vm) (h : va_Nw w s) : va_Nw w U := by
  cases w <;> first | (exact va_Nw.warmF hW h) | (exact va_Nw.warmM hW h) | (cases hw)
theorem mNest_tabs {w : Cond} (hw : mIsNest w = true) : w.onTables = true := by
  cases w <;> first | rfl | (cases hw)
theorem mGood.moved {X : mX} {s U : State} (hW : s.WarmedH U.vm) (hk : ∀ q : Nat, q < s.heap.size → ¬ X.2.2.2.1 q → U.heap[q]? = s.heap[q]?) (h : mGood X s) : mGood X U :=
  ⟨va_K.moved hW.alike h.1, fun w hw => mNest_warm (List.mem_filter.mp hw).2 hW (h.2.1 w hw), h.2.2.1, (h.2.2.2.1.kept hk).moved hW.alike, fun i hi => (h.2.2.2.2.1 i hi).warm hW, (h.2.2.2.2.2.1.kept hk).moved hW.alike, (h.2.2.2.2.2.2.kept hk).moved hW.alike⟩
theorem mGood.calling {X : mX} {U : State} {g : JFrame} {mk : MethodId} {a : Array Value} (h : mGood X U) : mGood X (U.calling g mk a) :=
  ⟨va_K.moved (u := U) (U := U.calling g mk a) (Vm.Alike.refl U.vm) h.1, fun w hw => va_Nw.same (mNest_tabs (List.mem_filter.mp hw).2) (u := U) (U := U.calling g mk a) rfl (h.2.1 w hw), h.2.2.1,
    vk_S.moved (u := U) (U := U.calling g mk a) (Vm.Alike.refl U.vm) h.2.2.2.1, fun i hi => vk_R.same (u := U) (U := U.calling g mk a) rfl (h.2.2.2.2.1 i hi), va_Z.moved (u := U) (U := U.calling g mk a) (Vm.Alike.refl U.vm) h.2.2.2.2.2.1, va_Zq.moved (u := U) (U := U.calling g mk a) (Vm.Alike.refl U.vm) h.2.2.2.2.2.2⟩
def mCtx (X : mX) (cc : ByteArray) (own : String) (nL : Nat) (ret : Option FieldType) (p : Program) (s : State) (m : MethodId) (args : Array Value) (meth : Method) (c : Code) : Prop :=
  p.tables.exec = Jvm.exec ∧ c.code = cc ∧ meth.sig.returnType = ret ∧ c.maxLocals = nL ∧ s.vm.findClass own = some m.cls ∧ (∀ w ∈ mW, w.before args s = true) ∧ meth.locks = false ∧ mGood X s
def mQc (X : mX) (v : Option Value) (S : mM) : Array Value → State → Outcome → State → Prop := fun _ st o t => o = .returned v ∧ va_P X.1 vwCl (mWs X S) t.heap ∧ va_F X.2.2.2.1 st t
def mQf {α : Type} (X : mX) (vi : α → Option Value) : List Frame → Array Value → State → α → mM → State → Prop := fun below args s r S' => MQ below (mQc X (vi r) S') args s 0 0 X.2.2.2.1
/-- at pc, with locals lv, stack st, memory S: if res is some (r, S'), the machine comes to a state with Qf r S' -/
def MG {α : Type} (X : mX) (E : State → Prop) (Qf : List Frame → Array Value → State → α → mM → State → Prop) (kc ks : Nat) (R : Room) (cc : ByteArray) (own : String) (nL : Nat) (ret : Option FieldType) (l : Launch) (S : mM) (lv : List (Nat × Value)) (st : List Value) (pc : Nat) (res : Option (α × mM)) : Prop :=
  ∀ r S', res = some (r, S') → ∀ (p : Program) (e : Env) (s : State) (m : MethodId) (args : Array Value) (below : List Frame) (meth : Method) (c : Code) (H : Heap) (locs : List Loc) (ls : Array Slot), (mCtx X cc own nL ret p s m args meth c ∧ E s) → va_P X.1 vwCl (mWs X S) H → va_S X.2.2.2.1 s.heap H locs → lv_has ls nL lv →
    W p l e R s m args below meth c H locs kc ks (Qf below args s r S') (F0 m pc ls st)
abbrev MW {α : Type} (X : mX) (vi : α → Option Value) (R : Room) (cc : ByteArray) (own : String) (nL : Nat) (ret : Option FieldType) (l : Launch) (S : mM) (lv : List (Nat × Value)) (st : List Value) (pc : Nat) (res : Option (α × mM)) : Prop := MG X (fun _ => True) (mQf X vi) 0 0 R cc own nL ret l S lv st pc res
def mMet {α : Type} (X : mX) (vi : α → Option Value) (y : MethodName) (cc : ByteArray) (nL : Nat) (ret : Option FieldType) (rm : Room) (As : List Value) (l : Launch) (S : mM) (res : Option (α × mM)) : Prop :=
  ∀ r S', res = some (r, S') → Met l y (Cond.code y cc nL ret :: mW) rm (va_Pc As (fun U => mGood X U ∧ va_P X.1 vwCl (mWs X S) U.heap)) (mQc X (vi r) S') 0 0 X.2.2.2.1
/-- a number gets a name -/
def bnd {α β : Type} (x : α) (f : α → β) : β := f x
def viI : Int32 → Option Value := fun r => some (.int r)
def viJ : Int64 → Option Value := fun r => some (.long r)
def viV : Unit → Option Value := fun _ => none
def viR (X : mX) : Nat → Option Value := fun r => some (.ref (X.2.1 r))
section MWR
variable {α : Type} {X : mX} {E : State → Prop} {Qf : List Frame → Array Value → State → α → mM → State → Prop} {kc ks : Nat} {R : Room} {cc : ByteArray} {own : String} {nL : Nat} {ret : Option FieldType} {l : Launch} {S : mM} {lv lv' : List (Nat × Value)} {rest : List Value} {pc : Nat} {res A B : Option (α × mM)}
theorem mw_none {st : List Value} : MG X E Qf kc ks R cc own nL ret l S lv st pc none := fun _ _ h => by cases h
theorem mw_eq {st st' : List Value} {res' : Option (α × mM)} (h1 : st = st') (h2 : res = res') (k : MG X E Qf kc ks R cc own nL ret l S lv st' pc res') : MG X E Qf kc ks R cc own nL ret l S lv st pc res := by subst h1; subst h2; exact k
theorem mw_ite {c : Prop} [Decidable c] {st : List Value} (kt : c → MG X E Qf kc ks R cc own nL ret l S lv st pc A) (kf : ¬ c → MG X E Qf kc ks R cc own nL ret l S lv st pc B) : MG X E Qf kc ks R cc own nL ret l S lv st pc (if c then A else B) := by
  by_cases h : c
  · rw [if_pos h]; exact kt h
  · rw [if_neg h]; exact kf h
theorem mw_chk {c : Prop} [Decidable c] {st : List Value} (kt : c → MG X E Qf kc ks R cc own nL ret l S lv st pc A) : MG X E Qf kc ks R cc own nL ret l S lv st pc (if c then A else none) := mw_ite kt (fun _ => mw_none)
theorem mw_bndI {x : Int32} {K : Int32 → Option (α × mM)} (k : ∀ x, MG X E Qf kc ks R cc own nL ret l S lv (.int x :: rest) pc (K x)) : MG X E Qf kc ks R cc own nL ret l S lv (.int x :: rest) pc (bnd x K) := k x
theorem mw_bndJ {x : Int64} {K : Int64 → Option (α × mM)} (k : ∀ x, MG X E Qf kc ks R cc own nL ret l S lv (.long x :: rest) pc (K x)) : MG X E Qf kc ks R cc own nL ret l S lv (.long x :: rest) pc (bnd x K) := k x
theorem mw_sub {st : List Value} (places : List Nat) (hl : lv_pick lv places = lv') (k : MG X E Qf kc ks R cc own nL ret l S lv' st pc res) : MG X E Qf kc ks R cc own nL ret l S lv st pc res :=
  fun r S' hr p e s m args below meth c H locs ls C hP hS h => k r S' hr p e s m args below meth c H locs ls C hP hS (lv_sub h places hl)
theorem mw_iadd {x y : Int32} (hd : decode cc pc = .ok (.iadd, 1))  (k : MG X E Qf kc ks R cc own nL ret l S lv (.int (x + y) :: rest) (pc + 1) res) : MG X E Qf kc ks R cc own nL ret l S lv (.int y :: .int x :: rest) pc res :=
  fun r S' hr p e s m args below meth c H locs ls C hP hS h => lv_iadd C.1.1 C.1.2.1 hd (k r S' hr p e s m args below meth c H locs ls C hP hS h)
theorem mw_isub {x y : Int32} (hd : decode cc pc = .ok (.isub, 1))  (k : MG X E Qf kc ks R cc own nL ret l S lv (.int (x - y) :: rest) (pc + 1) res) : MG X E Qf kc ks R cc own nL ret l S lv (.int y :: .int x :: rest) pc res :=
  fun r S' hr p e s m args below meth c H locs ls C hP hS h => lv_isub C.1.1 C.1.2.1 hd (k r S' hr p e s m args below meth c H locs ls C hP hS h)
theorem mw_imul {x y : Int32} (hd : decode cc pc = .ok (.imul, 1))  (k : MG X E Qf kc ks R cc own nL ret l S lv (.int (x * y) :: rest) (pc + 1) res) : MG X E Qf kc ks R cc own nL ret l S lv (.int y :: .int x :: rest) pc res :=
  fun r S' hr p e s m args below meth c H locs ls C hP hS h => lv_imul C.1.1 C.1.2.1 hd (k r S' hr p e s m args below meth c H locs ls C hP hS h)
theorem mw_iand {x y : Int32} (hd : decode cc pc = .ok (.iand, 1))  (k : MG X E Qf kc ks R cc own nL ret l S lv (.int (x &&& y) :: rest) (pc + 1) res) : MG X E Qf kc ks R cc own nL ret l S lv (.int y :: .int x :: rest) pc res :=
  fun r S' hr p e s m args below meth c H locs ls C hP hS h => lv_iand C.1.1 C.1.2.1 hd (k r S' hr p e s m args below meth c H locs ls C hP hS h)
theorem mw_ior {x y : Int32} (hd : decode cc pc = .ok (.ior, 1))  (k : MG X E Qf kc ks R cc own nL ret l S lv (.int (x ||| y) :: rest) (pc + 1) res) : MG X E Qf kc ks R cc own nL ret l S lv (.int y :: .int x :: rest) pc res :=
  fun r S' hr p e s m args below meth c H locs ls C hP hS h => lv_ior C.1.1 C.1.2.1 hd (k r S' hr p e s m args below meth c H locs ls C hP hS h)
theorem mw_ixor {x y : Int32} (hd : decode cc pc = .ok (.ixor, 1))  (k : MG X E Qf kc ks R cc own nL ret l S lv (.int (x ^^^ y) :: rest) (pc + 1) res) : MG X E Qf kc ks R cc own nL ret l S lv (.int y :: .int x :: rest) pc res :=
  fun r S' hr p e s m args below meth c H locs ls C hP hS h => lv_ixor C.1.1 C.1.2.1 hd (k r S' hr p e s m args below meth c H locs ls C hP hS h)
theorem mw_ladd {x y : Int64} (hd : decode cc pc = .ok (.ladd, 1))  (k : MG X E Qf kc ks R cc own nL ret l S lv (.long (x + y) :: rest) (pc + 1) res) : MG X E Qf kc ks R cc own nL ret l S lv (.long y :: .long x :: rest) pc res :=
  fun r S' hr p e s m args below meth c H locs ls C hP hS h => lv_ladd C.1.1 C.1.2.1 hd (k r S' hr p e s m args below meth c H locs ls C hP hS h)
theorem mw_lsub {x y : Int64} (hd : decode cc pc = .ok (.lsub, 1))  (k : MG X E Qf kc ks R cc own nL ret l S lv (.long (x - y) :: rest) (pc + 1) res) : MG X E Qf kc ks R cc own nL ret l S lv (.long y :: .long x :: rest) pc res :=
  fun r S' hr p e s m args below meth c H locs ls C hP hS h => lv_lsub C.1.1 C.1.2.1 hd (k r S' hr p e s m args below meth c H locs ls C hP hS h)
theorem mw_lmul {x y : Int64} (hd : decode cc pc = .ok (.lmul, 1))  (k : MG X E Qf kc ks R cc own nL ret l S lv (.long (x * y) :: rest) (pc + 1) res) : MG X E Qf kc ks R cc own nL ret l S lv (.long y :: .long x :: rest) pc res :=
  fun r S' hr p e s m args below meth c H locs ls C hP hS h => lv_lmul C.1.1 C.1.2.1 hd (k r S' hr p e s m args below meth c H locs ls C hP hS h)
theorem mw_land {x y : Int64} (hd : decode cc pc = .ok (.land, 1))  (k : MG X E Qf kc ks R cc own nL ret l S lv (.long (x &&& y) :: rest) (pc + 1) res) : MG X E Qf kc ks R cc own nL ret l S lv (.long y :: .long x :: rest) pc res :=
  fun r S' hr p e s m args below meth c H locs ls C hP hS h => lv_land C.1.1 C.1.2.1 hd (k r S' hr p e s m args below meth c H locs ls C hP hS h)
theorem mw_lor {x y : Int64} (hd : decode cc pc = .ok (.lor, 1))  (k : MG X E Qf kc ks R cc own nL ret l S lv (.long (x ||| y) :: rest) (pc + 1) res) : MG X E Qf kc ks R cc own nL ret l S lv (.long y :: .long x :: rest) pc res :=
  fun r S' hr p e s m args below meth c H locs ls C hP hS h => lv_lor C.1.1 C.1.2.1 hd (k r S' hr p e s m args below meth c H locs ls C hP hS h)
theorem mw_lxor {x y : Int64} (hd : decode cc pc = .ok (.lxor, 1))  (k : MG X E Qf kc ks R cc own nL ret l S lv (.long (x ^^^ y) :: rest) (pc + 1) res) : MG X E Qf kc ks R cc own nL ret l S lv (.long y :: .long x :: rest) pc res :=
  fun r S' hr p e s m args below meth c H locs ls C hP hS h => lv_lxor C.1.1 C.1.2.1 hd (k r S' hr p e s m args below meth c H locs ls C hP hS h)
theorem mw_idiv {x y : Int32} (hd : decode cc pc = .ok (.idiv, 1)) (hne : ¬ y = 0) (k : MG X E Qf kc ks R cc own nL ret l S lv (.int (x / y) :: rest) (pc + 1) res) : MG X E Qf kc ks R cc own nL ret l S lv (.int y :: .int x :: rest) pc res :=
  fun r S' hr p e s m args below meth c H locs ls C hP hS h => lv_idiv C.1.1 C.1.2.1 hd hne (k r S' hr p e s m args below meth c H locs ls C hP hS h)
theorem mw_irem {x y : Int32} (hd : decode cc pc = .ok (.irem, 1)) (hne : ¬ y = 0) (k : MG X E Qf kc ks R cc own nL ret l S lv (.int (x - x / y * y) :: rest) (pc + 1) res) : MG X E Qf kc ks R cc own nL ret l S lv (.int y :: .int x :: rest) pc res :=
  fun r S' hr p e s m args below meth c H locs ls C hP hS h => lv_irem C.1.1 C.1.2.1 hd hne (k r S' hr p e s m args below meth c H locs ls C hP hS h)
theorem mw_ldiv {x y : Int64} (hd : decode cc pc = .ok (.ldiv, 1)) (hne : ¬ y = 0) (k : MG X E Qf kc ks R cc own nL ret l S lv (.long (x / y) :: rest) (pc + 1) res) : MG X E Qf kc ks R cc own nL ret l S lv (.long y :: .long x :: rest) pc res :=
  fun r S' hr p e s m args below meth c H locs ls C hP hS h => lv_ldiv C.1.1 C.1.2.1 hd hne (k r S' hr p e s m args below meth c H locs ls C hP hS h)
theorem mw_lrem {x y : Int64} (hd : decode cc pc = .ok (.lrem, 1)) (hne : ¬ y = 0) (k : MG X E Qf kc ks R cc own nL ret l S lv (.long (x - x / y * y) :: rest) (pc + 1) res) : MG X E Qf kc ks R cc own nL ret l S lv (.long y :: .long x :: rest) pc res :=
  fun r S' hr p e s m args below meth c H locs ls C hP hS h => lv_lrem C.1.1 C.1.2.1 hd hne (k r S' hr p e s m args below meth c H locs ls C hP hS h)
theorem mw_ineg {x : Int32} (hd : decode cc pc = .ok (.ineg, 1))  (k : MG X E Qf kc ks R cc own nL ret l S lv (.int (-x) :: rest) (pc + 1) res) : MG X E Qf kc ks R cc own nL ret l S lv (.int x :: rest) pc res :=
  fun r S' hr p e s m args below meth c H locs ls C hP hS h => lv_ineg C.1.1 C.1.2.1 hd (k r S' hr p e s m args below meth c H locs ls C hP hS h)
theorem mw_lcmp {x y : Int64} (hd : decode cc pc = .ok (.lcmp, 1))  (k : MG X E Qf kc ks R cc own nL ret l S lv (.int (lg_cmp x y) :: rest) (pc + 1) res) : MG X E Qf kc ks R cc own nL ret l S lv (.long y :: .long x :: rest) pc res :=
  fun r S' hr p e s m args below meth c H locs ls C hP hS h => W.lcmp C.1.1 C.1.2.1 hd (k r S' hr p e s m args below meth c H locs ls C hP hS h)
theorem mw_i2l {x : Int32} (hd : decode cc pc = .ok (.i2l, 1))  (k : MG X E Qf kc ks R cc own nL ret l S lv (.long x.toInt64 :: rest) (pc + 1) res) : MG X E Qf kc ks R cc own nL ret l S lv (.int x :: rest) pc res :=
  fun r S' hr p e s m args below meth c H locs ls C hP hS h => lv_i2l C.1.1 C.1.2.1 hd rfl (k r S' hr p e s m args below meth c H locs ls C hP hS h)
theorem mw_l2i {x : Int64} (hd : decode cc pc = .ok (.l2i, 1))  (k : MG X E Qf kc ks R cc own nL ret l S lv (.int x.toInt32 :: rest) (pc + 1) res) : MG X E Qf kc ks R cc own nL ret l S lv (.long x :: rest) pc res :=
  fun r S' hr p e s m args below meth c H locs ls C hP hS h => lv_l2i C.1.1 C.1.2.1 hd rfl (k r S' hr p e s m args below meth c H locs ls C hP hS h)
theorem mw_i2b {x : Int32} (hd : decode cc pc = .ok (.i2b, 1))  (k : MG X E Qf kc ks R cc own nL ret l S lv (.int x.toInt8.toInt32 :: rest) (pc + 1) res) : MG X E Qf kc ks R cc own nL ret l S lv (.int x :: rest) pc res :=
  fun r S' hr p e s m args below meth c H locs ls C hP hS h => lv_i2b C.1.1 C.1.2.1 hd rfl (k r S' hr p e s m args below meth c H locs ls C hP hS h)
theorem mw_i2s {x : Int32} (hd : decode cc pc = .ok (.i2s, 1))  (k : MG X E Qf kc ks R cc own nL ret l S lv (.int x.toInt16.toInt32 :: rest) (pc + 1) res) : MG X E Qf kc ks R cc own nL ret l S lv (.int x :: rest) pc res :=
  fun r S' hr p e s m args below meth c H locs ls C hP hS h => lv_i2s C.1.1 C.1.2.1 hd rfl (k r S' hr p e s m args below meth c H locs ls C hP hS h)
theorem mw_ishl {x y : Int32} (hd : decode cc pc = .ok (.ishl, 1))  (k : MG X E Qf kc ks R cc own nL ret l S lv (.int (x <<< (y &&& 31)) :: rest) (pc + 1) res) : MG X E Qf kc ks R cc own nL ret l S lv (.int y :: .int x :: rest) pc res :=
  fun r S' hr p e s m args below meth c H locs ls C hP hS h => lv_ishl C.1.1 C.1.2.1 hd (k r S' hr p e s m args below meth c H locs ls C hP hS h)
theorem mw_ishr {x y : Int32} (hd : decode cc pc = .ok (.ishr, 1))  (k : MG X E Qf kc ks R cc own nL ret l S lv (.int (x >>> (y &&& 31)) :: rest) (pc + 1) res) : MG X E Qf kc ks R cc own nL ret l S lv (.int y :: .int x :: rest) pc res :=
  fun r S' hr p e s m args below meth c H locs ls C hP hS h => lv_ishr C.1.1 C.1.2.1 hd (k r S' hr p e s m args below meth c H locs ls C hP hS h)
theorem mw_lshl {x : Int64} {y : Int32} (hd : decode cc pc = .ok (.lshl, 1))  (k : MG X E Qf kc ks R cc own nL ret l S lv (.long (x <<< (y.toInt64 &&& 63)) :: rest) (pc + 1) res) : MG X E Qf kc ks R cc own nL ret l S lv (.int y :: .long x :: rest) pc res :=
  fun r S' hr p e s m args below meth c H locs ls C hP hS h => lv_lshl C.1.1 C.1.2.1 hd rfl (k r S' hr p e s m args below meth c H locs ls C hP hS h)
theorem mw_lshr {x : Int64} {y : Int32} (hd : decode cc pc = .ok (.lshr, 1))  (k : MG X E Qf kc ks R cc own nL ret l S lv (.long (x >>> (y.toInt64 &&& 63)) :: rest) (pc + 1) res) : MG X E Qf kc ks R cc own nL ret l S lv (.int y :: .long x :: rest) pc res :=
  fun r S' hr p e s m args below meth c H locs ls C hP hS h => lv_lshr C.1.1 C.1.2.1 hd rfl (k r S' hr p e s m args below meth c H locs ls C hP hS h)
theorem mw_iconst {n : Int} {v : Int32} (hd : decode cc pc = .ok (.iconst n, 1)) (hv : Int32.ofInt n = v) (k : MG X E Qf kc ks R cc own nL ret l S lv (.int v :: rest) (pc + 1) res) : MG X E Qf kc ks R cc own nL ret l S lv (rest) pc res :=
  fun r S' hr p e s m args below meth c H locs ls C hP hS h => lv_iconst C.1.1 C.1.2.1 hd hv (k r S' hr p e s m args below meth c H locs ls C hP hS h)
theorem mw_bipush {n : Int} {v : Int32} (hd : decode cc pc = .ok (.bipush n, 2)) (hv : (Int8.ofInt n).toInt32 = v) (k : MG X E Qf kc ks R cc own nL ret l S lv (.int v :: rest) (pc + 2) res) : MG X E Qf kc ks R cc own nL ret l S lv (rest) pc res :=
  fun r S' hr p e s m args below meth c H locs ls C hP hS h => lv_bipush C.1.1 C.1.2.1 hd hv (k r S' hr p e s m args below meth c H locs ls C hP hS h)
theorem mw_sipush {n : Int} {v : Int32} (hd : decode cc pc = .ok (.sipush n, 3)) (hv : (Int16.ofInt n).toInt32 = v) (k : MG X E Qf kc ks R cc own nL ret l S lv (.int v :: rest) (pc + 3) res) : MG X E Qf kc ks R cc own nL ret l S lv (rest) pc res :=
  fun r S' hr p e s m args below meth c H locs ls C hP hS h => lv_sipush C.1.1 C.1.2.1 hd hv (k r S' hr p e s m args below meth c H locs ls C hP hS h)
theorem mw_lconst {n : Fin 2} {v : Int64} (hd : decode cc pc = .ok (.lconst n, 1)) (hv : Int64.ofNat (n : Nat) = v) (k : MG X E Qf kc ks R cc own nL ret l S lv (.long v :: rest) (pc + 1) res) : MG X E Qf kc ks R cc own nL ret l S lv (rest) pc res :=
  fun r S' hr p e s m args below meth c H locs ls C hP hS h => lv_lconst C.1.1 C.1.2.1 hd hv (k r S' hr p e s m args below meth c H locs ls C hP hS h)
theorem mw_dup {x : Value} (hd : decode cc pc = .ok (.dup, 1)) (hx : x.category = 1) (k : MG X E Qf kc ks R cc own nL ret l S lv (x :: x :: rest) (pc + 1) res) : MG X E Qf kc ks R cc own nL ret l S lv (x :: rest) pc res :=
  fun r S' hr p e s m args below meth c H locs ls C hP hS h => lv_dup C.1.1 C.1.2.1 hd hx (k r S' hr p e s m args below meth c H locs ls C hP hS h)
theorem mw_pop {x : Value} (hd : decode cc pc = .ok (.pop, 1)) (hx : x.category = 1) (k : MG X E Qf kc ks R cc own nL ret l S lv (rest) (pc + 1) res) : MG X E Qf kc ks R cc own nL ret l S lv (x :: rest) pc res :=
  fun r S' hr p e s m args below meth c H locs ls C hP hS h => lv_pop C.1.1 C.1.2.1 hd hx (k r S' hr p e s m args below meth c H locs ls C hP hS h)
theorem mw_iload_n {k : Fin 4} {i : Nat} {x : Int32} (j : Nat) (hd : decode cc pc = .ok (.iload_n k, 1)) (hi : (k : Nat) = i) (hj : lv[j]? = some (i, .int x)) (kk : MG X E Qf kc ks R cc own nL ret l S lv (.int x :: rest) (pc + 1) res) : MG X E Qf kc ks R cc own nL ret l S lv rest pc res :=
  fun r S' hr p e s m args below meth c H locs ls C hP hS h => lv_iload_n C.1.1 C.1.2.1 hd hi (lv_at h j hj) (kk r S' hr p e s m args below meth c H locs ls C hP hS h)
theorem mw_iload {i : Nat} {x : Int32} (j : Nat) (hd : decode cc pc = .ok (.iload i, 2)) (hj : lv[j]? = some (i, .int x)) (kk : MG X E Qf kc ks R cc own nL ret l S lv (.int x :: rest) (pc + 2) res) : MG X E Qf kc ks R cc own nL ret l S lv rest pc res :=
  fun r S' hr p e s m args below meth c H locs ls C hP hS h => lv_iload C.1.1 C.1.2.1 hd (lv_at h j hj) (kk r S' hr p e s m args below meth c H locs ls C hP hS h)
theorem mw_istore_n {k : Fin 4} {i : Nat} {x : Int32} (hd : decode cc pc = .ok (.istore_n k, 1)) (hi : (k : Nat) = i) (hn : i < nL) (hl : (i, Value.int x) :: lv.filter (fun q => !(q.1 == i) && !(q.1 + 1 == i && q.2.category == 2)) = lv') (kk : MG X E Qf kc ks R cc own nL ret l S lv' rest (pc + 1) res) : MG X E Qf kc ks R cc own nL ret l S lv (.int x :: rest) pc res :=
  fun r S' hr p e s m args below meth c H locs ls C hP hS h => lv_istore_n C.1.1 C.1.2.1 hd hi h hn hl (fun ls h => kk r S' hr p e s m args below meth c H locs ls C hP hS h)
theorem mw_istore {i : Nat} {x : Int32} (hd : decode cc pc = .ok (.istore i, 2)) (hn : i < nL) (hl : (i, Value.int x) :: lv.filter (fun q => !(q.1 == i) && !(q.1 + 1 == i && q.2.category == 2)) = lv') (kk : MG X E Qf kc ks R cc own nL ret l S lv' rest (pc + 2) res) : MG X E Qf kc ks R cc own nL ret l S lv (.int x :: rest) pc res :=
  fun r S' hr p e s m args below meth c H locs ls C hP hS h => lv_istore C.1.1 C.1.2.1 hd h hn hl (fun ls h => kk r S' hr p e s m args below meth c H locs ls C hP hS h)
theorem mw_lload_n {k : Fin 4} {i : Nat} {x : Int64} (j : Nat) (hd : decode cc pc = .ok (.lload_n k, 1)) (hi : (k : Nat) = i) (hj : lv[j]? = some (i, .long x)) (kk : MG X E Qf kc ks R cc own nL ret l S lv (.long x :: rest) (pc + 1) res) : MG X E Qf kc ks R cc own nL ret l S lv rest pc res :=
  fun r S' hr p e s m args below meth c H locs ls C hP hS h => lv_lload_n C.1.1 C.1.2.1 hd hi (lv_at h j hj) (kk r S' hr p e s m args below meth c H locs ls C hP hS h)
theorem mw_lload {i : Nat} {x : Int64} (j : Nat) (hd : decode cc pc = .ok (.lload i, 2)) (hj : lv[j]? = some (i, .long x)) (kk : MG X E Qf kc ks R cc own nL ret l S lv (.long x :: rest) (pc + 2) res) : MG X E Qf kc ks R cc own nL ret l S lv rest pc res :=
  fun r S' hr p e s m args below meth c H locs ls C hP hS h => lv_lload C.1.1 C.1.2.1 hd (lv_at h j hj) (kk r S' hr p e s m args below meth c H locs ls C hP hS h)
theorem mw_lstore_n {k : Fin 4} {i : Nat} {x : Int64} (hd : decode cc pc = .ok (.lstore_n k, 1)) (hi : (k : Nat) = i) (hn : i + 1 < nL) (hl : (i, Value.long x) :: lv.filter (fun q => !(q.1 == i) && (!(q.1 == i + 1) && !(q.1 + 1 == i && q.2.category == 2))) = lv') (kk : MG X E Qf kc ks R cc own nL ret l S lv' rest (pc + 1) res) : MG X E Qf kc ks R cc own nL ret l S lv (.long x :: rest) pc res :=
  fun r S' hr p e s m args below meth c H locs ls C hP hS h => lv_lstore_n C.1.1 C.1.2.1 hd hi h hn hl (fun ls h => kk r S' hr p e s m args below meth c H locs ls C hP hS h)
theorem mw_lstore {i : Nat} {x : Int64} (hd : decode cc pc = .ok (.lstore i, 2)) (hn : i + 1 < nL) (hl : (i, Value.long x) :: lv.filter (fun q => !(q.1 == i) && (!(q.1 == i + 1) && !(q.1 + 1 == i && q.2.category == 2))) = lv') (kk : MG X E Qf kc ks R cc own nL ret l S lv' rest (pc + 2) res) : MG X E Qf kc ks R cc own nL ret l S lv (.long x :: rest) pc res :=
  fun r S' hr p e s m args below meth c H locs ls C hP hS h => lv_lstore C.1.1 C.1.2.1 hd h hn hl (fun ls h => kk r S' hr p e s m args below meth c H locs ls C hP hS h)
theorem mw_aload_n {k : Fin 4} {i : Nat} {x : Nat} (j : Nat) (hd : decode cc pc = .ok (.aload_n k, 1)) (hi : (k : Nat) = i) (hj : lv[j]? = some (i, .ref x)) (kk : MG X E Qf kc ks R cc own nL ret l S lv (.ref x :: rest) (pc + 1) res) : MG X E Qf kc ks R cc own nL ret l S lv rest pc res :=
  fun r S' hr p e s m args below meth c H locs ls C hP hS h => lv_aload_n C.1.1 C.1.2.1 hd hi (lv_at h j hj) (kk r S' hr p e s m args below meth c H locs ls C hP hS h)
theorem mw_aload {i : Nat} {x : Nat} (j : Nat) (hd : decode cc pc = .ok (.aload i, 2)) (hj : lv[j]? = some (i, .ref x)) (kk : MG X E Qf kc ks R cc own nL ret l S lv (.ref x :: rest) (pc + 2) res) : MG X E Qf kc ks R cc own nL ret l S lv rest pc res :=
  fun r S' hr p e s m args below meth c H locs ls C hP hS h => lv_aload C.1.1 C.1.2.1 hd (lv_at h j hj) (kk r S' hr p e s m args below meth c H locs ls C hP hS h)
theorem mw_astore_n {k : Fin 4} {i : Nat} {x : Nat} (hd : decode cc pc = .ok (.astore_n k, 1)) (hi : (k : Nat) = i) (hn : i < nL) (hl : (i, Value.ref x) :: lv.filter (fun q => !(q.1 == i) && !(q.1 + 1 == i && q.2.category == 2)) = lv') (kk : MG X E Qf kc ks R cc own nL ret l S lv' rest (pc + 1) res) : MG X E Qf kc ks R cc own nL ret l S lv (.ref x :: rest) pc res :=
  fun r S' hr p e s m args below meth c H locs ls C hP hS h => lv_astore_n C.1.1 C.1.2.1 hd hi h hn hl (fun ls h => kk r S' hr p e s m args below meth c H locs ls C hP hS h)
theorem mw_astore {i : Nat} {x : Nat} (hd : decode cc pc = .ok (.astore i, 2)) (hn : i < nL) (hl : (i, Value.ref x) :: lv.filter (fun q => !(q.1 == i) && !(q.1 + 1 == i && q.2.category == 2)) = lv') (kk : MG X E Qf kc ks R cc own nL ret l S lv' rest (pc + 2) res) : MG X E Qf kc ks R cc own nL ret l S lv (.ref x :: rest) pc res :=
  fun r S' hr p e s m args below meth c H locs ls C hP hS h => lv_astore C.1.1 C.1.2.1 hd h hn hl (fun ls h => kk r S' hr p e s m args below meth c H locs ls C hP hS h)
theorem mw_iinc {i k : Nat} {n : Int} {x v : Int32} (hd : decode cc pc = .ok (.iinc i n, 3)) (hk : lv[k]? = some (i, .int x)) (hv : x + Int32.ofInt n = v) (hn : i < nL) (hl : (i, Value.int v) :: lv.filter (fun q => !(q.1 == i) && !(q.1 + 1 == i && q.2.category == 2)) = lv') (kk : MG X E Qf kc ks R cc own nL ret l S lv' rest (pc + 3) res) : MG X E Qf kc ks R cc own nL ret l S lv rest pc res :=
  fun r S' hr p e s m args below meth c H locs ls C hP hS h => lv_iinc C.1.1 C.1.2.1 hd h hk hv hn hl (fun ls h => kk r S' hr p e s m args below meth c H locs ls C hP hS h)
theorem mw_goto {off : Int} {tgt : Nat} (hd : decode cc pc = .ok (.goto off, 3)) (ht : (pc : Int) + off = (tgt : Int)) (k : MG X E Qf kc ks R cc own nL ret l S lv rest tgt res) : MG X E Qf kc ks R cc own nL ret l S lv rest pc res :=
  fun r S' hr p e s m args below meth c H locs ls C hP hS h => lv_goto C.1.1 C.1.2.1 hd ht (k r S' hr p e s m args below meth c H locs ls C hP hS h)
theorem mw_icmp_eq {x y : Int32} {off : Int} {tgt : Nat} (hd : decode cc pc = .ok (.if_icmp .eq off, 3)) (ht : (pc : Int) + off = (tgt : Int)) (kt : MG X E Qf kc ks R cc own nL ret l S lv rest tgt A) (kf : MG X E Qf kc ks R cc own nL ret l S lv rest (pc + 3) B) : MG X E Qf kc ks R cc own nL ret l S lv (.int y :: .int x :: rest) pc (if x = y then A else B) := by
  intro r S' hr p e s m args below meth c H locs ls C hP hS h
  refine lv_icmp_eq C.1.1 C.1.2.1 hd ht (fun q => kt r S' (by rw [if_pos q] at hr; exact hr) p e s m args below meth c H locs ls C hP hS h) (fun q => kf r S' (by rw [if_neg q] at hr; exact hr) p e s m args below meth c H locs ls C hP hS h)
theorem mw_if_eq {x : Int32} {off : Int} {tgt : Nat} (hd : decode cc pc = .ok (.ifCond .eq off, 3)) (ht : (pc : Int) + off = (tgt : Int)) (kt : MG X E Qf kc ks R cc own nL ret l S lv rest tgt A) (kf : MG X E Qf kc ks R cc own nL ret l S lv rest (pc + 3) B) : MG X E Qf kc ks R cc own nL ret l S lv (.int x :: rest) pc (if x = 0 then A else B) := by
  intro r S' hr p e s m args below meth c H locs ls C hP hS h
  refine lv_if_eq C.1.1 C.1.2.1 hd ht (fun q => kt r S' (by rw [if_pos q] at hr; exact hr) p e s m args below meth c H locs ls C hP hS h) (fun q => kf r S' (by rw [if_neg q] at hr; exact hr) p e s m args below meth c H locs ls C hP hS h)
theorem mw_icmp_ne {x y : Int32} {off : Int} {tgt : Nat} (hd : decode cc pc = .ok (.if_icmp .ne off, 3)) (ht : (pc : Int) + off = (tgt : Int)) (kf : MG X E Qf kc ks R cc own nL ret l S lv rest (pc + 3) A) (kt : MG X E Qf kc ks R cc own nL ret l S lv rest tgt B) : MG X E Qf kc ks R cc own nL ret l S lv (.int y :: .int x :: rest) pc (if x = y then A else B) := by
  intro r S' hr p e s m args below meth c H locs ls C hP hS h
  refine lv_icmp_ne C.1.1 C.1.2.1 hd ht (fun q => kt r S' (by rw [if_neg q] at hr; exact hr) p e s m args below meth c H locs ls C hP hS h) (fun q => kf r S' (by rw [if_pos q] at hr; exact hr) p e s m args below meth c H locs ls C hP hS h)
theorem mw_if_ne {x : Int32} {off : Int} {tgt : Nat} (hd : decode cc pc = .ok (.ifCond .ne off, 3)) (ht : (pc : Int) + off = (tgt : Int)) (kf : MG X E Qf kc ks R cc own nL ret l S lv rest (pc + 3) A) (kt : MG X E Qf kc ks R cc own nL ret l S lv rest tgt B) : MG X E Qf kc ks R cc own nL ret l S lv (.int x :: rest) pc (if x = 0 then A else B) := by
  intro r S' hr p e s m args below meth c H locs ls C hP hS h
  refine lv_if_ne C.1.1 C.1.2.1 hd ht (fun q => kt r S' (by rw [if_neg q] at hr; exact hr) p e s m args below meth c H locs ls C hP hS h) (fun q => kf r S' (by rw [if_pos q] at hr; exact hr) p e s m args below meth c H locs ls C hP hS h)
theorem mw_icmp_lt {x y : Int32} {off : Int} {tgt : Nat} (hd : decode cc pc = .ok (.if_icmp .lt off, 3)) (ht : (pc : Int) + off = (tgt : Int)) (kt : MG X E Qf kc ks R cc own nL ret l S lv rest tgt A) (kf : MG X E Qf kc ks R cc own nL ret l S lv rest (pc + 3) B) : MG X E Qf kc ks R cc own nL ret l S lv (.int y :: .int x :: rest) pc (if x < y then A else B) := by
  intro r S' hr p e s m args below meth c H locs ls C hP hS h
  refine lv_icmp_lt C.1.1 C.1.2.1 hd ht (fun q => kt r S' (by rw [if_pos q] at hr; exact hr) p e s m args below meth c H locs ls C hP hS h) (fun q => kf r S' (by rw [if_neg q] at hr; exact hr) p e s m args below meth c H locs ls C hP hS h)
theorem mw_if_lt {x : Int32} {off : Int} {tgt : Nat} (hd : decode cc pc = .ok (.ifCond .lt off, 3)) (ht : (pc : Int) + off = (tgt : Int)) (kt : MG X E Qf kc ks R cc own nL ret l S lv rest tgt A) (kf : MG X E Qf kc ks R cc own nL ret l S lv rest (pc + 3) B) : MG X E Qf kc ks R cc own nL ret l S lv (.int x :: rest) pc (if x < 0 then A else B) := by
  intro r S' hr p e s m args below meth c H locs ls C hP hS h
  refine lv_if_lt C.1.1 C.1.2.1 hd ht (fun q => kt r S' (by rw [if_pos q] at hr; exact hr) p e s m args below meth c H locs ls C hP hS h) (fun q => kf r S' (by rw [if_neg q] at hr; exact hr) p e s m args below meth c H locs ls C hP hS h)
theorem mw_icmp_ge {x y : Int32} {off : Int} {tgt : Nat} (hd : decode cc pc = .ok (.if_icmp .ge off, 3)) (ht : (pc : Int) + off = (tgt : Int)) (kt : MG X E Qf kc ks R cc own nL ret l S lv rest tgt A) (kf : MG X E Qf kc ks R cc own nL ret l S lv rest (pc + 3) B) : MG X E Qf kc ks R cc own nL ret l S lv (.int y :: .int x :: rest) pc (if y ≤ x then A else B) := by
  intro r S' hr p e s m args below meth c H locs ls C hP hS h
  refine lv_icmp_ge C.1.1 C.1.2.1 hd ht (fun q => kt r S' (by rw [if_pos q] at hr; exact hr) p e s m args below meth c H locs ls C hP hS h) (fun q => kf r S' (by rw [if_neg q] at hr; exact hr) p e s m args below meth c H locs ls C hP hS h)
theorem mw_if_ge {x : Int32} {off : Int} {tgt : Nat} (hd : decode cc pc = .ok (.ifCond .ge off, 3)) (ht : (pc : Int) + off = (tgt : Int)) (kt : MG X E Qf kc ks R cc own nL ret l S lv rest tgt A) (kf : MG X E Qf kc ks R cc own nL ret l S lv rest (pc + 3) B) : MG X E Qf kc ks R cc own nL ret l S lv (.int x :: rest) pc (if 0 ≤ x then A else B) := by
  intro r S' hr p e s m args below meth c H locs ls C hP hS h
  refine lv_if_ge C.1.1 C.1.2.1 hd ht (fun q => kt r S' (by rw [if_pos q] at hr; exact hr) p e s m args below meth c H locs ls C hP hS h) (fun q => kf r S' (by rw [if_neg q] at hr; exact hr) p e s m args below meth c H locs ls C hP hS h)
theorem mw_icmp_gt {x y : Int32} {off : Int} {tgt : Nat} (hd : decode cc pc = .ok (.if_icmp .gt off, 3)) (ht : (pc : Int) + off = (tgt : Int)) (kt : MG X E Qf kc ks R cc own nL ret l S lv rest tgt A) (kf : MG X E Qf kc ks R cc own nL ret l S lv rest (pc + 3) B) : MG X E Qf kc ks R cc own nL ret l S lv (.int y :: .int x :: rest) pc (if y < x then A else B) := by
  intro r S' hr p e s m args below meth c H locs ls C hP hS h
  refine lv_icmp_gt C.1.1 C.1.2.1 hd ht (fun q => kt r S' (by rw [if_pos q] at hr; exact hr) p e s m args below meth c H locs ls C hP hS h) (fun q => kf r S' (by rw [if_neg q] at hr; exact hr) p e s m args below meth c H locs ls C hP hS h)
theorem mw_if_gt {x : Int32} {off : Int} {tgt : Nat} (hd : decode cc pc = .ok (.ifCond .gt off, 3)) (ht : (pc : Int) + off = (tgt : Int)) (kt : MG X E Qf kc ks R cc own nL ret l S lv rest tgt A) (kf : MG X E Qf kc ks R cc own nL ret l S lv rest (pc + 3) B) : MG X E Qf kc ks R cc own nL ret l S lv (.int x :: rest) pc (if 0 < x then A else B) := by
  intro r S' hr p e s m args below meth c H locs ls C hP hS h
  refine lv_if_gt C.1.1 C.1.2.1 hd ht (fun q => kt r S' (by rw [if_pos q] at hr; exact hr) p e s m args below meth c H locs ls C hP hS h) (fun q => kf r S' (by rw [if_neg q] at hr; exact hr) p e s m args below meth c H locs ls C hP hS h)
theorem mw_icmp_le {x y : Int32} {off : Int} {tgt : Nat} (hd : decode cc pc = .ok (.if_icmp .le off, 3)) (ht : (pc : Int) + off = (tgt : Int)) (kt : MG X E Qf kc ks R cc own nL ret l S lv rest tgt A) (kf : MG X E Qf kc ks R cc own nL ret l S lv rest (pc + 3) B) : MG X E Qf kc ks R cc own nL ret l S lv (.int y :: .int x :: rest) pc (if x ≤ y then A else B) := by
  intro r S' hr p e s m args below meth c H locs ls C hP hS h
  refine lv_icmp_le C.1.1 C.1.2.1 hd ht (fun q => kt r S' (by rw [if_pos q] at hr; exact hr) p e s m args below meth c H locs ls C hP hS h) (fun q => kf r S' (by rw [if_neg q] at hr; exact hr) p e s m args below meth c H locs ls C hP hS h)
theorem mw_if_le {x : Int32} {off : Int} {tgt : Nat} (hd : decode cc pc = .ok (.ifCond .le off, 3)) (ht : (pc : Int) + off = (tgt : Int)) (kt : MG X E Qf kc ks R cc own nL ret l S lv rest tgt A) (kf : MG X E Qf kc ks R cc own nL ret l S lv rest (pc + 3) B) : MG X E Qf kc ks R cc own nL ret l S lv (.int x :: rest) pc (if x ≤ 0 then A else B) := by
  intro r S' hr p e s m args below meth c H locs ls C hP hS h
  refine lv_if_le C.1.1 C.1.2.1 hd ht (fun q => kt r S' (by rw [if_pos q] at hr; exact hr) p e s m args below meth c H locs ls C hP hS h) (fun q => kf r S' (by rw [if_neg q] at hr; exact hr) p e s m args below meth c H locs ls C hP hS h)
end MWR
end
section
/-! rows of MW that touch the heap; calls; returns; the entry -/
def mBind {α β : Type} (x : Option (α × mM)) (k : α → mM → Option (β × mM)) : Option (β × mM) := match x with
  | none => none
  | some q => k q.1 q.2
theorem mBind_some {α β : Type} {x : Option (α × mM)} {k : α → mM → Option (β × mM)} {q : β × mM} (h : mBind x k = some q) : ∃ r S, x = some (r, S) ∧ k r S = some q := by
  cases x with
  | none => cases h
  | some z => exact ⟨z.1, z.2, rfl, h⟩
theorem mBind_of {α β : Type} {k : α → mM → Option (β × mM)} (r : α) (S : mM) : mBind (some (r, S)) k = k r S := rfl
section MWH
variable {α : Type} {X : mX} {E : State → Prop} {Qf : List Frame → Array Value → State → α → mM → State → Prop} {kc ks : Nat} {R : Room} {cc : ByteArray} {own : String} {nL : Nat} {ret : Option FieldType} {l : Launch} {S S1 : mM} {lv lv' : List (Nat × Value)} {rest : List Value} {pc : Nat} {res A B : Option (α × mM)}
theorem mw_get {a ci k idx N : Nat} {fs : List Value} {v : Value} {C : String} {T : u_T} (hlt : a < mNA) (hc : mCell X S a = .inr (ci, fs)) (hcl : vwCl[ci]? = some (C, T, N)) (hk : k < N) (hv : fs[k]? = some v) (hin : ∀ w ∈ u_ws C T N, w ∈ mW) (hl : Cond.fieldLink own idx (T k).1 (T k).2.1 (T k).2.2.1 ∈ mW) (hd : decode cc pc = .ok (.getfield idx, 3)) (kk : MG X E Qf kc ks R cc own nL ret l S lv (v :: rest) (pc + 3) res) : MG X E Qf kc ks R cc own nL ret l S lv (.ref (X.2.1 a) :: rest) pc res :=
  fun r S' hr p e s m args below meth c H locs ls Cx hP hS h => va_get Cx.1.1 Cx.1.2.1 Cx.1.2.2.2.2.2.1 hin Cx.1.2.2.2.2.1 Cx.1.2.2.2.2.2.2.2.1 hP a ((mWs_at hlt).trans (by rw [hc])) hcl k hk (Cx.1.2.2.2.2.2.1 _ hl) (fun _ h9 => h9) hv hd (kk r S' hr p e s m args below meth c H locs ls Cx hP hS h)
theorem mw_getN {a ci k idx N : Nat} {fs : List Value} {v : Value} {C host : String} {T : u_T} (hlt : a < mNA) (hc : mCell X S a = .inr (ci, fs)) (hcl : vwCl[ci]? = some (C, T, N)) (hk : k < N) (hv : fs[k]? = some v) (hin : ∀ w ∈ u_ws C T N, w ∈ mW) (hl : Cond.fieldLinkNest own idx (T k).1 (T k).2.1 (T k).2.2.1 host ∈ mN) (hd : decode cc pc = .ok (.getfield idx, 3)) (kk : MG X E Qf kc ks R cc own nL ret l S lv (v :: rest) (pc + 3) res) : MG X E Qf kc ks R cc own nL ret l S lv (.ref (X.2.1 a) :: rest) pc res :=
  fun r S' hr p e s m args below meth c H locs ls Cx hP hS h => va_getN Cx.1.1 Cx.1.2.1 Cx.1.2.2.2.2.2.1 hin Cx.1.2.2.2.2.1 Cx.1.2.2.2.2.2.2.2.1 hP a ((mWs_at hlt).trans (by rw [hc])) hcl k hk (va_Nw.use rfl (Cx.1.2.2.2.2.2.2.2.2.1 _ hl)) (fun _ h9 => h9) hv hd (kk r S' hr p e s m args below meth c H locs ls Cx hP hS h)
theorem mw_put {a ci k idx N : Nat} {fs : List Value} {v : Value} {C : String} {T : u_T} {ty : FieldType} (hlt : a < mNA) (hc : mCell X S a = .inr (ci, fs)) (hcl : vwCl[ci]? = some (C, T, N)) (hk : k < N) (hl9 : k < fs.length) (hin : ∀ w ∈ u_ws C T N, w ∈ mW) (ty0 : Nat → FieldType) (hty : ∀ k, k < N → parseFieldDescriptor (T k).2.2.1 = some (ty0 k)) (hnm : ∀ a, a < N → ∀ b, b < N → a ≠ b → (T a).2.1 ≠ (T b).2.1) (hl : Cond.fieldLink own idx (T k).1 (T k).2.1 (T k).2.2.1 ∈ mW) (hfin : (T k).2.2.2 = false) (hdt : parseFieldDescriptor (T k).2.2.1 = some ty) (hn : narrow ty v = v) (hfit : fits ty v = true) (hset : (mWs X S).set a (X.2.1 a, .inr (ci, fs.set k v)) = mWs X S1) (hd : decode cc pc = .ok (.putfield idx, 3)) (kk : MG X E Qf kc ks R cc own nL ret l S1 lv rest (pc + 3) res) : MG X E Qf kc ks R cc own nL ret l S lv (v :: .ref (X.2.1 a) :: rest) pc res :=
  fun r S' hr p e s m args below meth c H locs ls Cx hP hS h => va_put Cx.1.1 Cx.1.2.1 Cx.1.2.2.2.2.2.1 hin ty0 hty hnm Cx.1.2.2.2.2.1 Cx.1.2.2.2.2.2.2.2.1 hP (Cx.1.2.2.2.2.2.2.2.D S) hS a ((mWs_at hlt).trans (by rw [hc])) hcl k hk (Cx.1.2.2.2.2.2.1 _ hl) (fun _ h9 => h9) hfin hdt hn hfit hl9 hd (fun H1 locs1 hP1 _ hS1 => kk r S' hr p e s m args below meth c H1 locs1 ls Cx (by rw [← hset]; exact hP1) hS1 h)
theorem mw_putN {a ci k idx N : Nat} {fs : List Value} {v : Value} {C host : String} {T : u_T} {ty : FieldType} (hlt : a < mNA) (hc : mCell X S a = .inr (ci, fs)) (hcl : vwCl[ci]? = some (C, T, N)) (hk : k < N) (hl9 : k < fs.length) (hin : ∀ w ∈ u_ws C T N, w ∈ mW) (ty0 : Nat → FieldType) (hty : ∀ k, k < N → parseFieldDescriptor (T k).2.2.1 = some (ty0 k)) (hnm : ∀ a, a < N → ∀ b, b < N → a ≠ b → (T a).2.1 ≠ (T b).2.1) (hl : Cond.fieldLinkNest own idx (T k).1 (T k).2.1 (T k).2.2.1 host ∈ mN) (hfin : (T k).2.2.2 = false) (hdt : parseFieldDescriptor (T k).2.2.1 = some ty) (hn : narrow ty v = v) (hfit : fits ty v = true) (hset : (mWs X S).set a (X.2.1 a, .inr (ci, fs.set k v)) = mWs X S1) (hd : decode cc pc = .ok (.putfield idx, 3)) (kk : MG X E Qf kc ks R cc own nL ret l S1 lv rest (pc + 3) res) : MG X E Qf kc ks R cc own nL ret l S lv (v :: .ref (X.2.1 a) :: rest) pc res :=
  fun r S' hr p e s m args below meth c H locs ls Cx hP hS h => va_putN Cx.1.1 Cx.1.2.1 Cx.1.2.2.2.2.2.1 hin ty0 hty hnm Cx.1.2.2.2.2.1 Cx.1.2.2.2.2.2.2.2.1 hP (Cx.1.2.2.2.2.2.2.2.D S) hS a ((mWs_at hlt).trans (by rw [hc])) hcl k hk (va_Nw.use rfl (Cx.1.2.2.2.2.2.2.2.2.1 _ hl)) (fun _ h9 => h9) hfin hdt hn hfit hl9 hd (fun H1 locs1 hP1 _ hS1 => kk r S' hr p e s m args below meth c H1 locs1 ls Cx (by rw [← hset]; exact hP1) hS1 h)
theorem mIn_of {i : Int32} {n : Nat} (h : 0 ≤ i ∧ i.toNatClampNeg < n) : vp_in i n := fun q => by
  rcases q with q | q
  · exact absurd h.1 (Int32.not_le.mpr q)
  · exact absurd h.2 (Nat.not_lt.mpr q)
theorem mCell_k {a k : Nat} (h : mKind a = k) : mCell X S a = mRow X k a (S.1 a) (S.2.1 a) (S.2.2 a) := by rw [mCell, h]
theorem mw_iaload {a n : Nat} {i : Int32} (hk : mKind a = 21) (hn : mLen a = n) (hd : decode cc pc = .ok (.iaload, 1)) (kk : MG X E Qf kc ks R cc own nL ret l S lv (.int (S.1 a i.toNatClampNeg) :: rest) (pc + 1) A) : MG X E Qf kc ks R cc own nL ret l S lv (.int i :: .ref (X.2.1 a) :: rest) pc (if 0 ≤ i ∧ i.toNatClampNeg < n then A else none) :=
  mw_chk (fun q r S' hr p e s m args below meth c H locs ls Cx hP hS h => va_iald Cx.1.1 Cx.1.2.1 Cx.1.2.2.2.2.2.2.2.1 hP a 1 (f := S.1 a) ((mWs_at (mKind_lt hk (by decide))).trans (by rw [mCell_k hk]; rfl)) rfl (mIn_of (by rw [hn]; exact q)) hd (kk r S' hr p e s m args below meth c H locs ls Cx hP hS h))
theorem mw_laload {a n : Nat} {i : Int32} (hk : mKind a = 22) (hn : mLen a = n) (hd : decode cc pc = .ok (.laload, 1)) (kk : MG X E Qf kc ks R cc own nL ret l S lv (.long (S.2.1 a i.toNatClampNeg) :: rest) (pc + 1) A) : MG X E Qf kc ks R cc own nL ret l S lv (.int i :: .ref (X.2.1 a) :: rest) pc (if 0 ≤ i ∧ i.toNatClampNeg < n then A else none) :=
  mw_chk (fun q r S' hr p e s m args below meth c H locs ls Cx hP hS h => va_lald Cx.1.1 Cx.1.2.1 Cx.1.2.2.2.2.2.2.2.1 hP a 2 (f := S.2.1 a) ((mWs_at (mKind_lt hk (by decide))).trans (by rw [mCell_k hk]; rfl)) rfl (mIn_of (by rw [hn]; exact q)) hd (kk r S' hr p e s m args below meth c H locs ls Cx hP hS h))
theorem mw_baload {a n : Nat} {i : Int32} (hk : mKind a = 20) (hn : mLen a = n) (hd : decode cc pc = .ok (.baload, 1)) (kk : MG X E Qf kc ks R cc own nL ret l S lv (.int (S.1 a i.toNatClampNeg) :: rest) (pc + 1) A) : MG X E Qf kc ks R cc own nL ret l S lv (.int i :: .ref (X.2.1 a) :: rest) pc (if 0 ≤ i ∧ i.toNatClampNeg < n then A else none) :=
  mw_chk (fun q r S' hr p e s m args below meth c H locs ls Cx hP hS h => va_bald Cx.1.1 Cx.1.2.1 Cx.1.2.2.2.2.2.2.2.1 hP a 0 (f := S.1 a) ((mWs_at (mKind_lt hk (by decide))).trans (by rw [mCell_k hk]; rfl)) rfl (mIn_of (by rw [hn]; exact q)) hd (kk r S' hr p e s m args below meth c H locs ls Cx hP hS h))
theorem mw_zaload {a n : Nat} {i : Int32} (hk : mKind a = 23) (hn : mLen a = n) (hd : decode cc pc = .ok (.baload, 1)) (kk : MG X E Qf kc ks R cc own nL ret l S lv (.int (S.1 a i.toNatClampNeg) :: rest) (pc + 1) A) : MG X E Qf kc ks R cc own nL ret l S lv (.int i :: .ref (X.2.1 a) :: rest) pc (if 0 ≤ i ∧ i.toNatClampNeg < n then A else none) :=
  mw_chk (fun q r S' hr p e s m args below meth c H locs ls Cx hP hS h => va_zald Cx.1.1 Cx.1.2.1 Cx.1.2.2.2.2.2.2.2.1 hP a 3 (f := S.1 a) ((mWs_at (mKind_lt hk (by decide))).trans (by rw [mCell_k hk]; rfl)) rfl (mIn_of (by rw [hn]; exact q)) hd (kk r S' hr p e s m args below meth c H locs ls Cx hP hS h))
theorem mw_iastore {a n : Nat} {i x : Int32} (hk : mKind a = 21) (hn : mLen a = n) (hd : decode cc pc = .ok (.iastore, 1)) (kk : MG X E Qf kc ks R cc own nL ret l (setI S a i.toNatClampNeg x) lv rest (pc + 1) A) : MG X E Qf kc ks R cc own nL ret l S lv (.int x :: .int i :: .ref (X.2.1 a) :: rest) pc (if 0 ≤ i ∧ i.toNatClampNeg < n then A else none) :=
  mw_chk (fun q r S' hr p e s m args below meth c H locs ls Cx hP hS h => va_iast Cx.1.1 Cx.1.2.1 Cx.1.2.2.2.2.2.2.2.1 hP (Cx.1.2.2.2.2.2.2.2.D S) hS a 1 (f := S.1 a) ((mWs_at (mKind_lt hk (by decide))).trans (by rw [mCell_k hk]; rfl)) rfl (mIn_of (by rw [hn]; exact q)) hd (fun H1 locs1 hP1 _ hS1 => kk r S' hr p e s m args below meth c H1 locs1 ls Cx (by rw [← mWs_set (mKind_lt hk (by decide)) (fun b hb => mSetI_ne b hb) (mSetI_at.trans (by rw [hk]))]; exact hP1) hS1 h))
theorem mw_lastore {a n : Nat} {i : Int32} {x : Int64} (hk : mKind a = 22) (hn : mLen a = n) (hd : decode cc pc = .ok (.lastore, 1)) (kk : MG X E Qf kc ks R cc own nL ret l (setJ S a i.toNatClampNeg x) lv rest (pc + 1) A) : MG X E Qf kc ks R cc own nL ret l S lv (.long x :: .int i :: .ref (X.2.1 a) :: rest) pc (if 0 ≤ i ∧ i.toNatClampNeg < n then A else none) :=
  mw_chk (fun q r S' hr p e s m args below meth c H locs ls Cx hP hS h => va_last Cx.1.1 Cx.1.2.1 Cx.1.2.2.2.2.2.2.2.1 hP (Cx.1.2.2.2.2.2.2.2.D S) hS a 2 (f := S.2.1 a) ((mWs_at (mKind_lt hk (by decide))).trans (by rw [mCell_k hk]; rfl)) rfl (mIn_of (by rw [hn]; exact q)) hd (fun H1 locs1 hP1 _ hS1 => kk r S' hr p e s m args below meth c H1 locs1 ls Cx (by rw [← mWs_set (mKind_lt hk (by decide)) (fun b hb => mSetJ_ne b hb) (mSetJ_at.trans (by rw [hk]))]; exact hP1) hS1 h))
theorem mw_bastore {a n : Nat} {i x : Int32} (hk : mKind a = 20) (hn : mLen a = n) (hd : decode cc pc = .ok (.bastore, 1)) (kk : MG X E Qf kc ks R cc own nL ret l (setI S a i.toNatClampNeg (vp_nar .byte x)) lv rest (pc + 1) A) : MG X E Qf kc ks R cc own nL ret l S lv (.int x :: .int i :: .ref (X.2.1 a) :: rest) pc (if 0 ≤ i ∧ i.toNatClampNeg < n then A else none) :=
  mw_chk (fun q r S' hr p e s m args below meth c H locs ls Cx hP hS h => va_bast Cx.1.1 Cx.1.2.1 Cx.1.2.2.2.2.2.2.2.1 hP (Cx.1.2.2.2.2.2.2.2.D S) hS a 0 (f := S.1 a) ((mWs_at (mKind_lt hk (by decide))).trans (by rw [mCell_k hk]; rfl)) rfl (mIn_of (by rw [hn]; exact q)) hd (fun H1 locs1 hP1 _ hS1 => kk r S' hr p e s m args below meth c H1 locs1 ls Cx (by rw [← mWs_set (mKind_lt hk (by decide)) (fun b hb => mSetI_ne b hb) (mSetI_at.trans (by rw [hk]))]; exact hP1) hS1 h))
theorem mw_zastore {a n : Nat} {i x : Int32} (hk : mKind a = 23) (hn : mLen a = n) (hd : decode cc pc = .ok (.bastore, 1)) (kk : MG X E Qf kc ks R cc own nL ret l (setI S a i.toNatClampNeg (vp_nar .boolean x)) lv rest (pc + 1) A) : MG X E Qf kc ks R cc own nL ret l S lv (.int x :: .int i :: .ref (X.2.1 a) :: rest) pc (if 0 ≤ i ∧ i.toNatClampNeg < n then A else none) :=
  mw_chk (fun q r S' hr p e s m args below meth c H locs ls Cx hP hS h => va_zast Cx.1.1 Cx.1.2.1 Cx.1.2.2.2.2.2.2.2.1 hP (Cx.1.2.2.2.2.2.2.2.D S) hS a 3 (f := S.1 a) ((mWs_at (mKind_lt hk (by decide))).trans (by rw [mCell_k hk]; rfl)) rfl (mIn_of (by rw [hn]; exact q)) hd (fun H1 locs1 hP1 _ hS1 => kk r S' hr p e s m args below meth c H1 locs1 ls Cx (by rw [← mWs_set (mKind_lt hk (by decide)) (fun b hb => mSetI_ne b hb) (mSetI_at.trans (by rw [hk]))]; exact hP1) hS1 h))
theorem mw_alen {a n k t : Nat} {v : Int32} {x : vp_A} {cA : ClassId} {ty : FieldType} (hk : mKind a = k) (hk9 : k ≠ 99) (hc : mRow X k a (S.1 a) (S.2.1 a) (S.2.2 a) = .inl (cA, x)) (ht : (mTys X)[t]? = some (cA, ty)) (hv : Int32.ofNat x.1 = v) (hd : decode cc pc = .ok (.arraylength, 1)) (kk : MG X E Qf kc ks R cc own nL ret l S lv (.int v :: rest) (pc + 1) A) : MG X E Qf kc ks R cc own nL ret l S lv (.ref (X.2.1 a) :: rest) pc A :=
  fun r S' hr p e s m args below meth c H locs ls Cx hP hS h => va_alen Cx.1.1 Cx.1.2.1 Cx.1.2.2.2.2.2.2.2.1 hP a t ((mWs_at (mKind_lt hk hk9)).trans (by rw [mCell_k hk, hc])) ht hv hd (kk r S' hr p e s m args below meth c H locs ls Cx hP hS h)
theorem mw_aaload {a n k t : Nat} {i : Int32} {g : Nat → Nat} {cA : ClassId} {C : String} (hk : mKind a = k) (hk9 : k ≠ 99) (hc : mRow X k a (S.1 a) (S.2.1 a) (S.2.2 a) = .inl (cA, n, .inr (.inr (.inr (.inr (fun i => some (X.2.1 (g i)))))))) (ht : (mTys X)[t]? = some (cA, .object C)) (hd : decode cc pc = .ok (.aaload, 1)) (kk : (0 ≤ i ∧ i.toNatClampNeg < n) → MG X E Qf kc ks R cc own nL ret l S lv (.ref (X.2.1 (g i.toNatClampNeg)) :: rest) (pc + 1) A) : MG X E Qf kc ks R cc own nL ret l S lv (.int i :: .ref (X.2.1 a) :: rest) pc (if 0 ≤ i ∧ i.toNatClampNeg < n then A else none) :=
  mw_chk (fun q r S' hr p e s m args below meth c H locs ls Cx hP hS h => va_aldq (f := fun i => some (X.2.1 (g i))) Cx.1.1 Cx.1.2.1 Cx.1.2.2.2.2.2.2.2.1 hP a t ((mWs_at (mKind_lt hk hk9)).trans (by rw [mCell_k hk, hc])) ht (mIn_of q) hd (kk q r S' hr p e s m args below meth c H locs ls Cx hP hS h))
theorem mw_ldc2 {idx : Nat} {v : Int64} (hc : Cond.constantLong own idx v ∈ mW) (hd : decode cc pc = .ok (.ldc2_w idx, 3)) (kk : MG X E Qf kc ks R cc own nL ret l S lv (.long v :: rest) (pc + 3) A) : MG X E Qf kc ks R cc own nL ret l S lv rest pc A :=
  fun r S' hr p e s m args below meth c H locs ls Cx hP hS h => lv_ldc2 Cx.1.1 Cx.1.2.1 Cx.1.2.2.2.2.1 (Cx.1.2.2.2.2.2.1 _ hc) hd (kk r S' hr p e s m args below meth c H locs ls Cx hP hS h)
theorem mw_ldc {idx : Nat} {v : Int32} (hc : Cond.constant own idx v ∈ mW) (hd : decode cc pc = .ok (.ldc idx, 2)) (kk : MG X E Qf kc ks R cc own nL ret l S lv (.int v :: rest) (pc + 2) A) : MG X E Qf kc ks R cc own nL ret l S lv rest pc A :=
  fun r S' hr p e s m args below meth c H locs ls Cx hP hS h => lv_ldc Cx.1.1 Cx.1.2.1 Cx.1.2.2.2.2.1 (Cx.1.2.2.2.2.2.1 _ hc) hd (kk r S' hr p e s m args below meth c H locs ls Cx hP hS h)
theorem mw_tab {dflt lo hi : Int} {offs : Array Int} {len tgt : Nat} {x v : Int32} {off : Int} (hx : x = v) (hd : decode cc pc = .ok (.tableswitch dflt lo hi offs, len)) (h1 : ¬ v.toInt < lo) (h2 : ¬ hi < v.toInt) (ho : offs[(v.toInt - lo).toNat]? = some off) (ht : (pc : Int) + off = (tgt : Int)) (kk : MG X E Qf kc ks R cc own nL ret l S lv rest tgt A) : MG X E Qf kc ks R cc own nL ret l S lv (.int x :: rest) pc A := by
  subst hx
  exact fun r S' hr p e s m args below meth c H locs ls Cx hP hS h => lv_tableIn Cx.1.1 Cx.1.2.1 hd h1 h2 ho ht (kk r S' hr p e s m args below meth c H locs ls Cx hP hS h)
theorem mw_tabD {dflt lo hi : Int} {offs : Array Int} {len tgt : Nat} {x : Int32} (hd : decode cc pc = .ok (.tableswitch dflt lo hi offs, len)) (hx : x.toInt < lo ∨ hi < x.toInt) (ht : (pc : Int) + dflt = (tgt : Int)) (kk : MG X E Qf kc ks R cc own nL ret l S lv rest tgt A) : MG X E Qf kc ks R cc own nL ret l S lv (.int x :: rest) pc A :=
  fun r S' hr p e s m args below meth c H locs ls Cx hP hS h => lv_tableOut Cx.1.1 Cx.1.2.1 hd hx ht (kk r S' hr p e s m args below meth c H locs ls Cx hP hS h)
theorem mw_look {dflt : Int} {ps : Array (Int × Int)} {len tgt : Nat} {x : Int32} {off : Int} (hd : decode cc pc = .ok (.lookupswitch dflt ps, len)) (hp : (ps.toList.zip (ps.toList.drop 1)).all (fun (a, next) => a.1 < next.1) = true) (ho : Op.lookupswitch.offset ps.toList dflt x.toInt = off) (ht : (pc : Int) + off = (tgt : Int)) (kk : MG X E Qf kc ks R cc own nL ret l S lv rest tgt A) : MG X E Qf kc ks R cc own nL ret l S lv (.int x :: rest) pc A :=
  fun r S' hr p e s m args below meth c H locs ls Cx hP hS h => lv_lookup Cx.1.1 Cx.1.2.1 hd hp ho ht (kk r S' hr p e s m args below meth c H locs ls Cx hP hS h)
theorem mw_bndS {st : List Value} {K : mM → Option (α × mM)} (k : ∀ S, MG X E Qf kc ks R cc own nL ret l S lv st pc (K S)) : MG X E Qf kc ks R cc own nL ret l S lv st pc (bnd S K) := k S
theorem mw_bndA {x kd : Nat} {K : Nat → Option (α × mM)} (hk : mKind x = kd) (k : ∀ x, mKind x = kd → MG X E Qf kc ks R cc own nL ret l S lv (.ref (X.2.1 x) :: rest) pc (K x)) : MG X E Qf kc ks R cc own nL ret l S lv (.ref (X.2.1 x) :: rest) pc (bnd x K) := k x hk
theorem mw_iincB {i k : Nat} {n : Int} {x c : Int32} {lvf : Int32 → List (Nat × Value)} {K : Int32 → Option (α × mM)} (hd : decode cc pc = .ok (.iinc i n, 3)) (hk : lv[k]? = some (i, .int x)) (hc : Int32.ofInt n = c) (hn : i < nL) (hl : ∀ v, (i, Value.int v) :: lv.filter (fun q => !(q.1 == i) && !(q.1 + 1 == i && q.2.category == 2)) = lvf v) (kk : ∀ v, MG X E Qf kc ks R cc own nL ret l S (lvf v) rest (pc + 3) (K v)) : MG X E Qf kc ks R cc own nL ret l S lv rest pc (bnd (x + c) K) :=
  mw_iinc hd hk (by rw [hc]) hn (hl _) (kk (x + c))
end MWH
section MWE
variable {X : mX} {R : Room} {cc : ByteArray} {own : String} {nL : Nat} {ret : Option FieldType} {l : Launch} {S S1 : mM} {lv lv' : List (Nat × Value)} {rest : List Value} {pc : Nat}
theorem mw_ireturn {v : Int32} (hd : decode cc pc = .ok (.ireturn, 1)) : MW X viI R cc own nL (some .int) l S lv [.int v] pc (some (v, S)) := by
  intro r S' hr p e s m args below meth c H locs ls Cx hP hS h
  cases hr
  exact W.iret Cx.1.1 Cx.1.2.1 Cx.1.2.2.1 (fun t ht hW => ⟨rfl, by rw [ht]; exact hP, hS.F ht⟩) hS.2.2 hd Cx.1.2.2.2.2.2.2.1
theorem mw_zreturn {v : Int32} (hd : decode cc pc = .ok (.ireturn, 1)) : MW X viI R cc own nL (some .boolean) l S lv [.int v] pc (if v = 0 ∨ v = 1 then some (v, S) else none) := by
  refine mw_chk (fun q => ?_)
  intro r S' hr p e s m args below meth c H locs ls Cx hP hS h
  cases hr
  exact W.zret Cx.1.1 Cx.1.2.1 Cx.1.2.2.1 (by rcases q with rfl | rfl <;> rfl) (fun t ht hW => ⟨rfl, by rw [ht]; exact hP, hS.F ht⟩) hS.2.2 hd Cx.1.2.2.2.2.2.2.1
theorem mw_zret {v : Int32} (hv : v = 0 ∨ v = 1) (hd : decode cc pc = .ok (.ireturn, 1)) : MW X viI R cc own nL (some .boolean) l S lv [.int v] pc (some (v, S)) := by
  have := mw_zreturn (X := X) (R := R) (own := own) (nL := nL) (l := l) (S := S) (lv := lv) (v := v) hd
  rwa [if_pos hv] at this
theorem mw_lreturn {v : Int64} (hd : decode cc pc = .ok (.lreturn, 1)) : MW X viJ R cc own nL (some .long) l S lv [.long v] pc (some (v, S)) := by
  intro r S' hr p e s m args below meth c H locs ls Cx hP hS h
  cases hr
  exact W.lret Cx.1.1 Cx.1.2.1 Cx.1.2.2.1 (fun t ht hW => ⟨rfl, by rw [ht]; exact hP, hS.F ht⟩) hS.2.2 hd Cx.1.2.2.2.2.2.2.1
theorem mw_return (hd : decode cc pc = .ok (.return_, 1)) : MW X viV R cc own nL none l S lv [] pc (some ((), S)) := by
  intro r S' hr p e s m args below meth c H locs ls Cx hP hS h
  cases hr
  exact W.vret Cx.1.1 Cx.1.2.1 Cx.1.2.2.1 (fun t ht hW => ⟨rfl, by rw [ht]; exact hP, hS.F ht⟩) hS.2.2 hd Cx.1.2.2.2.2.2.2.1
theorem mw_areturn {v : Nat} {n : String} (hd : decode cc pc = .ok (.areturn, 1)) : MW X (viR X) R cc own nL (some (.object n)) l S lv [.ref (X.2.1 v)] pc (some (v, S)) := by
  intro r S' hr p e s m args below meth c H locs ls Cx hP hS h
  cases hr
  exact W.aret Cx.1.1 Cx.1.2.1 Cx.1.2.2.1 (Or.inl ⟨n, rfl⟩) (Or.inr ⟨_, rfl⟩) (fun t ht hW => ⟨rfl, by rw [ht]; exact hP, hS.F ht⟩) hS.2.2 hd Cx.1.2.2.2.2.2.2.1
/-- a method's contract out of the walk of its body -/
theorem mMet_of {α : Type} {vi : α → Option Value} {y : MethodName} {As : List Value} {res : Option (α × mM)} (hy : plainFor y = true) (ho : y.cls = own) (hn : (lg_sl As).length ≤ nL) (h : MW X vi R cc own nL ret l S (lv_args 0 As) [] 0 res) : mMet X vi y cc nL ret R As l S res := by
  intro r S' hr
  subst ho
  refine MetFree.of_bodySF (code := cc) (maxLocals := nL) (ret := ret) hy ?_ ?_
  · intro args s m h hn
    obtain ⟨meth, c, h1, h2, h3, h4, h5, h6, -, -⟩ := Cond.code_spec hn (atoms_spec (ws := Cond.code y cc nL ret :: mW) h _ List.mem_cons_self)
    exact ⟨meth, c, h1, h2, h3, h4, h5, h6⟩
  · intro p e s m args below meth c s₁ B hml hv _
    obtain ⟨rfl, hG, hP⟩ := hv
    have hts := atoms_spec (ws := Cond.code y cc nL ret :: mW) B.pre
    have hl := lv_entry As (n := nL) hn
    have hh0 : s₁.heap = s.heap := by rw [B.state]; rfl
    have K := h r S' hr p e s m _ below meth c s.heap [] _ ⟨⟨B.exec, B.bytes, B.returns, hml, findClass_of_methodNamed B.named, fun w hw => hts w (List.mem_cons_of_mem _ hw), B.notSynchronized, hG⟩, trivial⟩ hP va_S.rf hl
    rw [lg_entry_eq]
    obtain ⟨t, a1, o, b1, b2, b3⟩ := K s₁ hh0 (Stand.of_body B)
    exact ⟨t, o, a1, b1, b2, b3.1, b3.2⟩
end MWE
section MWC
variable {α β : Type} {X : mX} {E : State → Prop} {Qf : List Frame → Array Value → State → α → mM → State → Prop} {kc ks : Nat} {vi0 : β → Option Value} {R : Room} {cc : ByteArray} {own : String} {nL : Nat} {ret : Option FieldType} {l : Launch} {S S1 : mM} {lv lv' : List (Nat × Value)} {st0 rest : List Value} {pc : Nat} {res0 : Option (β × mM)} {K : β → mM → Option (α × mM)} {a0 : Array Value}
theorem mw_run (hrun : ∀ r0 S0, res0 = some (r0, S0) → ∀ (p : Program) (e : Env) (s : State) (m : MethodId) (args : Array Value) (below : List Frame) (meth : Method) (c : Code) (H : Heap) (locs : List Loc) (ls : Array Slot), (mCtx X cc own nL ret p s m args meth c ∧ E s) → va_P X.1 vwCl (mWs X S) H → va_S X.2.2.2.1 s.heap H locs → lv_has ls nL lv → va_Run p l e R s m args below meth c H locs kc ks 0 0 (F0 m pc ls st0) rest (mQc X (vi0 r0) S0 a0) X.2.2.2.1)
    (kk : ∀ r0 S0, MG X E Qf kc ks R cc own nL ret l S0 lv ((vi0 r0).toList ++ rest) (pc + 3) (K r0 S0)) : MG X E Qf kc ks R cc own nL ret l S lv st0 pc (mBind res0 K) := by
  intro r S' hr p e s m args below meth c H locs ls Cx hP hS h
  obtain ⟨r0, S0, h0, h1⟩ := mBind_some hr
  intro T hT Y
  obtain ⟨v, st₀, t, T', L, g0, Y', hL, e1, e2, ⟨hv, hP1, hF⟩, st⟩ := hrun r0 S0 h0 p e s m args below meth c H locs ls Cx hP hS h T hT Y
  cases hv
  have hz := hF.1
  have hk := hF.2
  rw [g0] at hz hk
  obtain ⟨t2, a1, b1⟩ := kk r0 S0 r S' h1 p e s m args below meth c T'.heap (locs ++ L) ls Cx (by rw [e1]; exact hP1)
    ⟨Nat.le_trans hS.1 (by rw [e1]; exact hz), fun q h1 h2 => by rw [e1, hk q (Nat.lt_of_lt_of_le h1 hS.1) h2]; exact hS.2.1 q h1 h2, fun q hq => by
      rcases List.mem_append.mp hq with h | h
      · exact hS.2.2 q h
      · exact hL q h⟩ h T' rfl Y'
  exact ⟨t2, st t2 a1, b1⟩
theorem mPre {As : List Value} {s : State} {H : Heap} {locs : List Loc} (hG : mGood X s) (hP : va_P X.1 vwCl (mWs X S) H) (hS : va_S X.2.2.2.1 s.heap H locs) : ∀ U : State, U.heap = H → s.WarmedH U.vm → va_Pc As (fun U => mGood X U ∧ va_P X.1 vwCl (mWs X S) U.heap) As.toArray U :=
  fun U hU hW => ⟨rfl, hG.moved hW (fun q h1 h2 => by rw [hU]; exact hS.2.1 q h1 h2), by rw [hU]; exact hP⟩
theorem mBlind {As : List Value} : FrameBlind (va_Pc As (fun U => mGood X U ∧ va_P X.1 vwCl (mWs X S) U.heap)) := fun _ _ _ _ q => ⟨q.1, q.2.1.calling, q.2.2⟩
variable {y : MethodName} {bc : ByteArray} {nB idx n ci b : Nat} {rb : Option FieldType} {rm : Room} {As : List Value} {C host : String} {fs : List Value} {q9 : vw_C}
theorem mGoodIn (hc : Cond.code y bc nB rb ∈ mW) : GoodIn mW (Cond.code y bc nB rb :: mW) := fun w h => by
  rcases List.mem_cons.mp h with h | h
  · subst h; exact mW_good _ hc
  · exact mW_good w h
abbrev mDesc (y : MethodName) (n : Nat) : Prop := y.cls ≠ "java/lang/invoke/MethodHandle" ∧ y.cls ≠ "java/lang/invoke/VarHandle" ∧ (parseMethodDescriptor y.desc).map (fun d => d.parameters.length) = some n
theorem mw_callV (hM : mMet X vi0 y bc nB rb rm (.ref (X.2.1 b) :: As) l S res0) (hc : Cond.code y bc nB rb ∈ mW) (hl : Cond.methodLink own idx y ∈ mW) (hi : Cond.instanceMethod y ∈ mW) (hs : Cond.selects y.cls y y ∈ mW) (hini : Cond.initialized y.cls ∈ mW) (hdc : mDesc y n) (hz : rm.cells = 0 ∧ rm.slots = 0) (hR : rm.frames + 1 ≤ R.frames ∧ 8 + (nB + 11) + rm.locals ≤ R.locals) (hlt : b < mNA) (hcell : mCell X S b = .inr (ci, fs)) (hcl : vwCl[ci]? = some q9) (hq : q9.1 = y.cls) (hn : As.length = n) (hst : st0 = As.reverse ++ .ref (X.2.1 b) :: rest) (hkk : kc ≤ R.cells ∧ ks ≤ R.slots) (hr8 : (rest.map fun v => v.category).sum ≤ 8) (hd : decode cc pc = .ok (.invokevirtual idx, 3))
    (kk : ∀ r0 S0, MG X E Qf kc ks R cc own nL ret l S0 lv ((vi0 r0).toList ++ rest) (pc + 3) (K r0 S0)) : MG X E Qf kc ks R cc own nL ret l S lv st0 pc (mBind res0 K) := by
  subst hst
  refine mw_run (a0 := (Value.ref (X.2.1 b) :: As).toArray) (fun r0 S0 h0 p e s m args below meth c H locs ls Cx hP hS h => ?_) kk
  have ok := Cx.1.2.2.2.2.2.1
  exact va_runV (As := As) (rest := rest) ⟨Cx.1.1, Cx.1.2.1, Cx.1.2.2.2.1, Cx.1.2.2.2.2.1, ok⟩ (hM r0 S0 h0) ⟨callB_of n ok (mGoodIn hc) rfl hz.1 hz.2 (ok _ hini) (ok _ hl) hdc hR, ok _ hi, ok _ hs⟩ ⟨mBlind, by rw [← hq]; exact va_recv Cx.1.2.2.2.2.2.2.2.1 hP hcl ((mWs_at hlt).trans (by rw [hcell])), mPre Cx.1.2.2.2.2.2.2.2 hP hS⟩ rfl hn h.1 rfl (lv_room hr8) hd hkk
theorem mw_callVN (hM : mMet X vi0 y bc nB rb rm (.ref (X.2.1 b) :: As) l S res0) (hc : Cond.code y bc nB rb ∈ mW) (hl : Cond.methodLinkNest own idx y host ∈ mN) (hi : Cond.instanceMethod y ∈ mW) (hs : Cond.selects y.cls y y ∈ mW) (hini : Cond.initialized y.cls ∈ mW) (hdc : mDesc y n) (hz : rm.cells = 0 ∧ rm.slots = 0) (hR : rm.frames + 1 ≤ R.frames ∧ 8 + (nB + 11) + rm.locals ≤ R.locals) (hlt : b < mNA) (hcell : mCell X S b = .inr (ci, fs)) (hcl : vwCl[ci]? = some q9) (hq : q9.1 = y.cls) (hn : As.length = n) (hst : st0 = As.reverse ++ .ref (X.2.1 b) :: rest) (hkk : kc ≤ R.cells ∧ ks ≤ R.slots) (hr8 : (rest.map fun v => v.category).sum ≤ 8) (hd : decode cc pc = .ok (.invokevirtual idx, 3))
    (kk : ∀ r0 S0, MG X E Qf kc ks R cc own nL ret l S0 lv ((vi0 r0).toList ++ rest) (pc + 3) (K r0 S0)) : MG X E Qf kc ks R cc own nL ret l S lv st0 pc (mBind res0 K) := by
  subst hst
  refine mw_run (a0 := (Value.ref (X.2.1 b) :: As).toArray) (fun r0 S0 h0 p e s m args below meth c H locs ls Cx hP hS h => ?_) kk
  have ok := Cx.1.2.2.2.2.2.1
  exact va_runVN (As := As) (rest := rest) ⟨Cx.1.1, Cx.1.2.1, Cx.1.2.2.2.1, Cx.1.2.2.2.2.1, ok⟩ (hM r0 S0 h0) ⟨va_cnB n ok (mGoodIn hc) rfl hz.1 hz.2 (Cx.1.2.2.2.2.2.2.2.2.1 _ hl) (ok _ hini) hdc hR, ok _ hi, ok _ hs⟩ ⟨mBlind, by rw [← hq]; exact va_recv Cx.1.2.2.2.2.2.2.2.1 hP hcl ((mWs_at hlt).trans (by rw [hcell])), mPre Cx.1.2.2.2.2.2.2.2 hP hS⟩ rfl hn h.1 rfl (lv_room hr8) hd hkk
theorem mw_callS (hM : mMet X vi0 y bc nB rb rm As l S res0) (hc : Cond.code y bc nB rb ∈ mW) (hl : Cond.methodLink own idx y ∈ mW) (hi : Cond.static y ∈ mW) (hini : Cond.initialized y.cls ∈ mW) (hdc : mDesc y n) (hz : rm.cells = 0 ∧ rm.slots = 0) (hR : rm.frames + 1 ≤ R.frames ∧ 8 + (nB + 11) + rm.locals ≤ R.locals) (hn : As.length = n) (hst : st0 = As.reverse ++ rest) (hkk : kc ≤ R.cells ∧ ks ≤ R.slots) (hr8 : (rest.map fun v => v.category).sum ≤ 8) (hd : decode cc pc = .ok (.invokestatic idx, 3))
    (kk : ∀ r0 S0, MG X E Qf kc ks R cc own nL ret l S0 lv ((vi0 r0).toList ++ rest) (pc + 3) (K r0 S0)) : MG X E Qf kc ks R cc own nL ret l S lv st0 pc (mBind res0 K) := by
  subst hst
  refine mw_run (a0 := As.toArray) (fun r0 S0 h0 p e s m args below meth c H locs ls Cx hP hS h => ?_) kk
  have ok := Cx.1.2.2.2.2.2.1
  exact va_runS (As := As) (rest := rest) ⟨Cx.1.1, Cx.1.2.1, Cx.1.2.2.2.1, Cx.1.2.2.2.2.1, ok⟩ (hM r0 S0 h0) ⟨callB_of n ok (mGoodIn hc) rfl hz.1 hz.2 (ok _ hini) (ok _ hl) hdc hR, ok _ hi⟩ ⟨mBlind, mPre Cx.1.2.2.2.2.2.2.2 hP hS⟩ rfl hn h.1 rfl (lv_room hr8) hd hkk
theorem mw_callSN (hM : mMet X vi0 y bc nB rb rm As l S res0) (hc : Cond.code y bc nB rb ∈ mW) (hl : Cond.methodLinkNest own idx y host ∈ mN) (hi : Cond.static y ∈ mW) (hini : Cond.initialized y.cls ∈ mW) (hdc : mDesc y n) (hz : rm.cells = 0 ∧ rm.slots = 0) (hR : rm.frames + 1 ≤ R.frames ∧ 8 + (nB + 11) + rm.locals ≤ R.locals) (hn : As.length = n) (hst : st0 = As.reverse ++ rest) (hkk : kc ≤ R.cells ∧ ks ≤ R.slots) (hr8 : (rest.map fun v => v.category).sum ≤ 8) (hd : decode cc pc = .ok (.invokestatic idx, 3))
    (kk : ∀ r0 S0, MG X E Qf kc ks R cc own nL ret l S0 lv ((vi0 r0).toList ++ rest) (pc + 3) (K r0 S0)) : MG X E Qf kc ks R cc own nL ret l S lv st0 pc (mBind res0 K) := by
  subst hst
  refine mw_run (a0 := As.toArray) (fun r0 S0 h0 p e s m args below meth c H locs ls Cx hP hS h => ?_) kk
  have ok := Cx.1.2.2.2.2.2.1
  exact va_runSN (As := As) (rest := rest) ⟨Cx.1.1, Cx.1.2.1, Cx.1.2.2.2.1, Cx.1.2.2.2.2.1, ok⟩ (hM r0 S0 h0) ⟨va_cnB n ok (mGoodIn hc) rfl hz.1 hz.2 (Cx.1.2.2.2.2.2.2.2.2.1 _ hl) (ok _ hini) hdc hR, ok _ hi, trivial⟩ ⟨mBlind, mPre Cx.1.2.2.2.2.2.2.2 hP hS⟩ rfl hn h.1 rfl (lv_room hr8) hd hkk
end MWC
end
