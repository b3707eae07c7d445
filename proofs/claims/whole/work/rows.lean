section
-- ===== PART A: goes FIRST, ahead of the names: the tables' words, and 'selects' of the private methods out of them =====
/-- a private method of a class that the tables say can be made, by its rows of tables_1 -/
def lw_okq (q : MethodName × Nat) : Prop := (q.1.cls ≠ "java/lang/invoke/MethodHandle" ∧ q.1.cls ≠ "java/lang/invoke/VarHandle") ∧ Cond.instantiable q.1.cls q.2 ∈ tables_1 ∧ Cond.privateMethod q.1 ∈ tables_1 ∧ Cond.instanceMethod q.1 ∈ tables_1
theorem lw_p0 : lw_okq (⟨"GateMaker", "append", "(LGateMaker$Act;)I"⟩, 9) := ⟨⟨by decide +kernel, by decide +kernel⟩, List.mem_of_getElem? (i := 24) (by decide +kernel), List.mem_of_getElem? (i := 331) (by decide +kernel), List.mem_of_getElem? (i := 332) (by decide +kernel)⟩
theorem lw_p1 : lw_okq (⟨"GateMaker", "forget", "()V"⟩, 9) := ⟨⟨by decide +kernel, by decide +kernel⟩, List.mem_of_getElem? (i := 24) (by decide +kernel), List.mem_of_getElem? (i := 339) (by decide +kernel), List.mem_of_getElem? (i := 340) (by decide +kernel)⟩
theorem lw_p2 : lw_okq (⟨"GateMaker$Span", "product", "(LGateMaker$Span;)LGateMaker$Span;"⟩, 2) := ⟨⟨by decide +kernel, by decide +kernel⟩, List.mem_of_getElem? (i := 264) (by decide +kernel), List.mem_of_getElem? (i := 388) (by decide +kernel), List.mem_of_getElem? (i := 389) (by decide +kernel)⟩
theorem lw_p3 : lw_okq (⟨"GateMaker$Span", "quotient", "()LGateMaker$Span;"⟩, 2) := ⟨⟨by decide +kernel, by decide +kernel⟩, List.mem_of_getElem? (i := 264) (by decide +kernel), List.mem_of_getElem? (i := 398) (by decide +kernel), List.mem_of_getElem? (i := 399) (by decide +kernel)⟩
theorem lw_p4 : lw_okq (⟨"GateMaker$Span", "comparison", "(LGateMaker$Span;)LGateMaker$Span;"⟩, 2) := ⟨⟨by decide +kernel, by decide +kernel⟩, List.mem_of_getElem? (i := 264) (by decide +kernel), List.mem_of_getElem? (i := 405) (by decide +kernel), List.mem_of_getElem? (i := 406) (by decide +kernel)⟩
theorem lw_p5 : lw_okq (⟨"GateMaker$Needs", "meetInRow", "(LGateMaker$Act;LGateMaker$Act;)Z"⟩, 3) := ⟨⟨by decide +kernel, by decide +kernel⟩, List.mem_of_getElem? (i := 69) (by decide +kernel), List.mem_of_getElem? (i := 507) (by decide +kernel), List.mem_of_getElem? (i := 508) (by decide +kernel)⟩
theorem lw_p6 : lw_okq (⟨"GateMaker$Plan", "seat", "(II)V"⟩, 7) := ⟨⟨by decide +kernel, by decide +kernel⟩, List.mem_of_getElem? (i := 85) (by decide +kernel), List.mem_of_getElem? (i := 536) (by decide +kernel), List.mem_of_getElem? (i := 537) (by decide +kernel)⟩
theorem lw_p7 : lw_okq (⟨"GateMaker$Plan", "freePart", "(III)I"⟩, 7) := ⟨⟨by decide +kernel, by decide +kernel⟩, List.mem_of_getElem? (i := 85) (by decide +kernel), List.mem_of_getElem? (i := 543) (by decide +kernel), List.mem_of_getElem? (i := 544) (by decide +kernel)⟩
theorem lw_p8 : lw_okq (⟨"GateMaker$Plan", "isFree", "(IIII)Z"⟩, 7) := ⟨⟨by decide +kernel, by decide +kernel⟩, List.mem_of_getElem? (i := 85) (by decide +kernel), List.mem_of_getElem? (i := 547) (by decide +kernel), List.mem_of_getElem? (i := 548) (by decide +kernel)⟩
theorem lw_p9 : lw_okq (⟨"GateMaker$Plan", "putInOrder", "(I)V"⟩, 7) := ⟨⟨by decide +kernel, by decide +kernel⟩, List.mem_of_getElem? (i := 85) (by decide +kernel), List.mem_of_getElem? (i := 556) (by decide +kernel), List.mem_of_getElem? (i := 557) (by decide +kernel)⟩
theorem lw_p10 : lw_okq (⟨"GateMaker$Registers", "findLife", "(I)V"⟩, 7) := ⟨⟨by decide +kernel, by decide +kernel⟩, List.mem_of_getElem? (i := 121) (by decide +kernel), List.mem_of_getElem? (i := 565) (by decide +kernel), List.mem_of_getElem? (i := 566) (by decide +kernel)⟩
theorem lw_p11 : lw_okq (⟨"GateMaker$Registers", "nextWithout", "()I"⟩, 7) := ⟨⟨by decide +kernel, by decide +kernel⟩, List.mem_of_getElem? (i := 121) (by decide +kernel), List.mem_of_getElem? (i := 573) (by decide +kernel), List.mem_of_getElem? (i := 574) (by decide +kernel)⟩
theorem lw_p12 : lw_okq (⟨"GateMaker$Registers", "leastFree", "(I)I"⟩, 7) := ⟨⟨by decide +kernel, by decide +kernel⟩, List.mem_of_getElem? (i := 121) (by decide +kernel), List.mem_of_getElem? (i := 577) (by decide +kernel), List.mem_of_getElem? (i := 578) (by decide +kernel)⟩
theorem lw_p13 : lw_okq (⟨"GateMaker$Registers", "isTaken", "(II)Z"⟩, 7) := ⟨⟨by decide +kernel, by decide +kernel⟩, List.mem_of_getElem? (i := 121) (by decide +kernel), List.mem_of_getElem? (i := 581) (by decide +kernel), List.mem_of_getElem? (i := 582) (by decide +kernel)⟩
theorem lw_p14 : lw_okq (⟨"GateMaker$Registers", "sourceOf", "(I)I"⟩, 7) := ⟨⟨by decide +kernel, by decide +kernel⟩, List.mem_of_getElem? (i := 121) (by decide +kernel), List.mem_of_getElem? (i := 626) (by decide +kernel), List.mem_of_getElem? (i := 627) (by decide +kernel)⟩
theorem lw_p15 : lw_okq (⟨"GateMaker$Machine", "runInOrder", "([I)V"⟩, 12) := ⟨⟨by decide +kernel, by decide +kernel⟩, List.mem_of_getElem? (i := 153) (by decide +kernel), List.mem_of_getElem? (i := 652) (by decide +kernel), List.mem_of_getElem? (i := 653) (by decide +kernel)⟩
def lw_privs_1 : List (MethodName × Nat) := [(⟨"GateMaker", "append", "(LGateMaker$Act;)I"⟩, 9), (⟨"GateMaker", "forget", "()V"⟩, 9), (⟨"GateMaker$Span", "product", "(LGateMaker$Span;)LGateMaker$Span;"⟩, 2), (⟨"GateMaker$Span", "quotient", "()LGateMaker$Span;"⟩, 2), (⟨"GateMaker$Span", "comparison", "(LGateMaker$Span;)LGateMaker$Span;"⟩, 2), (⟨"GateMaker$Needs", "meetInRow", "(LGateMaker$Act;LGateMaker$Act;)Z"⟩, 3), (⟨"GateMaker$Plan", "seat", "(II)V"⟩, 7), (⟨"GateMaker$Plan", "freePart", "(III)I"⟩, 7), (⟨"GateMaker$Plan", "isFree", "(IIII)Z"⟩, 7), (⟨"GateMaker$Plan", "putInOrder", "(I)V"⟩, 7), (⟨"GateMaker$Registers", "findLife", "(I)V"⟩, 7), (⟨"GateMaker$Registers", "nextWithout", "()I"⟩, 7), (⟨"GateMaker$Registers", "leastFree", "(I)I"⟩, 7), (⟨"GateMaker$Registers", "isTaken", "(II)Z"⟩, 7), (⟨"GateMaker$Registers", "sourceOf", "(I)I"⟩, 7), (⟨"GateMaker$Machine", "runInOrder", "([I)V"⟩, 12)]
theorem lw_r1 : ∀ q ∈ lw_privs_1, lw_okq q := List.forall_mem_cons.mpr ⟨lw_p0, List.forall_mem_cons.mpr ⟨lw_p1, List.forall_mem_cons.mpr ⟨lw_p2, List.forall_mem_cons.mpr ⟨lw_p3, List.forall_mem_cons.mpr ⟨lw_p4, List.forall_mem_cons.mpr ⟨lw_p5, List.forall_mem_cons.mpr ⟨lw_p6, List.forall_mem_cons.mpr ⟨lw_p7, List.forall_mem_cons.mpr ⟨lw_p8, List.forall_mem_cons.mpr ⟨lw_p9, List.forall_mem_cons.mpr ⟨lw_p10, List.forall_mem_cons.mpr ⟨lw_p11, List.forall_mem_cons.mpr ⟨lw_p12, List.forall_mem_cons.mpr ⟨lw_p13, List.forall_mem_cons.mpr ⟨lw_p14, List.forall_mem_cons.mpr ⟨lw_p15, fun _ h => absurd h List.not_mem_nil⟩⟩⟩⟩⟩⟩⟩⟩⟩⟩⟩⟩⟩⟩⟩⟩
theorem lw_p16 : lw_okq (⟨"GateMaker$Machine", "reset", "()V"⟩, 12) := ⟨⟨by decide +kernel, by decide +kernel⟩, List.mem_of_getElem? (i := 153) (by decide +kernel), List.mem_of_getElem? (i := 656) (by decide +kernel), List.mem_of_getElem? (i := 657) (by decide +kernel)⟩
theorem lw_p17 : lw_okq (⟨"GateMaker$Machine", "begin", "(I)V"⟩, 12) := ⟨⟨by decide +kernel, by decide +kernel⟩, List.mem_of_getElem? (i := 153) (by decide +kernel), List.mem_of_getElem? (i := 668) (by decide +kernel), List.mem_of_getElem? (i := 669) (by decide +kernel)⟩
theorem lw_p18 : lw_okq (⟨"GateMaker$Machine", "failsNow", "(LGateMaker$Act;)Z"⟩, 12) := ⟨⟨by decide +kernel, by decide +kernel⟩, List.mem_of_getElem? (i := 153) (by decide +kernel), List.mem_of_getElem? (i := 673) (by decide +kernel), List.mem_of_getElem? (i := 674) (by decide +kernel)⟩
theorem lw_p19 : lw_okq (⟨"GateMaker$Machine", "result", "(LGateMaker$Act;)J"⟩, 12) := ⟨⟨by decide +kernel, by decide +kernel⟩, List.mem_of_getElem? (i := 153) (by decide +kernel), List.mem_of_getElem? (i := 680) (by decide +kernel), List.mem_of_getElem? (i := 681) (by decide +kernel)⟩
theorem lw_p20 : lw_okq (⟨"GateMaker$Machine", "passOutside", "(LGateMaker$Act;J)V"⟩, 12) := ⟨⟨by decide +kernel, by decide +kernel⟩, List.mem_of_getElem? (i := 153) (by decide +kernel), List.mem_of_getElem? (i := 689) (by decide +kernel), List.mem_of_getElem? (i := 690) (by decide +kernel)⟩
theorem lw_p21 : lw_okq (⟨"GateMaker$Machine", "store", "(JJ)V"⟩, 12) := ⟨⟨by decide +kernel, by decide +kernel⟩, List.mem_of_getElem? (i := 153) (by decide +kernel), List.mem_of_getElem? (i := 693) (by decide +kernel), List.mem_of_getElem? (i := 694) (by decide +kernel)⟩
theorem lw_p22 : lw_okq (⟨"GateMaker", "keepAct", "(II)I"⟩, 9) := ⟨⟨by decide +kernel, by decide +kernel⟩, List.mem_of_getElem? (i := 24) (by decide +kernel), List.mem_of_getElem? (i := 732) (by decide +kernel), List.mem_of_getElem? (i := 733) (by decide +kernel)⟩
theorem lw_p23 : lw_okq (⟨"GateMaker", "keepTicks", "(I)I"⟩, 9) := ⟨⟨by decide +kernel, by decide +kernel⟩, List.mem_of_getElem? (i := 24) (by decide +kernel), List.mem_of_getElem? (i := 736) (by decide +kernel), List.mem_of_getElem? (i := 737) (by decide +kernel)⟩
theorem lw_p24 : lw_okq (⟨"java/lang/Throwable", "fillInStackTrace", "(I)Ljava/lang/Throwable;"⟩, 6) := ⟨⟨by decide +kernel, by decide +kernel⟩, List.mem_of_getElem? (i := 839) (by decide +kernel), List.mem_of_getElem? (i := 837) (by decide +kernel), List.mem_of_getElem? (i := 838) (by decide +kernel)⟩
theorem lw_p25 : lw_okq (⟨"GateMakerModel", "added", "(IIIII)I"⟩, 41) := ⟨⟨by decide +kernel, by decide +kernel⟩, List.mem_of_getElem? (i := 941) (by decide +kernel), List.mem_of_getElem? (i := 1083) (by decide +kernel), List.mem_of_getElem? (i := 1084) (by decide +kernel)⟩
theorem lw_p26 : lw_okq (⟨"GateMakerModel", "changed", "()V"⟩, 41) := ⟨⟨by decide +kernel, by decide +kernel⟩, List.mem_of_getElem? (i := 941) (by decide +kernel), List.mem_of_getElem? (i := 1087) (by decide +kernel), List.mem_of_getElem? (i := 1088) (by decide +kernel)⟩
theorem lw_p27 : lw_okq (⟨"GateMakerModel", "isAct", "(I)Z"⟩, 41) := ⟨⟨by decide +kernel, by decide +kernel⟩, List.mem_of_getElem? (i := 941) (by decide +kernel), List.mem_of_getElem? (i := 1099) (by decide +kernel), List.mem_of_getElem? (i := 1100) (by decide +kernel)⟩
theorem lw_p28 : lw_okq (⟨"GateMakerModel", "lengthOf", "(I)I"⟩, 41) := ⟨⟨by decide +kernel, by decide +kernel⟩, List.mem_of_getElem? (i := 941) (by decide +kernel), List.mem_of_getElem? (i := 1144) (by decide +kernel), List.mem_of_getElem? (i := 1145) (by decide +kernel)⟩
theorem lw_p29 : lw_okq (⟨"GateMakerModel", "kindOf", "(I)I"⟩, 41) := ⟨⟨by decide +kernel, by decide +kernel⟩, List.mem_of_getElem? (i := 941) (by decide +kernel), List.mem_of_getElem? (i := 1148) (by decide +kernel), List.mem_of_getElem? (i := 1149) (by decide +kernel)⟩
theorem lw_p30 : lw_okq (⟨"GateMakerModel", "findSpans", "()V"⟩, 41) := ⟨⟨by decide +kernel, by decide +kernel⟩, List.mem_of_getElem? (i := 941) (by decide +kernel), List.mem_of_getElem? (i := 1152) (by decide +kernel), List.mem_of_getElem? (i := 1153) (by decide +kernel)⟩
theorem lw_p31 : lw_okq (⟨"GateMakerModel", "spanOf", "(IJ)V"⟩, 41) := ⟨⟨by decide +kernel, by decide +kernel⟩, List.mem_of_getElem? (i := 941) (by decide +kernel), List.mem_of_getElem? (i := 1156) (by decide +kernel), List.mem_of_getElem? (i := 1157) (by decide +kernel)⟩
def lw_privs_2 : List (MethodName × Nat) := [(⟨"GateMaker$Machine", "reset", "()V"⟩, 12), (⟨"GateMaker$Machine", "begin", "(I)V"⟩, 12), (⟨"GateMaker$Machine", "failsNow", "(LGateMaker$Act;)Z"⟩, 12), (⟨"GateMaker$Machine", "result", "(LGateMaker$Act;)J"⟩, 12), (⟨"GateMaker$Machine", "passOutside", "(LGateMaker$Act;J)V"⟩, 12), (⟨"GateMaker$Machine", "store", "(JJ)V"⟩, 12), (⟨"GateMaker", "keepAct", "(II)I"⟩, 9), (⟨"GateMaker", "keepTicks", "(I)I"⟩, 9), (⟨"java/lang/Throwable", "fillInStackTrace", "(I)Ljava/lang/Throwable;"⟩, 6), (⟨"GateMakerModel", "added", "(IIIII)I"⟩, 41), (⟨"GateMakerModel", "changed", "()V"⟩, 41), (⟨"GateMakerModel", "isAct", "(I)Z"⟩, 41), (⟨"GateMakerModel", "lengthOf", "(I)I"⟩, 41), (⟨"GateMakerModel", "kindOf", "(I)I"⟩, 41), (⟨"GateMakerModel", "findSpans", "()V"⟩, 41), (⟨"GateMakerModel", "spanOf", "(IJ)V"⟩, 41)]
theorem lw_r2 : ∀ q ∈ lw_privs_2, lw_okq q := List.forall_mem_cons.mpr ⟨lw_p16, List.forall_mem_cons.mpr ⟨lw_p17, List.forall_mem_cons.mpr ⟨lw_p18, List.forall_mem_cons.mpr ⟨lw_p19, List.forall_mem_cons.mpr ⟨lw_p20, List.forall_mem_cons.mpr ⟨lw_p21, List.forall_mem_cons.mpr ⟨lw_p22, List.forall_mem_cons.mpr ⟨lw_p23, List.forall_mem_cons.mpr ⟨lw_p24, List.forall_mem_cons.mpr ⟨lw_p25, List.forall_mem_cons.mpr ⟨lw_p26, List.forall_mem_cons.mpr ⟨lw_p27, List.forall_mem_cons.mpr ⟨lw_p28, List.forall_mem_cons.mpr ⟨lw_p29, List.forall_mem_cons.mpr ⟨lw_p30, List.forall_mem_cons.mpr ⟨lw_p31, fun _ h => absurd h List.not_mem_nil⟩⟩⟩⟩⟩⟩⟩⟩⟩⟩⟩⟩⟩⟩⟩⟩
theorem lw_p32 : lw_okq (⟨"GateMakerModel", "bitsOf", "(I)I"⟩, 41) := ⟨⟨by decide +kernel, by decide +kernel⟩, List.mem_of_getElem? (i := 941) (by decide +kernel), List.mem_of_getElem? (i := 1166) (by decide +kernel), List.mem_of_getElem? (i := 1167) (by decide +kernel)⟩
theorem lw_p33 : lw_okq (⟨"GateMakerModel", "need", "(II)I"⟩, 41) := ⟨⟨by decide +kernel, by decide +kernel⟩, List.mem_of_getElem? (i := 941) (by decide +kernel), List.mem_of_getElem? (i := 1178) (by decide +kernel), List.mem_of_getElem? (i := 1179) (by decide +kernel)⟩
theorem lw_p34 : lw_okq (⟨"GateMakerModel", "meet", "(II)Z"⟩, 41) := ⟨⟨by decide +kernel, by decide +kernel⟩, List.mem_of_getElem? (i := 941) (by decide +kernel), List.mem_of_getElem? (i := 1182) (by decide +kernel), List.mem_of_getElem? (i := 1183) (by decide +kernel)⟩
theorem lw_p35 : lw_okq (⟨"GateMakerModel", "canFail", "(I)Z"⟩, 41) := ⟨⟨by decide +kernel, by decide +kernel⟩, List.mem_of_getElem? (i := 941) (by decide +kernel), List.mem_of_getElem? (i := 1186) (by decide +kernel), List.mem_of_getElem? (i := 1187) (by decide +kernel)⟩
theorem lw_p36 : lw_okq (⟨"GateMakerModel", "isOperand", "(II)Z"⟩, 41) := ⟨⟨by decide +kernel, by decide +kernel⟩, List.mem_of_getElem? (i := 941) (by decide +kernel), List.mem_of_getElem? (i := 1190) (by decide +kernel), List.mem_of_getElem? (i := 1191) (by decide +kernel)⟩
theorem lw_p37 : lw_okq (⟨"GateMakerModel", "askedFor", "(I)I"⟩, 41) := ⟨⟨by decide +kernel, by decide +kernel⟩, List.mem_of_getElem? (i := 941) (by decide +kernel), List.mem_of_getElem? (i := 1198) (by decide +kernel), List.mem_of_getElem? (i := 1199) (by decide +kernel)⟩
theorem lw_p38 : lw_okq (⟨"GateMakerModel", "freePart", "(II)I"⟩, 41) := ⟨⟨by decide +kernel, by decide +kernel⟩, List.mem_of_getElem? (i := 941) (by decide +kernel), List.mem_of_getElem? (i := 1202) (by decide +kernel), List.mem_of_getElem? (i := 1203) (by decide +kernel)⟩
theorem lw_p39 : lw_okq (⟨"GateMakerModel", "isFree", "(III)Z"⟩, 41) := ⟨⟨by decide +kernel, by decide +kernel⟩, List.mem_of_getElem? (i := 941) (by decide +kernel), List.mem_of_getElem? (i := 1206) (by decide +kernel), List.mem_of_getElem? (i := 1207) (by decide +kernel)⟩
theorem lw_p40 : lw_okq (⟨"GateMakerModel", "fills", "(I)I"⟩, 41) := ⟨⟨by decide +kernel, by decide +kernel⟩, List.mem_of_getElem? (i := 941) (by decide +kernel), List.mem_of_getElem? (i := 1210) (by decide +kernel), List.mem_of_getElem? (i := 1211) (by decide +kernel)⟩
theorem lw_p41 : lw_okq (⟨"GateMakerModel", "findRegisters", "()V"⟩, 41) := ⟨⟨by decide +kernel, by decide +kernel⟩, List.mem_of_getElem? (i := 941) (by decide +kernel), List.mem_of_getElem? (i := 1214) (by decide +kernel), List.mem_of_getElem? (i := 1215) (by decide +kernel)⟩
theorem lw_p42 : lw_okq (⟨"GateMakerModel", "isUsed", "(I)Z"⟩, 41) := ⟨⟨by decide +kernel, by decide +kernel⟩, List.mem_of_getElem? (i := 941) (by decide +kernel), List.mem_of_getElem? (i := 1218) (by decide +kernel), List.mem_of_getElem? (i := 1219) (by decide +kernel)⟩
theorem lw_p43 : lw_okq (⟨"GateMakerModel", "lifeBegin", "(I)I"⟩, 41) := ⟨⟨by decide +kernel, by decide +kernel⟩, List.mem_of_getElem? (i := 941) (by decide +kernel), List.mem_of_getElem? (i := 1222) (by decide +kernel), List.mem_of_getElem? (i := 1223) (by decide +kernel)⟩
theorem lw_p44 : lw_okq (⟨"GateMakerModel", "freeRegister", "(I)I"⟩, 41) := ⟨⟨by decide +kernel, by decide +kernel⟩, List.mem_of_getElem? (i := 941) (by decide +kernel), List.mem_of_getElem? (i := 1226) (by decide +kernel), List.mem_of_getElem? (i := 1227) (by decide +kernel)⟩
theorem lw_p45 : lw_okq (⟨"GateMakerModel", "liveTogether", "(II)Z"⟩, 41) := ⟨⟨by decide +kernel, by decide +kernel⟩, List.mem_of_getElem? (i := 941) (by decide +kernel), List.mem_of_getElem? (i := 1230) (by decide +kernel), List.mem_of_getElem? (i := 1231) (by decide +kernel)⟩
theorem lw_p46 : lw_okq (⟨"GateMakerModel", "lifeEnd", "(I)I"⟩, 41) := ⟨⟨by decide +kernel, by decide +kernel⟩, List.mem_of_getElem? (i := 941) (by decide +kernel), List.mem_of_getElem? (i := 1234) (by decide +kernel), List.mem_of_getElem? (i := 1235) (by decide +kernel)⟩
theorem lw_p47 : lw_okq (⟨"GateMakerModel", "justBehind", "(I)I"⟩, 41) := ⟨⟨by decide +kernel, by decide +kernel⟩, List.mem_of_getElem? (i := 941) (by decide +kernel), List.mem_of_getElem? (i := 1242) (by decide +kernel), List.mem_of_getElem? (i := 1243) (by decide +kernel)⟩
def lw_privs_3 : List (MethodName × Nat) := [(⟨"GateMakerModel", "bitsOf", "(I)I"⟩, 41), (⟨"GateMakerModel", "need", "(II)I"⟩, 41), (⟨"GateMakerModel", "meet", "(II)Z"⟩, 41), (⟨"GateMakerModel", "canFail", "(I)Z"⟩, 41), (⟨"GateMakerModel", "isOperand", "(II)Z"⟩, 41), (⟨"GateMakerModel", "askedFor", "(I)I"⟩, 41), (⟨"GateMakerModel", "freePart", "(II)I"⟩, 41), (⟨"GateMakerModel", "isFree", "(III)Z"⟩, 41), (⟨"GateMakerModel", "fills", "(I)I"⟩, 41), (⟨"GateMakerModel", "findRegisters", "()V"⟩, 41), (⟨"GateMakerModel", "isUsed", "(I)Z"⟩, 41), (⟨"GateMakerModel", "lifeBegin", "(I)I"⟩, 41), (⟨"GateMakerModel", "freeRegister", "(I)I"⟩, 41), (⟨"GateMakerModel", "liveTogether", "(II)Z"⟩, 41), (⟨"GateMakerModel", "lifeEnd", "(I)I"⟩, 41), (⟨"GateMakerModel", "justBehind", "(I)I"⟩, 41)]
theorem lw_r3 : ∀ q ∈ lw_privs_3, lw_okq q := List.forall_mem_cons.mpr ⟨lw_p32, List.forall_mem_cons.mpr ⟨lw_p33, List.forall_mem_cons.mpr ⟨lw_p34, List.forall_mem_cons.mpr ⟨lw_p35, List.forall_mem_cons.mpr ⟨lw_p36, List.forall_mem_cons.mpr ⟨lw_p37, List.forall_mem_cons.mpr ⟨lw_p38, List.forall_mem_cons.mpr ⟨lw_p39, List.forall_mem_cons.mpr ⟨lw_p40, List.forall_mem_cons.mpr ⟨lw_p41, List.forall_mem_cons.mpr ⟨lw_p42, List.forall_mem_cons.mpr ⟨lw_p43, List.forall_mem_cons.mpr ⟨lw_p44, List.forall_mem_cons.mpr ⟨lw_p45, List.forall_mem_cons.mpr ⟨lw_p46, List.forall_mem_cons.mpr ⟨lw_p47, fun _ h => absurd h List.not_mem_nil⟩⟩⟩⟩⟩⟩⟩⟩⟩⟩⟩⟩⟩⟩⟩⟩
theorem lw_p48 : lw_okq (⟨"GateMakerModel", "freeTicks", "()I"⟩, 41) := ⟨⟨by decide +kernel, by decide +kernel⟩, List.mem_of_getElem? (i := 941) (by decide +kernel), List.mem_of_getElem? (i := 1251) (by decide +kernel), List.mem_of_getElem? (i := 1252) (by decide +kernel)⟩
theorem lw_p49 : lw_okq (⟨"GateMakerModel", "filled", "(I)I"⟩, 41) := ⟨⟨by decide +kernel, by decide +kernel⟩, List.mem_of_getElem? (i := 941) (by decide +kernel), List.mem_of_getElem? (i := 1255) (by decide +kernel), List.mem_of_getElem? (i := 1256) (by decide +kernel)⟩
theorem lw_p50 : lw_okq (⟨"GateMakerModel", "source", "(II)I"⟩, 41) := ⟨⟨by decide +kernel, by decide +kernel⟩, List.mem_of_getElem? (i := 941) (by decide +kernel), List.mem_of_getElem? (i := 1267) (by decide +kernel), List.mem_of_getElem? (i := 1268) (by decide +kernel)⟩
theorem lw_p51 : lw_okq (⟨"GateMakerModel", "begin", "(I)I"⟩, 41) := ⟨⟨by decide +kernel, by decide +kernel⟩, List.mem_of_getElem? (i := 941) (by decide +kernel), List.mem_of_getElem? (i := 1279) (by decide +kernel), List.mem_of_getElem? (i := 1280) (by decide +kernel)⟩
theorem lw_p52 : lw_okq (⟨"GateMakerModel", "why", "(I)I"⟩, 41) := ⟨⟨by decide +kernel, by decide +kernel⟩, List.mem_of_getElem? (i := 941) (by decide +kernel), List.mem_of_getElem? (i := 1283) (by decide +kernel), List.mem_of_getElem? (i := 1284) (by decide +kernel)⟩
theorem lw_p53 : lw_okq (⟨"GateMakerModel", "numberAt", "(II)J"⟩, 41) := ⟨⟨by decide +kernel, by decide +kernel⟩, List.mem_of_getElem? (i := 941) (by decide +kernel), List.mem_of_getElem? (i := 1287) (by decide +kernel), List.mem_of_getElem? (i := 1288) (by decide +kernel)⟩
theorem lw_p54 : lw_okq (⟨"GateMakerModel", "given", "(I)J"⟩, 41) := ⟨⟨by decide +kernel, by decide +kernel⟩, List.mem_of_getElem? (i := 941) (by decide +kernel), List.mem_of_getElem? (i := 1291) (by decide +kernel), List.mem_of_getElem? (i := 1292) (by decide +kernel)⟩
theorem lw_p55 : lw_okq (⟨"GateMakerModel", "operandsOf", "(I)I"⟩, 41) := ⟨⟨by decide +kernel, by decide +kernel⟩, List.mem_of_getElem? (i := 941) (by decide +kernel), List.mem_of_getElem? (i := 1315) (by decide +kernel), List.mem_of_getElem? (i := 1316) (by decide +kernel)⟩
theorem lw_p56 : lw_okq (⟨"GateMakerModel", "weightOf", "(I)I"⟩, 41) := ⟨⟨by decide +kernel, by decide +kernel⟩, List.mem_of_getElem? (i := 941) (by decide +kernel), List.mem_of_getElem? (i := 1326) (by decide +kernel), List.mem_of_getElem? (i := 1327) (by decide +kernel)⟩
theorem lw_p57 : lw_okq (⟨"GateMakerModel", "hasPlaces", "(III)Z"⟩, 41) := ⟨⟨by decide +kernel, by decide +kernel⟩, List.mem_of_getElem? (i := 941) (by decide +kernel), List.mem_of_getElem? (i := 1342) (by decide +kernel), List.mem_of_getElem? (i := 1343) (by decide +kernel)⟩
theorem lw_p58 : lw_okq (⟨"GateMakerModel", "denied", "(I)I"⟩, 41) := ⟨⟨by decide +kernel, by decide +kernel⟩, List.mem_of_getElem? (i := 941) (by decide +kernel), List.mem_of_getElem? (i := 1350) (by decide +kernel), List.mem_of_getElem? (i := 1351) (by decide +kernel)⟩
def lw_privs_4 : List (MethodName × Nat) := [(⟨"GateMakerModel", "freeTicks", "()I"⟩, 41), (⟨"GateMakerModel", "filled", "(I)I"⟩, 41), (⟨"GateMakerModel", "source", "(II)I"⟩, 41), (⟨"GateMakerModel", "begin", "(I)I"⟩, 41), (⟨"GateMakerModel", "why", "(I)I"⟩, 41), (⟨"GateMakerModel", "numberAt", "(II)J"⟩, 41), (⟨"GateMakerModel", "given", "(I)J"⟩, 41), (⟨"GateMakerModel", "operandsOf", "(I)I"⟩, 41), (⟨"GateMakerModel", "weightOf", "(I)I"⟩, 41), (⟨"GateMakerModel", "hasPlaces", "(III)Z"⟩, 41), (⟨"GateMakerModel", "denied", "(I)I"⟩, 41)]
theorem lw_r4 : ∀ q ∈ lw_privs_4, lw_okq q := List.forall_mem_cons.mpr ⟨lw_p48, List.forall_mem_cons.mpr ⟨lw_p49, List.forall_mem_cons.mpr ⟨lw_p50, List.forall_mem_cons.mpr ⟨lw_p51, List.forall_mem_cons.mpr ⟨lw_p52, List.forall_mem_cons.mpr ⟨lw_p53, List.forall_mem_cons.mpr ⟨lw_p54, List.forall_mem_cons.mpr ⟨lw_p55, List.forall_mem_cons.mpr ⟨lw_p56, List.forall_mem_cons.mpr ⟨lw_p57, List.forall_mem_cons.mpr ⟨lw_p58, fun _ h => absurd h List.not_mem_nil⟩⟩⟩⟩⟩⟩⟩⟩⟩⟩⟩
def lw_privs : List (MethodName × Nat) := lw_privs_1 ++ (lw_privs_2 ++ (lw_privs_3 ++ (lw_privs_4)))
def lw_tbl : List Cond := k2_sels lw_privs ++ tables_1
theorem lw_privs_ok : ∀ q ∈ lw_privs, lw_okq q := by
  show ∀ q ∈ lw_privs_1 ++ (lw_privs_2 ++ (lw_privs_3 ++ (lw_privs_4))), lw_okq q
  exact List.forall_mem_append.mpr ⟨lw_r1, List.forall_mem_append.mpr ⟨lw_r2, List.forall_mem_append.mpr ⟨lw_r3, lw_r4⟩⟩⟩
/-- the words of the tables that last -/
def TB : List Cond := lw_tbl.filter goodWord
theorem TB_of {w : Cond} (h : w ∈ lw_tbl) (hg : goodWord w = true) : w ∈ TB := List.mem_filter.mpr ⟨h, hg⟩
theorem TB_good {w : Cond} (h : w ∈ TB) : goodWord w = true := (List.mem_filter.mp h).2
theorem TB_in {w : Cond} (h : w ∈ TB) : w ∈ lw_tbl := (List.mem_filter.mp h).1
/-- the words of a method: its own code, and the tables -/
def wT (y : MethodName) (cc : ByteArray) (n : Nat) (r : Option FieldType) : List Cond := .code y cc n r :: TB
theorem wT_good {y y' : MethodName} {cc cc' : ByteArray} {n n' : Nat} {r r' : Option FieldType} (h : Cond.code y' cc' n' r' ∈ TB) : GoodIn (wT y cc n r) (wT y' cc' n' r') := by
  intro w hw
  rcases List.mem_cons.mp hw with e | hw
  · subst e
    exact ⟨List.mem_cons_of_mem _ h, good_of_word (TB_good h)⟩
  · exact ⟨List.mem_cons_of_mem _ hw, good_of_word (TB_good hw)⟩
end
section
def RX0 : String := "GateMaker$Act"
def TX0 : u_T := fun k => match k with
  | 0 => ("GateMaker$Act", "op", "I", true)
  | 1 => ("GateMaker$Act", "width", "I", true)
  | 2 => ("GateMaker$Act", "port", "I", true)
  | 3 => ("GateMaker$Act", "x", "I", true)
  | 4 => ("GateMaker$Act", "y", "I", true)
  | 5 => ("GateMaker$Act", "z", "I", true)
  | _ => ("GateMaker$Act", "span", "LGateMaker$Span;", true)
def tyX0 : Nat → FieldType := fun k => match k with
  | 0 => .int
  | 1 => .int
  | 2 => .int
  | 3 => .int
  | 4 => .int
  | 5 => .int
  | _ => .object "GateMaker$Span"
theorem nmX0 : ∀ a, a < 7 → ∀ b, b < 7 → a ≠ b → (TX0 a).2.1 ≠ (TX0 b).2.1 := by decide +kernel
theorem tyX0_ok : ∀ k, k < 7 → parseFieldDescriptor (TX0 k).2.2.1 = some (tyX0 k) := by decide +kernel
abbrev cX0_init : ByteArray := prog_2_method_1_code
def yX0_init : MethodName := ⟨RX0, "<init>", "(IIIIIILGateMaker$Span;)V"⟩
abbrev cX0_kind : ByteArray := prog_2_method_2_code
def yX0_kind : MethodName := ⟨RX0, "kind", "()I"⟩
abbrev cX0_operands : ByteArray := prog_2_method_3_code
def yX0_operands : MethodName := ⟨RX0, "operands", "()I"⟩
abbrev cX0_takes : ByteArray := prog_2_method_4_code
def yX0_takes : MethodName := ⟨RX0, "takes", "(I)Z"⟩
abbrev cX0_canFail : ByteArray := prog_2_method_5_code
def yX0_canFail : MethodName := ⟨RX0, "canFail", "()Z"⟩
abbrev cX0_changesOutside : ByteArray := prog_2_method_6_code
def yX0_changesOutside : MethodName := ⟨RX0, "changesOutside", "()Z"⟩
abbrev cX0_failure : ByteArray := prog_2_method_7_code
def yX0_failure : MethodName := ⟨RX0, "failure", "()I"⟩
abbrev cX0_fail : ByteArray := prog_2_method_8_code
def yX0_fail : MethodName := ⟨RX0, "fail", "()V"⟩
abbrev cX0_heft : ByteArray := prog_2_method_9_code
def yX0_heft : MethodName := ⟨RX0, "heft", "()I"⟩
def RX1 : String := "GateMaker$Block"
def TX1 : u_T := fun k => match k with
  | 0 => ("GateMaker$Block", "acts", "[LGateMaker$Act;", true)
  | _ => ("GateMaker$Block", "filled", "I", false)
def tyX1 : Nat → FieldType := fun k => match k with
  | 0 => .array (.object "GateMaker$Act")
  | _ => .int
theorem nmX1 : ∀ a, a < 2 → ∀ b, b < 2 → a ≠ b → (TX1 a).2.1 ≠ (TX1 b).2.1 := by decide +kernel
theorem tyX1_ok : ∀ k, k < 2 → parseFieldDescriptor (TX1 k).2.2.1 = some (tyX1 k) := by decide +kernel
abbrev cX1_init : ByteArray := prog_3_method_1_code
def yX1_init : MethodName := ⟨RX1, "<init>", "()V"⟩
abbrev cX1_size : ByteArray := prog_3_method_2_code
def yX1_size : MethodName := ⟨RX1, "size", "()I"⟩
abbrev cX1_isFull : ByteArray := prog_3_method_3_code
def yX1_isFull : MethodName := ⟨RX1, "isFull", "()Z"⟩
abbrev cX1_has : ByteArray := prog_3_method_4_code
def yX1_has : MethodName := ⟨RX1, "has", "(I)Z"⟩
abbrev cX1_get : ByteArray := prog_3_method_5_code
def yX1_get : MethodName := ⟨RX1, "get", "(I)LGateMaker$Act;"⟩
abbrev cX1_add : ByteArray := prog_3_method_6_code
def yX1_add : MethodName := ⟨RX1, "add", "(LGateMaker$Act;)V"⟩
abbrev cX1_removeLast : ByteArray := prog_3_method_7_code
def yX1_removeLast : MethodName := ⟨RX1, "removeLast", "()V"⟩
abbrev cX1_operands : ByteArray := prog_3_method_8_code
def yX1_operands : MethodName := ⟨RX1, "operands", "()I"⟩
def RX2 : String := "GateMaker$Held"
def TX2 : u_T := fun k => match k with
  | _ => ("", "", "", false)
def tyX2 : Nat → FieldType := fun k => match k with
  | _ => .int
theorem nmX2 : ∀ a, a < 0 → ∀ b, b < 0 → a ≠ b → (TX2 a).2.1 ≠ (TX2 b).2.1 := by decide +kernel
theorem tyX2_ok : ∀ k, k < 0 → parseFieldDescriptor (TX2 k).2.2.1 = some (tyX2 k) := by decide +kernel
abbrev cX2_init : ByteArray := prog_4_method_1_code
def yX2_init : MethodName := ⟨RX2, "<init>", "()V"⟩
def RX3 : String := "GateMaker$Machine"
def TX3 : u_T := fun k => match k with
  | 0 => ("GateMaker$Machine", "block", "LGateMaker$Block;", true)
  | 1 => ("GateMaker$Machine", "fed", "[LGateMaker$Tape;", true)
  | 2 => ("GateMaker$Machine", "put", "[LGateMaker$Tape;", true)
  | 3 => ("GateMaker$Machine", "toldRow", "[J", true)
  | 4 => ("GateMaker$Machine", "row", "[J", true)
  | 5 => ("GateMaker$Machine", "taken", "[I", true)
  | 6 => ("GateMaker$Machine", "plainOrder", "[I", true)
  | 7 => ("GateMaker$Machine", "numbers", "[J", true)
  | 8 => ("GateMaker$Machine", "failure", "I", false)
  | 9 => ("GateMaker$Machine", "failedAct", "I", false)
  | 10 => ("GateMaker$Machine", "begun", "I", false)
  | _ => ("GateMaker$Machine", "endTick", "I", false)
def tyX3 : Nat → FieldType := fun k => match k with
  | 0 => .object "GateMaker$Block"
  | 1 => .array (.object "GateMaker$Tape")
  | 2 => .array (.object "GateMaker$Tape")
  | 3 => .array .long
  | 4 => .array .long
  | 5 => .array .int
  | 6 => .array .int
  | 7 => .array .long
  | 8 => .int
  | 9 => .int
  | 10 => .int
  | _ => .int
theorem nmX3 : ∀ a, a < 12 → ∀ b, b < 12 → a ≠ b → (TX3 a).2.1 ≠ (TX3 b).2.1 := by decide +kernel
theorem tyX3_ok : ∀ k, k < 12 → parseFieldDescriptor (TX3 k).2.2.1 = some (tyX3 k) := by decide +kernel
abbrev cX3_init : ByteArray := prog_5_method_1_code
def yX3_init : MethodName := ⟨RX3, "<init>", "(LGateMaker$Block;)V"⟩
abbrev cX3_runPlain : ByteArray := prog_5_method_2_code
def yX3_runPlain : MethodName := ⟨RX3, "runPlain", "()V"⟩
abbrev cX3_runLaid : ByteArray := prog_5_method_3_code
def yX3_runLaid : MethodName := ⟨RX3, "runLaid", "(LGateMaker$Plan;)V"⟩
abbrev cX3_runInOrder : ByteArray := prog_5_method_4_code
def yX3_runInOrder : MethodName := ⟨RX3, "runInOrder", "([I)V"⟩
abbrev cX3_reset : ByteArray := prog_5_method_5_code
def yX3_reset : MethodName := ⟨RX3, "reset", "()V"⟩
abbrev cX3_begin : ByteArray := prog_5_method_6_code
def yX3_begin : MethodName := ⟨RX3, "begin", "(I)V"⟩
abbrev cX3_failsNow : ByteArray := prog_5_method_7_code
def yX3_failsNow : MethodName := ⟨RX3, "failsNow", "(LGateMaker$Act;)Z"⟩
abbrev cX3_result : ByteArray := prog_5_method_8_code
def yX3_result : MethodName := ⟨RX3, "result", "(LGateMaker$Act;)J"⟩
abbrev cX3_passOutside : ByteArray := prog_5_method_9_code
def yX3_passOutside : MethodName := ⟨RX3, "passOutside", "(LGateMaker$Act;J)V"⟩
abbrev cX3_store : ByteArray := prog_5_method_10_code
def yX3_store : MethodName := ⟨RX3, "store", "(JJ)V"⟩
def RX4 : String := "GateMaker$Needs"
def TX4 : u_T := fun k => match k with
  | 0 => ("GateMaker$Needs", "block", "LGateMaker$Block;", true)
  | 1 => ("GateMaker$Needs", "stock", "LGateMaker$Stock;", true)
  | _ => ("GateMaker$Needs", "ticksWithParts", "[I", true)
def tyX4 : Nat → FieldType := fun k => match k with
  | 0 => .object "GateMaker$Block"
  | 1 => .object "GateMaker$Stock"
  | _ => .array .int
theorem nmX4 : ∀ a, a < 3 → ∀ b, b < 3 → a ≠ b → (TX4 a).2.1 ≠ (TX4 b).2.1 := by decide +kernel
theorem tyX4_ok : ∀ k, k < 3 → parseFieldDescriptor (TX4 k).2.2.1 = some (tyX4 k) := by decide +kernel
abbrev cX4_init : ByteArray := prog_6_method_1_code
def yX4_init : MethodName := ⟨RX4, "<init>", "(LGateMaker$Block;LGateMaker$Stock;)V"⟩
abbrev cX4_between : ByteArray := prog_6_method_2_code
def yX4_between : MethodName := ⟨RX4, "between", "(II)I"⟩
abbrev cX4_meetInRow : ByteArray := prog_6_method_3_code
def yX4_meetInRow : MethodName := ⟨RX4, "meetInRow", "(LGateMaker$Act;LGateMaker$Act;)Z"⟩
abbrev cX4_meetAtPort : ByteArray := prog_6_method_4_code
def yX4_meetAtPort : MethodName := ⟨RX4, "meetAtPort", "(LGateMaker$Act;LGateMaker$Act;)Z"⟩
abbrev cX4_readyTick : ByteArray := prog_6_method_5_code
def yX4_readyTick : MethodName := ⟨RX4, "readyTick", "(I[I)I"⟩
abbrev cX4_tightest : ByteArray := prog_6_method_6_code
def yX4_tightest : MethodName := ⟨RX4, "tightest", "(I[I)I"⟩
abbrev cX4_ticksWithAllParts : ByteArray := prog_6_method_7_code
def yX4_ticksWithAllParts : MethodName := ⟨RX4, "ticksWithAllParts", "()I"⟩
def RX5 : String := "GateMaker$Plan"
def TX5 : u_T := fun k => match k with
  | 0 => ("GateMaker$Plan", "block", "LGateMaker$Block;", true)
  | 1 => ("GateMaker$Plan", "stock", "LGateMaker$Stock;", true)
  | 2 => ("GateMaker$Plan", "needs", "LGateMaker$Needs;", true)
  | 3 => ("GateMaker$Plan", "ticks", "[I", true)
  | 4 => ("GateMaker$Plan", "partOf", "[I", true)
  | 5 => ("GateMaker$Plan", "order", "[I", true)
  | _ => ("GateMaker$Plan", "allTicks", "I", false)
def tyX5 : Nat → FieldType := fun k => match k with
  | 0 => .object "GateMaker$Block"
  | 1 => .object "GateMaker$Stock"
  | 2 => .object "GateMaker$Needs"
  | 3 => .array .int
  | 4 => .array .int
  | 5 => .array .int
  | _ => .int
theorem nmX5 : ∀ a, a < 7 → ∀ b, b < 7 → a ≠ b → (TX5 a).2.1 ≠ (TX5 b).2.1 := by decide +kernel
theorem tyX5_ok : ∀ k, k < 7 → parseFieldDescriptor (TX5 k).2.2.1 = some (tyX5 k) := by decide +kernel
abbrev cX5_init : ByteArray := prog_7_method_1_code
def yX5_init : MethodName := ⟨RX5, "<init>", "(LGateMaker$Block;LGateMaker$Stock;LGateMaker$Needs;)V"⟩
abbrev cX5_layActs : ByteArray := prog_7_method_2_code
def yX5_layActs : MethodName := ⟨RX5, "layActs", "()V"⟩
abbrev cX5_seat : ByteArray := prog_7_method_3_code
def yX5_seat : MethodName := ⟨RX5, "seat", "(II)V"⟩
abbrev cX5_freePart : ByteArray := prog_7_method_4_code
def yX5_freePart : MethodName := ⟨RX5, "freePart", "(III)I"⟩
abbrev cX5_isFree : ByteArray := prog_7_method_5_code
def yX5_isFree : MethodName := ⟨RX5, "isFree", "(IIII)Z"⟩
abbrev cX5_putInOrder : ByteArray := prog_7_method_6_code
def yX5_putInOrder : MethodName := ⟨RX5, "putInOrder", "(I)V"⟩
abbrev cX5_beginner : ByteArray := prog_7_method_7_code
def yX5_beginner : MethodName := ⟨RX5, "beginner", "(II)I"⟩
def RX6 : String := "GateMaker$Registers"
def TX6 : u_T := fun k => match k with
  | 0 => ("GateMaker$Registers", "block", "LGateMaker$Block;", true)
  | 1 => ("GateMaker$Registers", "stock", "LGateMaker$Stock;", true)
  | 2 => ("GateMaker$Registers", "plan", "LGateMaker$Plan;", true)
  | 3 => ("GateMaker$Registers", "firstTick", "[I", true)
  | 4 => ("GateMaker$Registers", "lastTick", "[I", true)
  | 5 => ("GateMaker$Registers", "registerOf", "[I", true)
  | _ => ("GateMaker$Registers", "total", "I", false)
def tyX6 : Nat → FieldType := fun k => match k with
  | 0 => .object "GateMaker$Block"
  | 1 => .object "GateMaker$Stock"
  | 2 => .object "GateMaker$Plan"
  | 3 => .array .int
  | 4 => .array .int
  | 5 => .array .int
  | _ => .int
theorem nmX6 : ∀ a, a < 7 → ∀ b, b < 7 → a ≠ b → (TX6 a).2.1 ≠ (TX6 b).2.1 := by decide +kernel
theorem tyX6_ok : ∀ k, k < 7 → parseFieldDescriptor (TX6 k).2.2.1 = some (tyX6 k) := by decide +kernel
abbrev cX6_init : ByteArray := prog_8_method_1_code
def yX6_init : MethodName := ⟨RX6, "<init>", "(LGateMaker$Block;LGateMaker$Stock;LGateMaker$Plan;)V"⟩
abbrev cX6_assign : ByteArray := prog_8_method_2_code
def yX6_assign : MethodName := ⟨RX6, "assign", "()V"⟩
abbrev cX6_findLife : ByteArray := prog_8_method_3_code
def yX6_findLife : MethodName := ⟨RX6, "findLife", "(I)V"⟩
abbrev cX6_nextWithout : ByteArray := prog_8_method_4_code
def yX6_nextWithout : MethodName := ⟨RX6, "nextWithout", "()I"⟩
abbrev cX6_leastFree : ByteArray := prog_8_method_5_code
def yX6_leastFree : MethodName := ⟨RX6, "leastFree", "(I)I"⟩
abbrev cX6_isTaken : ByteArray := prog_8_method_6_code
def yX6_isTaken : MethodName := ⟨RX6, "isTaken", "(II)Z"⟩
abbrev cX6_sourcesOf : ByteArray := prog_8_method_7_code
def yX6_sourcesOf : MethodName := ⟨RX6, "sourcesOf", "(IIZ)I"⟩
abbrev cX6_sourceOf : ByteArray := prog_8_method_8_code
def yX6_sourceOf : MethodName := ⟨RX6, "sourceOf", "(I)I"⟩
def RX7 : String := "GateMaker$Row"
def TX7 : u_T := fun k => match k with
  | 0 => ("GateMaker$Row", "what", "I", true)
  | _ => ("GateMaker$Row", "cells", "[J", true)
def tyX7 : Nat → FieldType := fun k => match k with
  | 0 => .int
  | _ => .array .long
theorem nmX7 : ∀ a, a < 2 → ∀ b, b < 2 → a ≠ b → (TX7 a).2.1 ≠ (TX7 b).2.1 := by decide +kernel
theorem tyX7_ok : ∀ k, k < 2 → parseFieldDescriptor (TX7 k).2.2.1 = some (tyX7 k) := by decide +kernel
abbrev cX7_init : ByteArray := prog_9_method_1_code
def yX7_init : MethodName := ⟨RX7, "<init>", "(I[J)V"⟩
abbrev cX7_reaches : ByteArray := prog_9_method_2_code
def yX7_reaches : MethodName := ⟨RX7, "reaches", "(II)Z"⟩
def RX8 : String := "GateMaker$Span"
def TX8 : u_T := fun k => match k with
  | 0 => ("GateMaker$Span", "least", "J", true)
  | _ => ("GateMaker$Span", "greatest", "J", true)
def tyX8 : Nat → FieldType := fun k => match k with
  | 0 => .long
  | _ => .long
theorem nmX8 : ∀ a, a < 2 → ∀ b, b < 2 → a ≠ b → (TX8 a).2.1 ≠ (TX8 b).2.1 := by decide +kernel
theorem tyX8_ok : ∀ k, k < 2 → parseFieldDescriptor (TX8 k).2.2.1 = some (tyX8 k) := by decide +kernel
abbrev cX8_init : ByteArray := prog_10_method_1_code
def yX8_init : MethodName := ⟨RX8, "<init>", "(JJ)V"⟩
abbrev cX8_wide : ByteArray := prog_10_method_2_code
def yX8_wide : MethodName := ⟨RX8, "wide", "(I)LGateMaker$Span;"⟩
abbrev cX8_fits : ByteArray := prog_10_method_3_code
def yX8_fits : MethodName := ⟨RX8, "fits", "(I)Z"⟩
abbrev cX8_fitted : ByteArray := prog_10_method_4_code
def yX8_fitted : MethodName := ⟨RX8, "fitted", "(I)LGateMaker$Span;"⟩
abbrev cX8_bits : ByteArray := prog_10_method_5_code
def yX8_bits : MethodName := ⟨RX8, "bits", "()I"⟩
abbrev cX8_meets : ByteArray := prog_10_method_6_code
def yX8_meets : MethodName := ⟨RX8, "meets", "(LGateMaker$Span;)Z"⟩
abbrev cX8_reckoned : ByteArray := prog_10_method_7_code
def yX8_reckoned : MethodName := ⟨RX8, "reckoned", "(ILGateMaker$Span;)LGateMaker$Span;"⟩
abbrev cX8_picked : ByteArray := prog_10_method_8_code
def yX8_picked : MethodName := ⟨RX8, "picked", "(LGateMaker$Span;LGateMaker$Span;)LGateMaker$Span;"⟩
abbrev cX8_product : ByteArray := prog_10_method_9_code
def yX8_product : MethodName := ⟨RX8, "product", "(LGateMaker$Span;)LGateMaker$Span;"⟩
abbrev cX8_quotient : ByteArray := prog_10_method_10_code
def yX8_quotient : MethodName := ⟨RX8, "quotient", "()LGateMaker$Span;"⟩
abbrev cX8_comparison : ByteArray := prog_10_method_11_code
def yX8_comparison : MethodName := ⟨RX8, "comparison", "(LGateMaker$Span;)LGateMaker$Span;"⟩
def RX9 : String := "GateMaker$Stock"
def TX9 : u_T := fun k => match k with
  | 0 => ("GateMaker$Stock", "numbers", "[I", true)
  | 1 => ("GateMaker$Stock", "lengths", "[I", true)
  | _ => ("GateMaker$Stock", "piped", "[Z", true)
def tyX9 : Nat → FieldType := fun k => match k with
  | 0 => .array .int
  | 1 => .array .int
  | _ => .array .boolean
theorem nmX9 : ∀ a, a < 3 → ∀ b, b < 3 → a ≠ b → (TX9 a).2.1 ≠ (TX9 b).2.1 := by decide +kernel
theorem tyX9_ok : ∀ k, k < 3 → parseFieldDescriptor (TX9 k).2.2.1 = some (tyX9 k) := by decide +kernel
abbrev cX9_init : ByteArray := prog_11_method_1_code
def yX9_init : MethodName := ⟨RX9, "<init>", "()V"⟩
abbrev cX9_lengthOf : ByteArray := prog_11_method_2_code
def yX9_lengthOf : MethodName := ⟨RX9, "lengthOf", "(LGateMaker$Act;)I"⟩
abbrev cX9_filledTicks : ByteArray := prog_11_method_3_code
def yX9_filledTicks : MethodName := ⟨RX9, "filledTicks", "(I)I"⟩
abbrev cX9_leastTicks : ByteArray := prog_11_method_4_code
def yX9_leastTicks : MethodName := ⟨RX9, "leastTicks", "(ILGateMaker$Block;)I"⟩
def RX10 : String := "GateMaker$Tape"
def TX10 : u_T := fun k => match k with
  | 0 => ("GateMaker$Tape", "numbers", "[J", true)
  | _ => ("GateMaker$Tape", "filled", "I", false)
def tyX10 : Nat → FieldType := fun k => match k with
  | 0 => .array .long
  | _ => .int
theorem nmX10 : ∀ a, a < 2 → ∀ b, b < 2 → a ≠ b → (TX10 a).2.1 ≠ (TX10 b).2.1 := by decide +kernel
theorem tyX10_ok : ∀ k, k < 2 → parseFieldDescriptor (TX10 k).2.2.1 = some (tyX10 k) := by decide +kernel
abbrev cX10_init : ByteArray := prog_12_method_1_code
def yX10_init : MethodName := ⟨RX10, "<init>", "(I)V"⟩
abbrev cX10_size : ByteArray := prog_12_method_2_code
def yX10_size : MethodName := ⟨RX10, "size", "()I"⟩
abbrev cX10_isFull : ByteArray := prog_12_method_3_code
def yX10_isFull : MethodName := ⟨RX10, "isFull", "()Z"⟩
abbrev cX10_get : ByteArray := prog_12_method_4_code
def yX10_get : MethodName := ⟨RX10, "get", "(I)J"⟩
abbrev cX10_append : ByteArray := prog_12_method_5_code
def yX10_append : MethodName := ⟨RX10, "append", "(J)V"⟩
abbrev cX10_clear : ByteArray := prog_12_method_6_code
def yX10_clear : MethodName := ⟨RX10, "clear", "()V"⟩
def RX11 : String := "GateMaker"
def TX11 : u_T := fun k => match k with
  | 0 => ("GateMaker", "block", "LGateMaker$Block;", true)
  | 1 => ("GateMaker", "stock", "LGateMaker$Stock;", true)
  | 2 => ("GateMaker", "needs", "LGateMaker$Needs;", true)
  | 3 => ("GateMaker", "plan", "LGateMaker$Plan;", true)
  | 4 => ("GateMaker", "registers", "LGateMaker$Registers;", true)
  | 5 => ("GateMaker", "machine", "LGateMaker$Machine;", true)
  | 6 => ("GateMaker", "shelves", "[LGateMaker$Held;", true)
  | 7 => ("GateMaker", "laid", "Z", false)
  | _ => ("GateMaker", "ran", "Z", false)
def tyX11 : Nat → FieldType := fun k => match k with
  | 0 => .object "GateMaker$Block"
  | 1 => .object "GateMaker$Stock"
  | 2 => .object "GateMaker$Needs"
  | 3 => .object "GateMaker$Plan"
  | 4 => .object "GateMaker$Registers"
  | 5 => .object "GateMaker$Machine"
  | 6 => .array (.object "GateMaker$Held")
  | 7 => .boolean
  | _ => .boolean
theorem nmX11 : ∀ a, a < 9 → ∀ b, b < 9 → a ≠ b → (TX11 a).2.1 ≠ (TX11 b).2.1 := by decide +kernel
theorem tyX11_ok : ∀ k, k < 9 → parseFieldDescriptor (TX11 k).2.2.1 = some (tyX11 k) := by decide +kernel
abbrev cX11_init : ByteArray := prog_1_method_1_code
def yX11_init : MethodName := ⟨RX11, "<init>", "()V"⟩
abbrev cX11_constant : ByteArray := prog_1_method_2_code
def yX11_constant : MethodName := ⟨RX11, "constant", "(JI)I"⟩
abbrev cX11_port : ByteArray := prog_1_method_3_code
def yX11_port : MethodName := ⟨RX11, "port", "(III)I"⟩
abbrev cX11_reckon : ByteArray := prog_1_method_4_code
def yX11_reckon : MethodName := ⟨RX11, "reckon", "(IIII)I"⟩
abbrev cX11_pick : ByteArray := prog_1_method_5_code
def yX11_pick : MethodName := ⟨RX11, "pick", "(IIII)I"⟩
abbrev cX11_touch : ByteArray := prog_1_method_6_code
def yX11_touch : MethodName := ⟨RX11, "touch", "(III)I"⟩
abbrev cX11_drop : ByteArray := prog_1_method_7_code
def yX11_drop : MethodName := ⟨RX11, "drop", "()I"⟩
abbrev cX11_parts : ByteArray := prog_1_method_8_code
def yX11_parts : MethodName := ⟨RX11, "parts", "(II)I"⟩
abbrev cX11_length : ByteArray := prog_1_method_9_code
def yX11_length : MethodName := ⟨RX11, "length", "(IIZ)I"⟩
abbrev cX11_feed : ByteArray := prog_1_method_10_code
def yX11_feed : MethodName := ⟨RX11, "feed", "(IJ)I"⟩
abbrev cX11_place : ByteArray := prog_1_method_11_code
def yX11_place : MethodName := ⟨RX11, "place", "(IJ)I"⟩
abbrev cX11_act : ByteArray := prog_1_method_12_code
def yX11_act : MethodName := ⟨RX11, "act", "(II)I"⟩
abbrev cX11_span : ByteArray := prog_1_method_13_code
def yX11_span : MethodName := ⟨RX11, "span", "(IZ)J"⟩
abbrev cX11_needs : ByteArray := prog_1_method_14_code
def yX11_needs : MethodName := ⟨RX11, "needs", "(II)I"⟩
abbrev cX11_lay : ByteArray := prog_1_method_15_code
def yX11_lay : MethodName := ⟨RX11, "lay", "()I"⟩
abbrev cX11_tick : ByteArray := prog_1_method_16_code
def yX11_tick : MethodName := ⟨RX11, "tick", "(II)I"⟩
abbrev cX11_bound : ByteArray := prog_1_method_17_code
def yX11_bound : MethodName := ⟨RX11, "bound", "(I)I"⟩
abbrev cX11_registers : ByteArray := prog_1_method_18_code
def yX11_registers : MethodName := ⟨RX11, "registers", "()I"⟩
abbrev cX11_chooser : ByteArray := prog_1_method_19_code
def yX11_chooser : MethodName := ⟨RX11, "chooser", "(IIZ)I"⟩
abbrev cX11_at : ByteArray := prog_1_method_20_code
def yX11_at : MethodName := ⟨RX11, "at", "(II)I"⟩
abbrev cX11_run : ByteArray := prog_1_method_21_code
def yX11_run : MethodName := ⟨RX11, "run", "(Z)I"⟩
abbrev cX11_told : ByteArray := prog_1_method_22_code
def yX11_told : MethodName := ⟨RX11, "told", "(I)I"⟩
abbrev cX11_out : ByteArray := prog_1_method_23_code
def yX11_out : MethodName := ⟨RX11, "out", "(II)J"⟩
abbrev cX11_outs : ByteArray := prog_1_method_24_code
def yX11_outs : MethodName := ⟨RX11, "outs", "(I)I"⟩
abbrev cX11_row : ByteArray := prog_1_method_25_code
def yX11_row : MethodName := ⟨RX11, "row", "(I)J"⟩
abbrev cX11_count : ByteArray := prog_1_method_26_code
def yX11_count : MethodName := ⟨RX11, "count", "(I)I"⟩
abbrev cX11_keep : ByteArray := prog_1_method_27_code
def yX11_keep : MethodName := ⟨RX11, "keep", "(III)I"⟩
abbrev cX11_make : ByteArray := prog_1_method_28_code
def yX11_make : MethodName := ⟨RX11, "make", "(III)I"⟩
abbrev cX11_element : ByteArray := prog_1_method_29_code
def yX11_element : MethodName := ⟨RX11, "element", "(II)J"⟩
abbrev cX11_copy : ByteArray := prog_1_method_30_code
def yX11_copy : MethodName := ⟨RX11, "copy", "(IIIII)I"⟩
abbrev cX11_weight : ByteArray := prog_1_method_31_code
def yX11_weight : MethodName := ⟨RX11, "weight", "(I)I"⟩
abbrev cX11_toss : ByteArray := prog_1_method_32_code
def yX11_toss : MethodName := ⟨RX11, "toss", "(I)I"⟩
abbrev cX11_append : ByteArray := prog_1_method_33_code
def yX11_append : MethodName := ⟨RX11, "append", "(LGateMaker$Act;)I"⟩
abbrev cX11_forget : ByteArray := prog_1_method_34_code
def yX11_forget : MethodName := ⟨RX11, "forget", "()V"⟩
abbrev cX11_keepAct : ByteArray := prog_1_method_35_code
def yX11_keepAct : MethodName := ⟨RX11, "keepAct", "(II)I"⟩
abbrev cX11_keepTicks : ByteArray := prog_1_method_36_code
def yX11_keepTicks : MethodName := ⟨RX11, "keepTicks", "(I)I"⟩
abbrev cX11_copyCells : ByteArray := prog_1_method_37_code
def yX11_copyCells : MethodName := ⟨RX11, "copyCells", "(LGateMaker$Row;ILGateMaker$Row;II)I"⟩
abbrev cX11_caughtFailure : ByteArray := prog_1_method_38_code
def yX11_caughtFailure : MethodName := ⟨RX11, "caughtFailure", "(LGateMaker$Act;)I"⟩
abbrev cX11_total : ByteArray := prog_1_method_39_code
def yX11_total : MethodName := ⟨RX11, "total", "([LGateMaker$Tape;)I"⟩
abbrev cX11_cut : ByteArray := prog_1_method_40_code
def yX11_cut : MethodName := ⟨RX11, "cut", "(JI)J"⟩
abbrev cX11_within : ByteArray := prog_1_method_41_code
def yX11_within : MethodName := ⟨RX11, "within", "(III)Z"⟩
abbrev cX11_isWidth : ByteArray := prog_1_method_42_code
def yX11_isWidth : MethodName := ⟨RX11, "isWidth", "(I)Z"⟩
abbrev cX11_isPort : ByteArray := prog_1_method_43_code
def yX11_isPort : MethodName := ⟨RX11, "isPort", "(I)Z"⟩
abbrev cX11_isKind : ByteArray := prog_1_method_44_code
def yX11_isKind : MethodName := ⟨RX11, "isKind", "(I)Z"⟩
abbrev cX11_isPlace : ByteArray := prog_1_method_45_code
def yX11_isPlace : MethodName := ⟨RX11, "isPlace", "(J)Z"⟩
abbrev cX11_isShelf : ByteArray := prog_1_method_46_code
def yX11_isShelf : MethodName := ⟨RX11, "isShelf", "(I)Z"⟩
def RX12 : String := "GateMakerModel"
def TX12 : u_T := fun k => match k with
  | 0 => ("GateMakerModel", "thrown", "I", false)
  | 1 => ("GateMakerModel", "acts", "I", false)
  | 2 => ("GateMakerModel", "op", "[I", true)
  | 3 => ("GateMakerModel", "width", "[I", true)
  | 4 => ("GateMakerModel", "operand", "[I", true)
  | 5 => ("GateMakerModel", "port", "[I", true)
  | 6 => ("GateMakerModel", "number", "[J", true)
  | 7 => ("GateMakerModel", "parts", "[I", true)
  | 8 => ("GateMakerModel", "length", "[I", true)
  | 9 => ("GateMakerModel", "piped", "[Z", true)
  | 10 => ("GateMakerModel", "fed", "[I", true)
  | 11 => ("GateMakerModel", "food", "[J", true)
  | 12 => ("GateMakerModel", "first", "[J", true)
  | 13 => ("GateMakerModel", "isLaid", "Z", false)
  | 14 => ("GateMakerModel", "tick", "[I", true)
  | 15 => ("GateMakerModel", "part", "[I", true)
  | 16 => ("GateMakerModel", "allTicks", "I", false)
  | 17 => ("GateMakerModel", "register", "[I", true)
  | 18 => ("GateMakerModel", "registers", "I", false)
  | 19 => ("GateMakerModel", "hasRun", "Z", false)
  | 20 => ("GateMakerModel", "failure", "I", false)
  | 21 => ("GateMakerModel", "failed", "I", false)
  | 22 => ("GateMakerModel", "begun", "I", false)
  | 23 => ("GateMakerModel", "ranLaid", "I", false)
  | 24 => ("GateMakerModel", "puts", "[I", true)
  | 25 => ("GateMakerModel", "put", "[J", true)
  | 26 => ("GateMakerModel", "row", "[J", true)
  | 27 => ("GateMakerModel", "least", "[J", true)
  | 28 => ("GateMakerModel", "most", "[J", true)
  | 29 => ("GateMakerModel", "low", "J", false)
  | 30 => ("GateMakerModel", "high", "J", false)
  | 31 => ("GateMakerModel", "asked", "[I", true)
  | 32 => ("GateMakerModel", "kept", "[I", true)
  | 33 => ("GateMakerModel", "value", "[J", true)
  | 34 => ("GateMakerModel", "taken", "[I", true)
  | 35 => ("GateMakerModel", "shelf", "[I", true)
  | 36 => ("GateMakerModel", "shelfSize", "[I", true)
  | 37 => ("GateMakerModel", "shelfWeight", "[I", true)
  | 38 => ("GateMakerModel", "shelfFailure", "[I", true)
  | 39 => ("GateMakerModel", "shelfRow", "[J", true)
  | _ => ("GateMakerModel", "between", "[J", true)
def tyX12 : Nat → FieldType := fun k => match k with
  | 0 => .int
  | 1 => .int
  | 2 => .array .int
  | 3 => .array .int
  | 4 => .array .int
  | 5 => .array .int
  | 6 => .array .long
  | 7 => .array .int
  | 8 => .array .int
  | 9 => .array .boolean
  | 10 => .array .int
  | 11 => .array .long
  | 12 => .array .long
  | 13 => .boolean
  | 14 => .array .int
  | 15 => .array .int
  | 16 => .int
  | 17 => .array .int
  | 18 => .int
  | 19 => .boolean
  | 20 => .int
  | 21 => .int
  | 22 => .int
  | 23 => .int
  | 24 => .array .int
  | 25 => .array .long
  | 26 => .array .long
  | 27 => .array .long
  | 28 => .array .long
  | 29 => .long
  | 30 => .long
  | 31 => .array .int
  | 32 => .array .int
  | 33 => .array .long
  | 34 => .array .int
  | 35 => .array .int
  | 36 => .array .int
  | 37 => .array .int
  | 38 => .array .int
  | 39 => .array .long
  | _ => .array .long
theorem nmX12 : ∀ a, a < 41 → ∀ b, b < 41 → a ≠ b → (TX12 a).2.1 ≠ (TX12 b).2.1 := by decide +kernel
theorem tyX12_ok : ∀ k, k < 41 → parseFieldDescriptor (TX12 k).2.2.1 = some (tyX12 k) := by decide +kernel
abbrev cX12_init : ByteArray := prog_14_method_1_code
def yX12_init : MethodName := ⟨RX12, "<init>", "()V"⟩
abbrev cX12_thrown : ByteArray := prog_14_method_2_code
def yX12_thrown : MethodName := ⟨RX12, "thrown", "()I"⟩
abbrev cX12_isIn : ByteArray := prog_14_method_3_code
def yX12_isIn : MethodName := ⟨RX12, "isIn", "(JJJ)Z"⟩
abbrev cX12_isAct : ByteArray := prog_14_method_4_code
def yX12_isAct : MethodName := ⟨RX12, "isAct", "(I)Z"⟩
abbrev cX12_cut : ByteArray := prog_14_method_5_code
def yX12_cut : MethodName := ⟨RX12, "cut", "(JI)J"⟩
abbrev cX12_changed : ByteArray := prog_14_method_6_code
def yX12_changed : MethodName := ⟨RX12, "changed", "()V"⟩
abbrev cX12_added : ByteArray := prog_14_method_7_code
def yX12_added : MethodName := ⟨RX12, "added", "(IIIII)I"⟩
abbrev cX12_constant : ByteArray := prog_14_method_8_code
def yX12_constant : MethodName := ⟨RX12, "constant", "(JI)I"⟩
abbrev cX12_port : ByteArray := prog_14_method_9_code
def yX12_port : MethodName := ⟨RX12, "port", "(III)I"⟩
abbrev cX12_reckon : ByteArray := prog_14_method_10_code
def yX12_reckon : MethodName := ⟨RX12, "reckon", "(IIII)I"⟩
abbrev cX12_pick : ByteArray := prog_14_method_11_code
def yX12_pick : MethodName := ⟨RX12, "pick", "(IIII)I"⟩
abbrev cX12_touch : ByteArray := prog_14_method_12_code
def yX12_touch : MethodName := ⟨RX12, "touch", "(III)I"⟩
abbrev cX12_drop : ByteArray := prog_14_method_13_code
def yX12_drop : MethodName := ⟨RX12, "drop", "()I"⟩
abbrev cX12_parts : ByteArray := prog_14_method_14_code
def yX12_parts : MethodName := ⟨RX12, "parts", "(II)I"⟩
abbrev cX12_length : ByteArray := prog_14_method_15_code
def yX12_length : MethodName := ⟨RX12, "length", "(IIZ)I"⟩
abbrev cX12_feed : ByteArray := prog_14_method_16_code
def yX12_feed : MethodName := ⟨RX12, "feed", "(IJ)I"⟩
abbrev cX12_place : ByteArray := prog_14_method_17_code
def yX12_place : MethodName := ⟨RX12, "place", "(IJ)I"⟩
abbrev cX12_kindOf : ByteArray := prog_14_method_18_code
def yX12_kindOf : MethodName := ⟨RX12, "kindOf", "(I)I"⟩
abbrev cX12_lengthOf : ByteArray := prog_14_method_19_code
def yX12_lengthOf : MethodName := ⟨RX12, "lengthOf", "(I)I"⟩
abbrev cX12_fills : ByteArray := prog_14_method_20_code
def yX12_fills : MethodName := ⟨RX12, "fills", "(I)I"⟩
abbrev cX12_lesser : ByteArray := prog_14_method_21_code
def yX12_lesser : MethodName := ⟨RX12, "lesser", "(JJ)J"⟩
abbrev cX12_greater : ByteArray := prog_14_method_22_code
def yX12_greater : MethodName := ⟨RX12, "greater", "(JJ)J"⟩
abbrev cX12_spanOf : ByteArray := prog_14_method_23_code
def yX12_spanOf : MethodName := ⟨RX12, "spanOf", "(IJ)V"⟩
abbrev cX12_findSpans : ByteArray := prog_14_method_24_code
def yX12_findSpans : MethodName := ⟨RX12, "findSpans", "()V"⟩
abbrev cX12_bitsOf : ByteArray := prog_14_method_25_code
def yX12_bitsOf : MethodName := ⟨RX12, "bitsOf", "(I)I"⟩
abbrev cX12_act : ByteArray := prog_14_method_26_code
def yX12_act : MethodName := ⟨RX12, "act", "(II)I"⟩
abbrev cX12_span : ByteArray := prog_14_method_27_code
def yX12_span : MethodName := ⟨RX12, "span", "(IZ)J"⟩
abbrev cX12_isOperand : ByteArray := prog_14_method_28_code
def yX12_isOperand : MethodName := ⟨RX12, "isOperand", "(II)Z"⟩
abbrev cX12_canFail : ByteArray := prog_14_method_29_code
def yX12_canFail : MethodName := ⟨RX12, "canFail", "(I)Z"⟩
abbrev cX12_meet : ByteArray := prog_14_method_30_code
def yX12_meet : MethodName := ⟨RX12, "meet", "(II)Z"⟩
abbrev cX12_need : ByteArray := prog_14_method_31_code
def yX12_need : MethodName := ⟨RX12, "need", "(II)I"⟩
abbrev cX12_needs : ByteArray := prog_14_method_32_code
def yX12_needs : MethodName := ⟨RX12, "needs", "(II)I"⟩
abbrev cX12_askedFor : ByteArray := prog_14_method_33_code
def yX12_askedFor : MethodName := ⟨RX12, "askedFor", "(I)I"⟩
abbrev cX12_isFree : ByteArray := prog_14_method_34_code
def yX12_isFree : MethodName := ⟨RX12, "isFree", "(III)Z"⟩
abbrev cX12_freePart : ByteArray := prog_14_method_35_code
def yX12_freePart : MethodName := ⟨RX12, "freePart", "(II)I"⟩
abbrev cX12_isUsed : ByteArray := prog_14_method_36_code
def yX12_isUsed : MethodName := ⟨RX12, "isUsed", "(I)Z"⟩
abbrev cX12_lifeEnd : ByteArray := prog_14_method_37_code
def yX12_lifeEnd : MethodName := ⟨RX12, "lifeEnd", "(I)I"⟩
abbrev cX12_lifeBegin : ByteArray := prog_14_method_38_code
def yX12_lifeBegin : MethodName := ⟨RX12, "lifeBegin", "(I)I"⟩
abbrev cX12_liveTogether : ByteArray := prog_14_method_39_code
def yX12_liveTogether : MethodName := ⟨RX12, "liveTogether", "(II)Z"⟩
abbrev cX12_freeRegister : ByteArray := prog_14_method_40_code
def yX12_freeRegister : MethodName := ⟨RX12, "freeRegister", "(I)I"⟩
abbrev cX12_findRegisters : ByteArray := prog_14_method_41_code
def yX12_findRegisters : MethodName := ⟨RX12, "findRegisters", "()V"⟩
abbrev cX12_lay : ByteArray := prog_14_method_42_code
def yX12_lay : MethodName := ⟨RX12, "lay", "()I"⟩
abbrev cX12_justBehind : ByteArray := prog_14_method_43_code
def yX12_justBehind : MethodName := ⟨RX12, "justBehind", "(I)I"⟩
abbrev cX12_tick : ByteArray := prog_14_method_44_code
def yX12_tick : MethodName := ⟨RX12, "tick", "(II)I"⟩
abbrev cX12_freeTicks : ByteArray := prog_14_method_45_code
def yX12_freeTicks : MethodName := ⟨RX12, "freeTicks", "()I"⟩
abbrev cX12_filled : ByteArray := prog_14_method_46_code
def yX12_filled : MethodName := ⟨RX12, "filled", "(I)I"⟩
abbrev cX12_bound : ByteArray := prog_14_method_47_code
def yX12_bound : MethodName := ⟨RX12, "bound", "(I)I"⟩
abbrev cX12_registers : ByteArray := prog_14_method_48_code
def yX12_registers : MethodName := ⟨RX12, "registers", "()I"⟩
abbrev cX12_source : ByteArray := prog_14_method_49_code
def yX12_source : MethodName := ⟨RX12, "source", "(II)I"⟩
abbrev cX12_chooser : ByteArray := prog_14_method_50_code
def yX12_chooser : MethodName := ⟨RX12, "chooser", "(IIZ)I"⟩
abbrev cX12_at : ByteArray := prog_14_method_51_code
def yX12_at : MethodName := ⟨RX12, "at", "(II)I"⟩
abbrev cX12_numberAt : ByteArray := prog_14_method_52_code
def yX12_numberAt : MethodName := ⟨RX12, "numberAt", "(II)J"⟩
abbrev cX12_why : ByteArray := prog_14_method_53_code
def yX12_why : MethodName := ⟨RX12, "why", "(I)I"⟩
abbrev cX12_given : ByteArray := prog_14_method_54_code
def yX12_given : MethodName := ⟨RX12, "given", "(I)J"⟩
abbrev cX12_begin : ByteArray := prog_14_method_55_code
def yX12_begin : MethodName := ⟨RX12, "begin", "(I)I"⟩
abbrev cX12_run : ByteArray := prog_14_method_56_code
def yX12_run : MethodName := ⟨RX12, "run", "(Z)I"⟩
abbrev cX12_told : ByteArray := prog_14_method_57_code
def yX12_told : MethodName := ⟨RX12, "told", "(I)I"⟩
abbrev cX12_out : ByteArray := prog_14_method_58_code
def yX12_out : MethodName := ⟨RX12, "out", "(II)J"⟩
abbrev cX12_outs : ByteArray := prog_14_method_59_code
def yX12_outs : MethodName := ⟨RX12, "outs", "(I)I"⟩
abbrev cX12_row : ByteArray := prog_14_method_60_code
def yX12_row : MethodName := ⟨RX12, "row", "(I)J"⟩
abbrev cX12_operandsOf : ByteArray := prog_14_method_61_code
def yX12_operandsOf : MethodName := ⟨RX12, "operandsOf", "(I)I"⟩
abbrev cX12_count : ByteArray := prog_14_method_62_code
def yX12_count : MethodName := ⟨RX12, "count", "(I)I"⟩
abbrev cX12_isShelf : ByteArray := prog_14_method_63_code
def yX12_isShelf : MethodName := ⟨RX12, "isShelf", "(I)Z"⟩
abbrev cX12_weightOf : ByteArray := prog_14_method_64_code
def yX12_weightOf : MethodName := ⟨RX12, "weightOf", "(I)I"⟩
abbrev cX12_keep : ByteArray := prog_14_method_65_code
def yX12_keep : MethodName := ⟨RX12, "keep", "(III)I"⟩
abbrev cX12_make : ByteArray := prog_14_method_66_code
def yX12_make : MethodName := ⟨RX12, "make", "(III)I"⟩
abbrev cX12_element : ByteArray := prog_14_method_67_code
def yX12_element : MethodName := ⟨RX12, "element", "(II)J"⟩
abbrev cX12_hasPlaces : ByteArray := prog_14_method_68_code
def yX12_hasPlaces : MethodName := ⟨RX12, "hasPlaces", "(III)Z"⟩
abbrev cX12_copy : ByteArray := prog_14_method_69_code
def yX12_copy : MethodName := ⟨RX12, "copy", "(IIIII)I"⟩
abbrev cX12_denied : ByteArray := prog_14_method_70_code
def yX12_denied : MethodName := ⟨RX12, "denied", "(I)I"⟩
abbrev cX12_weight : ByteArray := prog_14_method_71_code
def yX12_weight : MethodName := ⟨RX12, "weight", "(I)I"⟩
abbrev cX12_toss : ByteArray := prog_14_method_72_code
def yX12_toss : MethodName := ⟨RX12, "toss", "(I)I"⟩
def RJx8e188 : String := "java/lang/Cloneable"
def TJx8e188 : u_T := fun k => match k with
  | _ => ("", "", "", false)
def tyJx8e188 : Nat → FieldType := fun k => match k with
  | _ => .int
theorem nmJx8e188 : ∀ a, a < 0 → ∀ b, b < 0 → a ≠ b → (TJx8e188 a).2.1 ≠ (TJx8e188 b).2.1 := by decide +kernel
theorem tyJx8e188_ok : ∀ k, k < 0 → parseFieldDescriptor (TJx8e188 k).2.2.1 = some (tyJx8e188 k) := by decide +kernel
def RJ6 : String := "java/lang/Integer"
def TJ6 : u_T := fun k => match k with
  | _ => ("", "", "", false)
def tyJ6 : Nat → FieldType := fun k => match k with
  | _ => .int
theorem nmJ6 : ∀ a, a < 0 → ∀ b, b < 0 → a ≠ b → (TJ6 a).2.1 ≠ (TJ6 b).2.1 := by decide +kernel
theorem tyJ6_ok : ∀ k, k < 0 → parseFieldDescriptor (TJ6 k).2.2.1 = some (tyJ6 k) := by decide +kernel
abbrev cJ6_bitCount_0f7a4 : ByteArray := prog_19_method_49_code
def yJ6_bitCount_0f7a4 : MethodName := ⟨RJ6, "bitCount", "(I)I"⟩
def RJ9 : String := "java/lang/Math"
def TJ9 : u_T := fun k => match k with
  | _ => ("", "", "", false)
def tyJ9 : Nat → FieldType := fun k => match k with
  | _ => .int
theorem nmJ9 : ∀ a, a < 0 → ∀ b, b < 0 → a ≠ b → (TJ9 a).2.1 ≠ (TJ9 b).2.1 := by decide +kernel
theorem tyJ9_ok : ∀ k, k < 0 → parseFieldDescriptor (TJ9 k).2.2.1 = some (tyJ9 k) := by decide +kernel
abbrev cJ9_abs_067f4 : ByteArray := prog_20_method_61_code
def yJ9_abs_067f4 : MethodName := ⟨RJ9, "abs", "(J)J"⟩
abbrev cJ9_max_7cf53 : ByteArray := prog_20_method_65_code
def yJ9_max_7cf53 : MethodName := ⟨RJ9, "max", "(II)I"⟩
abbrev cJ9_max_f86c9 : ByteArray := prog_20_method_66_code
def yJ9_max_f86c9 : MethodName := ⟨RJ9, "max", "(JJ)J"⟩
abbrev cJ9_min_f86c9 : ByteArray := prog_20_method_70_code
def yJ9_min_f86c9 : MethodName := ⟨RJ9, "min", "(JJ)J"⟩
def RJ0 : String := "java/lang/String"
def TJ0 : u_T := fun k => match k with
  | _ => ("", "", "", false)
def tyJ0 : Nat → FieldType := fun k => match k with
  | _ => .int
theorem nmJ0 : ∀ a, a < 0 → ∀ b, b < 0 → a ≠ b → (TJ0 a).2.1 ≠ (TJ0 b).2.1 := by decide +kernel
theorem tyJ0_ok : ∀ k, k < 0 → parseFieldDescriptor (TJ0 k).2.2.1 = some (tyJ0 k) := by decide +kernel
def RJ10 : String := "java/lang/System"
def TJ10 : u_T := fun k => match k with
  | _ => ("", "", "", false)
def tyJ10 : Nat → FieldType := fun k => match k with
  | _ => .int
theorem nmJ10 : ∀ a, a < 0 → ∀ b, b < 0 → a ≠ b → (TJ10 a).2.1 ≠ (TJ10 b).2.1 := by decide +kernel
theorem tyJ10_ok : ∀ k, k < 0 → parseFieldDescriptor (TJ10 k).2.2.1 = some (tyJ10 k) := by decide +kernel
def RL : String := "GateMakerLaw"
abbrev cL_span : ByteArray := method_3_code
def yL_span : MethodName := ⟨RL, "span", "(LGateMaker;IZ[J)I"⟩
abbrev cL_out : ByteArray := method_4_code
def yL_out : MethodName := ⟨RL, "out", "(LGateMaker;II[J)I"⟩
abbrev cL_row : ByteArray := method_5_code
def yL_row : MethodName := ⟨RL, "row", "(LGateMaker;I[J)I"⟩
abbrev cL_element : ByteArray := method_6_code
def yL_element : MethodName := ⟨RL, "element", "(LGateMaker;II[J)I"⟩
abbrev cL_law : ByteArray := code
def yL_law : MethodName := ⟨RL, "law", "([I)Z"⟩
abbrev vwCl : List vw_C := [(RX0, TX0, 7), (RX1, TX1, 2), (RX3, TX3, 12), (RX4, TX4, 3), (RX5, TX5, 7), (RX6, TX6, 7), (RX7, TX7, 2), (RX8, TX8, 2), (RX9, TX9, 3), (RX10, TX10, 2), (RX11, TX11, 9), (RX12, TX12, 41)]
end
section
theorem dX0_init_0 : decode cX0_init 0 = .ok (.aload_n 0, 1) := by decide +kernel
theorem dX0_init_1 : decode cX0_init 1 = .ok (.invokespecial 3, 3) := by decide +kernel
theorem dX0_init_4 : decode cX0_init 4 = .ok (.aload_n 0, 1) := by decide +kernel
theorem dX0_init_5 : decode cX0_init 5 = .ok (.iload_n 1, 1) := by decide +kernel
theorem dX0_init_6 : decode cX0_init 6 = .ok (.putfield 9, 3) := by decide +kernel
theorem dX0_init_9 : decode cX0_init 9 = .ok (.aload_n 0, 1) := by decide +kernel
theorem dX0_init_10 : decode cX0_init 10 = .ok (.iload_n 2, 1) := by decide +kernel
theorem dX0_init_11 : decode cX0_init 11 = .ok (.putfield 15, 3) := by decide +kernel
theorem dX0_init_14 : decode cX0_init 14 = .ok (.aload_n 0, 1) := by decide +kernel
theorem dX0_init_15 : decode cX0_init 15 = .ok (.iload_n 3, 1) := by decide +kernel
theorem dX0_init_16 : decode cX0_init 16 = .ok (.putfield 18, 3) := by decide +kernel
theorem dX0_init_19 : decode cX0_init 19 = .ok (.aload_n 0, 1) := by decide +kernel
theorem dX0_init_20 : decode cX0_init 20 = .ok (.iload 4, 2) := by decide +kernel
theorem dX0_init_22 : decode cX0_init 22 = .ok (.putfield 21, 3) := by decide +kernel
theorem dX0_init_25 : decode cX0_init 25 = .ok (.aload_n 0, 1) := by decide +kernel
theorem dX0_init_26 : decode cX0_init 26 = .ok (.iload 5, 2) := by decide +kernel
theorem dX0_init_28 : decode cX0_init 28 = .ok (.putfield 24, 3) := by decide +kernel
theorem dX0_init_31 : decode cX0_init 31 = .ok (.aload_n 0, 1) := by decide +kernel
theorem dX0_init_32 : decode cX0_init 32 = .ok (.iload 6, 2) := by decide +kernel
theorem dX0_init_34 : decode cX0_init 34 = .ok (.putfield 27, 3) := by decide +kernel
theorem dX0_init_37 : decode cX0_init 37 = .ok (.aload_n 0, 1) := by decide +kernel
theorem dX0_init_38 : decode cX0_init 38 = .ok (.aload 7, 2) := by decide +kernel
theorem dX0_init_40 : decode cX0_init 40 = .ok (.putfield 30, 3) := by decide +kernel
theorem dX0_init_43 : decode cX0_init 43 = .ok (.return_, 1) := by decide +kernel
theorem dX0_kind_0 : decode cX0_kind 0 = .ok (.aload_n 0, 1) := by decide +kernel
theorem dX0_kind_1 : decode cX0_kind 1 = .ok (.getfield 9, 3) := by decide +kernel
theorem dX0_kind_4 : decode cX0_kind 4 = .ok (.tableswitch 56 2 9 #[48, 48, 50, 52, 48, 56, 54, 54], 48) := by decide +kernel
theorem dX0_kind_52 : decode cX0_kind 52 = .ok (.iconst 0, 1) := by decide +kernel
theorem dX0_kind_53 : decode cX0_kind 53 = .ok (.ireturn, 1) := by decide +kernel
theorem dX0_kind_54 : decode cX0_kind 54 = .ok (.iconst 1, 1) := by decide +kernel
theorem dX0_kind_55 : decode cX0_kind 55 = .ok (.ireturn, 1) := by decide +kernel
theorem dX0_kind_56 : decode cX0_kind 56 = .ok (.iconst 2, 1) := by decide +kernel
theorem dX0_kind_57 : decode cX0_kind 57 = .ok (.ireturn, 1) := by decide +kernel
theorem dX0_kind_58 : decode cX0_kind 58 = .ok (.iconst 3, 1) := by decide +kernel
theorem dX0_kind_59 : decode cX0_kind 59 = .ok (.ireturn, 1) := by decide +kernel
theorem dX0_kind_60 : decode cX0_kind 60 = .ok (.bipush (-2), 2) := by decide +kernel
theorem dX0_kind_62 : decode cX0_kind 62 = .ok (.ireturn, 1) := by decide +kernel
theorem dX0_operands_0 : decode cX0_operands 0 = .ok (.aload_n 0, 1) := by decide +kernel
theorem dX0_operands_1 : decode cX0_operands 1 = .ok (.getfield 21, 3) := by decide +kernel
theorem dX0_operands_4 : decode cX0_operands 4 = .ok (.bipush (-2), 2) := by decide +kernel
theorem dX0_operands_6 : decode cX0_operands 6 = .ok (.if_icmp .ne 7, 3) := by decide +kernel
theorem dX0_operands_9 : decode cX0_operands 9 = .ok (.iconst 0, 1) := by decide +kernel
theorem dX0_operands_10 : decode cX0_operands 10 = .ok (.goto 4, 3) := by decide +kernel
theorem dX0_operands_13 : decode cX0_operands 13 = .ok (.iconst 1, 1) := by decide +kernel
theorem dX0_operands_14 : decode cX0_operands 14 = .ok (.aload_n 0, 1) := by decide +kernel
theorem dX0_operands_15 : decode cX0_operands 15 = .ok (.getfield 24, 3) := by decide +kernel
theorem dX0_operands_18 : decode cX0_operands 18 = .ok (.bipush (-2), 2) := by decide +kernel
theorem dX0_operands_20 : decode cX0_operands 20 = .ok (.if_icmp .ne 7, 3) := by decide +kernel
theorem dX0_operands_23 : decode cX0_operands 23 = .ok (.iconst 0, 1) := by decide +kernel
theorem dX0_operands_24 : decode cX0_operands 24 = .ok (.goto 4, 3) := by decide +kernel
theorem dX0_operands_27 : decode cX0_operands 27 = .ok (.iconst 1, 1) := by decide +kernel
theorem dX0_operands_28 : decode cX0_operands 28 = .ok (.iadd, 1) := by decide +kernel
theorem dX0_operands_29 : decode cX0_operands 29 = .ok (.aload_n 0, 1) := by decide +kernel
theorem dX0_operands_30 : decode cX0_operands 30 = .ok (.getfield 27, 3) := by decide +kernel
theorem dX0_operands_33 : decode cX0_operands 33 = .ok (.bipush (-2), 2) := by decide +kernel
theorem dX0_operands_35 : decode cX0_operands 35 = .ok (.if_icmp .ne 7, 3) := by decide +kernel
theorem dX0_operands_38 : decode cX0_operands 38 = .ok (.iconst 0, 1) := by decide +kernel
theorem dX0_operands_39 : decode cX0_operands 39 = .ok (.goto 4, 3) := by decide +kernel
theorem dX0_operands_42 : decode cX0_operands 42 = .ok (.iconst 1, 1) := by decide +kernel
theorem dX0_operands_43 : decode cX0_operands 43 = .ok (.iadd, 1) := by decide +kernel
theorem dX0_operands_44 : decode cX0_operands 44 = .ok (.ireturn, 1) := by decide +kernel
theorem dX0_takes_0 : decode cX0_takes 0 = .ok (.aload_n 0, 1) := by decide +kernel
theorem dX0_takes_1 : decode cX0_takes 1 = .ok (.getfield 21, 3) := by decide +kernel
theorem dX0_takes_4 : decode cX0_takes 4 = .ok (.iload_n 1, 1) := by decide +kernel
theorem dX0_takes_5 : decode cX0_takes 5 = .ok (.if_icmp .eq 19, 3) := by decide +kernel
theorem dX0_takes_8 : decode cX0_takes 8 = .ok (.aload_n 0, 1) := by decide +kernel
theorem dX0_takes_9 : decode cX0_takes 9 = .ok (.getfield 24, 3) := by decide +kernel
theorem dX0_takes_12 : decode cX0_takes 12 = .ok (.iload_n 1, 1) := by decide +kernel
theorem dX0_takes_13 : decode cX0_takes 13 = .ok (.if_icmp .eq 11, 3) := by decide +kernel
theorem dX0_takes_16 : decode cX0_takes 16 = .ok (.aload_n 0, 1) := by decide +kernel
theorem dX0_takes_17 : decode cX0_takes 17 = .ok (.getfield 27, 3) := by decide +kernel
theorem dX0_takes_20 : decode cX0_takes 20 = .ok (.iload_n 1, 1) := by decide +kernel
theorem dX0_takes_21 : decode cX0_takes 21 = .ok (.if_icmp .ne 7, 3) := by decide +kernel
theorem dX0_takes_24 : decode cX0_takes 24 = .ok (.iconst 1, 1) := by decide +kernel
theorem dX0_takes_25 : decode cX0_takes 25 = .ok (.goto 4, 3) := by decide +kernel
theorem dX0_takes_28 : decode cX0_takes 28 = .ok (.iconst 0, 1) := by decide +kernel
theorem dX0_takes_29 : decode cX0_takes 29 = .ok (.ireturn, 1) := by decide +kernel
theorem dX0_canFail_0 : decode cX0_canFail 0 = .ok (.aload_n 0, 1) := by decide +kernel
theorem dX0_canFail_1 : decode cX0_canFail 1 = .ok (.invokevirtual 34, 3) := by decide +kernel
theorem dX0_canFail_4 : decode cX0_canFail 4 = .ok (.ifCond .eq 7, 3) := by decide +kernel
theorem dX0_canFail_7 : decode cX0_canFail 7 = .ok (.iconst 1, 1) := by decide +kernel
theorem dX0_canFail_8 : decode cX0_canFail 8 = .ok (.goto 4, 3) := by decide +kernel
theorem dX0_canFail_11 : decode cX0_canFail 11 = .ok (.iconst 0, 1) := by decide +kernel
theorem dX0_canFail_12 : decode cX0_canFail 12 = .ok (.ireturn, 1) := by decide +kernel
theorem dX0_changesOutside_0 : decode cX0_changesOutside 0 = .ok (.aload_n 0, 1) := by decide +kernel
theorem dX0_changesOutside_1 : decode cX0_changesOutside 1 = .ok (.getfield 9, 3) := by decide +kernel
theorem dX0_changesOutside_4 : decode cX0_changesOutside 4 = .ok (.iconst 1, 1) := by decide +kernel
theorem dX0_changesOutside_5 : decode cX0_changesOutside 5 = .ok (.if_icmp .eq 21, 3) := by decide +kernel
theorem dX0_changesOutside_8 : decode cX0_changesOutside 8 = .ok (.aload_n 0, 1) := by decide +kernel
theorem dX0_changesOutside_9 : decode cX0_changesOutside 9 = .ok (.getfield 9, 3) := by decide +kernel
theorem dX0_changesOutside_12 : decode cX0_changesOutside 12 = .ok (.bipush 9, 2) := by decide +kernel
theorem dX0_changesOutside_14 : decode cX0_changesOutside 14 = .ok (.if_icmp .eq 12, 3) := by decide +kernel
theorem dX0_changesOutside_17 : decode cX0_changesOutside 17 = .ok (.aload_n 0, 1) := by decide +kernel
theorem dX0_changesOutside_18 : decode cX0_changesOutside 18 = .ok (.getfield 9, 3) := by decide +kernel
theorem dX0_changesOutside_21 : decode cX0_changesOutside 21 = .ok (.bipush 10, 2) := by decide +kernel
theorem dX0_changesOutside_23 : decode cX0_changesOutside 23 = .ok (.if_icmp .ne 7, 3) := by decide +kernel
theorem dX0_changesOutside_26 : decode cX0_changesOutside 26 = .ok (.iconst 1, 1) := by decide +kernel
theorem dX0_changesOutside_27 : decode cX0_changesOutside 27 = .ok (.goto 4, 3) := by decide +kernel
theorem dX0_changesOutside_30 : decode cX0_changesOutside 30 = .ok (.iconst 0, 1) := by decide +kernel
theorem dX0_changesOutside_31 : decode cX0_changesOutside 31 = .ok (.ireturn, 1) := by decide +kernel
theorem dX0_failure_0 : decode cX0_failure 0 = .ok (.aload_n 0, 1) := by decide +kernel
theorem dX0_failure_1 : decode cX0_failure 1 = .ok (.getfield 9, 3) := by decide +kernel
theorem dX0_failure_4 : decode cX0_failure 4 = .ok (.tableswitch 58 1 9 #[56, 58, 58, 58, 52, 58, 58, 54, 54], 52) := by decide +kernel
theorem dX0_failure_56 : decode cX0_failure 56 = .ok (.iconst 1, 1) := by decide +kernel
theorem dX0_failure_57 : decode cX0_failure 57 = .ok (.ireturn, 1) := by decide +kernel
theorem dX0_failure_58 : decode cX0_failure 58 = .ok (.iconst 2, 1) := by decide +kernel
theorem dX0_failure_59 : decode cX0_failure 59 = .ok (.ireturn, 1) := by decide +kernel
theorem dX0_failure_60 : decode cX0_failure 60 = .ok (.iconst 3, 1) := by decide +kernel
theorem dX0_failure_61 : decode cX0_failure 61 = .ok (.ireturn, 1) := by decide +kernel
theorem dX0_failure_62 : decode cX0_failure 62 = .ok (.iconst 0, 1) := by decide +kernel
theorem dX0_failure_63 : decode cX0_failure 63 = .ok (.ireturn, 1) := by decide +kernel
theorem dX0_fail_0 : decode cX0_fail 0 = .ok (.aload_n 0, 1) := by decide +kernel
theorem dX0_fail_1 : decode cX0_fail 1 = .ok (.invokevirtual 34, 3) := by decide +kernel
theorem dX0_fail_4 : decode cX0_fail 4 = .ok (.tableswitch 58 1 3 #[28, 38, 48], 28) := by decide +kernel
theorem dX0_fail_32 : decode cX0_fail 32 = .ok (.new 38, 3) := by decide +kernel
theorem dX0_fail_35 : decode cX0_fail 35 = .ok (.dup, 1) := by decide +kernel
theorem dX0_fail_36 : decode cX0_fail 36 = .ok (.ldc 40, 2) := by decide +kernel
theorem dX0_fail_38 : decode cX0_fail 38 = .ok (.invokespecial 42, 3) := by decide +kernel
theorem dX0_fail_41 : decode cX0_fail 41 = .ok (.athrow, 1) := by decide +kernel
theorem dX0_fail_42 : decode cX0_fail 42 = .ok (.new 45, 3) := by decide +kernel
theorem dX0_fail_45 : decode cX0_fail 45 = .ok (.dup, 1) := by decide +kernel
theorem dX0_fail_46 : decode cX0_fail 46 = .ok (.ldc 47, 2) := by decide +kernel
theorem dX0_fail_48 : decode cX0_fail 48 = .ok (.invokespecial 49, 3) := by decide +kernel
theorem dX0_fail_51 : decode cX0_fail 51 = .ok (.athrow, 1) := by decide +kernel
theorem dX0_fail_52 : decode cX0_fail 52 = .ok (.new 50, 3) := by decide +kernel
theorem dX0_fail_55 : decode cX0_fail 55 = .ok (.dup, 1) := by decide +kernel
theorem dX0_fail_56 : decode cX0_fail 56 = .ok (.ldc 52, 2) := by decide +kernel
theorem dX0_fail_58 : decode cX0_fail 58 = .ok (.invokespecial 54, 3) := by decide +kernel
theorem dX0_fail_61 : decode cX0_fail 61 = .ok (.athrow, 1) := by decide +kernel
theorem dX0_fail_62 : decode cX0_fail 62 = .ok (.return_, 1) := by decide +kernel
theorem dX0_heft_0 : decode cX0_heft 0 = .ok (.aload_n 0, 1) := by decide +kernel
theorem dX0_heft_1 : decode cX0_heft 1 = .ok (.getfield 15, 3) := by decide +kernel
theorem dX0_heft_4 : decode cX0_heft 4 = .ok (.bipush 10, 2) := by decide +kernel
theorem dX0_heft_6 : decode cX0_heft 6 = .ok (.aload_n 0, 1) := by decide +kernel
theorem dX0_heft_7 : decode cX0_heft 7 = .ok (.invokevirtual 55, 3) := by decide +kernel
theorem dX0_heft_10 : decode cX0_heft 10 = .ok (.imul, 1) := by decide +kernel
theorem dX0_heft_11 : decode cX0_heft 11 = .ok (.iadd, 1) := by decide +kernel
theorem dX0_heft_12 : decode cX0_heft 12 = .ok (.istore_n 1, 1) := by decide +kernel
theorem dX0_heft_13 : decode cX0_heft 13 = .ok (.aload_n 0, 1) := by decide +kernel
theorem dX0_heft_14 : decode cX0_heft 14 = .ok (.getfield 9, 3) := by decide +kernel
theorem dX0_heft_17 : decode cX0_heft 17 = .ok (.tableswitch 81 1 10 #[72, 81, 81, 55, 60, 81, 81, 67, 67, 72], 55) := by decide +kernel
theorem dX0_heft_72 : decode cX0_heft 72 = .ok (.iload_n 1, 1) := by decide +kernel
theorem dX0_heft_73 : decode cX0_heft 73 = .ok (.bipush 100, 2) := by decide +kernel
theorem dX0_heft_75 : decode cX0_heft 75 = .ok (.iadd, 1) := by decide +kernel
theorem dX0_heft_76 : decode cX0_heft 76 = .ok (.ireturn, 1) := by decide +kernel
theorem dX0_heft_77 : decode cX0_heft 77 = .ok (.iconst 2, 1) := by decide +kernel
theorem dX0_heft_78 : decode cX0_heft 78 = .ok (.iload_n 1, 1) := by decide +kernel
theorem dX0_heft_79 : decode cX0_heft 79 = .ok (.bipush 100, 2) := by decide +kernel
theorem dX0_heft_81 : decode cX0_heft 81 = .ok (.iadd, 1) := by decide +kernel
theorem dX0_heft_82 : decode cX0_heft 82 = .ok (.imul, 1) := by decide +kernel
theorem dX0_heft_83 : decode cX0_heft 83 = .ok (.ireturn, 1) := by decide +kernel
theorem dX0_heft_84 : decode cX0_heft 84 = .ok (.iload_n 1, 1) := by decide +kernel
theorem dX0_heft_85 : decode cX0_heft 85 = .ok (.bipush 7, 2) := by decide +kernel
theorem dX0_heft_87 : decode cX0_heft 87 = .ok (.iadd, 1) := by decide +kernel
theorem dX0_heft_88 : decode cX0_heft 88 = .ok (.ireturn, 1) := by decide +kernel
theorem dX0_heft_89 : decode cX0_heft 89 = .ok (.iload_n 1, 1) := by decide +kernel
theorem dX0_heft_90 : decode cX0_heft 90 = .ok (.bipush 7, 2) := by decide +kernel
theorem dX0_heft_92 : decode cX0_heft 92 = .ok (.iadd, 1) := by decide +kernel
theorem dX0_heft_93 : decode cX0_heft 93 = .ok (.sipush 1000, 3) := by decide +kernel
theorem dX0_heft_96 : decode cX0_heft 96 = .ok (.iadd, 1) := by decide +kernel
theorem dX0_heft_97 : decode cX0_heft 97 = .ok (.ireturn, 1) := by decide +kernel
theorem dX0_heft_98 : decode cX0_heft 98 = .ok (.iload_n 1, 1) := by decide +kernel
theorem dX0_heft_99 : decode cX0_heft 99 = .ok (.ireturn, 1) := by decide +kernel
theorem dX1_init_0 : decode cX1_init 0 = .ok (.aload_n 0, 1) := by decide +kernel
theorem dX1_init_1 : decode cX1_init 1 = .ok (.invokespecial 3, 3) := by decide +kernel
theorem dX1_init_4 : decode cX1_init 4 = .ok (.aload_n 0, 1) := by decide +kernel
theorem dX1_init_5 : decode cX1_init 5 = .ok (.bipush 16, 2) := by decide +kernel
theorem dX1_init_7 : decode cX1_init 7 = .ok (.anewarray 9, 3) := by decide +kernel
theorem dX1_init_10 : decode cX1_init 10 = .ok (.putfield 11, 3) := by decide +kernel
theorem dX1_init_13 : decode cX1_init 13 = .ok (.aload_n 0, 1) := by decide +kernel
theorem dX1_init_14 : decode cX1_init 14 = .ok (.iconst 0, 1) := by decide +kernel
theorem dX1_init_15 : decode cX1_init 15 = .ok (.putfield 17, 3) := by decide +kernel
theorem dX1_init_18 : decode cX1_init 18 = .ok (.return_, 1) := by decide +kernel
theorem dX1_size_0 : decode cX1_size 0 = .ok (.aload_n 0, 1) := by decide +kernel
theorem dX1_size_1 : decode cX1_size 1 = .ok (.getfield 17, 3) := by decide +kernel
theorem dX1_size_4 : decode cX1_size 4 = .ok (.ireturn, 1) := by decide +kernel
theorem dX1_isFull_0 : decode cX1_isFull 0 = .ok (.aload_n 0, 1) := by decide +kernel
theorem dX1_isFull_1 : decode cX1_isFull 1 = .ok (.getfield 17, 3) := by decide +kernel
theorem dX1_isFull_4 : decode cX1_isFull 4 = .ok (.bipush 16, 2) := by decide +kernel
theorem dX1_isFull_6 : decode cX1_isFull 6 = .ok (.if_icmp .ne 7, 3) := by decide +kernel
theorem dX1_isFull_9 : decode cX1_isFull 9 = .ok (.iconst 1, 1) := by decide +kernel
theorem dX1_isFull_10 : decode cX1_isFull 10 = .ok (.goto 4, 3) := by decide +kernel
theorem dX1_isFull_13 : decode cX1_isFull 13 = .ok (.iconst 0, 1) := by decide +kernel
theorem dX1_isFull_14 : decode cX1_isFull 14 = .ok (.ireturn, 1) := by decide +kernel
theorem dX1_has_0 : decode cX1_has 0 = .ok (.iload_n 1, 1) := by decide +kernel
theorem dX1_has_1 : decode cX1_has 1 = .ok (.ifCond .lt 15, 3) := by decide +kernel
theorem dX1_has_4 : decode cX1_has 4 = .ok (.iload_n 1, 1) := by decide +kernel
theorem dX1_has_5 : decode cX1_has 5 = .ok (.aload_n 0, 1) := by decide +kernel
theorem dX1_has_6 : decode cX1_has 6 = .ok (.getfield 17, 3) := by decide +kernel
theorem dX1_has_9 : decode cX1_has 9 = .ok (.if_icmp .ge 7, 3) := by decide +kernel
theorem dX1_has_12 : decode cX1_has 12 = .ok (.iconst 1, 1) := by decide +kernel
theorem dX1_has_13 : decode cX1_has 13 = .ok (.goto 4, 3) := by decide +kernel
theorem dX1_has_16 : decode cX1_has 16 = .ok (.iconst 0, 1) := by decide +kernel
theorem dX1_has_17 : decode cX1_has 17 = .ok (.ireturn, 1) := by decide +kernel
theorem dX1_get_0 : decode cX1_get 0 = .ok (.aload_n 0, 1) := by decide +kernel
theorem dX1_get_1 : decode cX1_get 1 = .ok (.getfield 11, 3) := by decide +kernel
theorem dX1_get_4 : decode cX1_get 4 = .ok (.iload_n 1, 1) := by decide +kernel
theorem dX1_get_5 : decode cX1_get 5 = .ok (.aaload, 1) := by decide +kernel
theorem dX1_get_6 : decode cX1_get 6 = .ok (.areturn, 1) := by decide +kernel
theorem dX1_add_0 : decode cX1_add 0 = .ok (.aload_n 0, 1) := by decide +kernel
theorem dX1_add_1 : decode cX1_add 1 = .ok (.getfield 11, 3) := by decide +kernel
theorem dX1_add_4 : decode cX1_add 4 = .ok (.aload_n 0, 1) := by decide +kernel
theorem dX1_add_5 : decode cX1_add 5 = .ok (.getfield 17, 3) := by decide +kernel
theorem dX1_add_8 : decode cX1_add 8 = .ok (.aload_n 1, 1) := by decide +kernel
theorem dX1_add_9 : decode cX1_add 9 = .ok (.aastore, 1) := by decide +kernel
theorem dX1_add_10 : decode cX1_add 10 = .ok (.aload_n 0, 1) := by decide +kernel
theorem dX1_add_11 : decode cX1_add 11 = .ok (.dup, 1) := by decide +kernel
theorem dX1_add_12 : decode cX1_add 12 = .ok (.getfield 17, 3) := by decide +kernel
theorem dX1_add_15 : decode cX1_add 15 = .ok (.iconst 1, 1) := by decide +kernel
theorem dX1_add_16 : decode cX1_add 16 = .ok (.iadd, 1) := by decide +kernel
theorem dX1_add_17 : decode cX1_add 17 = .ok (.putfield 17, 3) := by decide +kernel
theorem dX1_add_20 : decode cX1_add 20 = .ok (.return_, 1) := by decide +kernel
theorem dX1_removeLast_0 : decode cX1_removeLast 0 = .ok (.aload_n 0, 1) := by decide +kernel
theorem dX1_removeLast_1 : decode cX1_removeLast 1 = .ok (.dup, 1) := by decide +kernel
theorem dX1_removeLast_2 : decode cX1_removeLast 2 = .ok (.getfield 17, 3) := by decide +kernel
theorem dX1_removeLast_5 : decode cX1_removeLast 5 = .ok (.iconst 1, 1) := by decide +kernel
theorem dX1_removeLast_6 : decode cX1_removeLast 6 = .ok (.isub, 1) := by decide +kernel
theorem dX1_removeLast_7 : decode cX1_removeLast 7 = .ok (.putfield 17, 3) := by decide +kernel
theorem dX1_removeLast_10 : decode cX1_removeLast 10 = .ok (.return_, 1) := by decide +kernel
theorem dX1_operands_0 : decode cX1_operands 0 = .ok (.iconst 0, 1) := by decide +kernel
theorem dX1_operands_1 : decode cX1_operands 1 = .ok (.istore_n 1, 1) := by decide +kernel
theorem dX1_operands_2 : decode cX1_operands 2 = .ok (.iconst 0, 1) := by decide +kernel
theorem dX1_operands_3 : decode cX1_operands 3 = .ok (.istore_n 2, 1) := by decide +kernel
theorem dX1_operands_4 : decode cX1_operands 4 = .ok (.iload_n 2, 1) := by decide +kernel
theorem dX1_operands_5 : decode cX1_operands 5 = .ok (.aload_n 0, 1) := by decide +kernel
theorem dX1_operands_6 : decode cX1_operands 6 = .ok (.getfield 17, 3) := by decide +kernel
theorem dX1_operands_9 : decode cX1_operands 9 = .ok (.if_icmp .ge 21, 3) := by decide +kernel
theorem dX1_operands_12 : decode cX1_operands 12 = .ok (.iload_n 1, 1) := by decide +kernel
theorem dX1_operands_13 : decode cX1_operands 13 = .ok (.aload_n 0, 1) := by decide +kernel
theorem dX1_operands_14 : decode cX1_operands 14 = .ok (.getfield 11, 3) := by decide +kernel
theorem dX1_operands_17 : decode cX1_operands 17 = .ok (.iload_n 2, 1) := by decide +kernel
theorem dX1_operands_18 : decode cX1_operands 18 = .ok (.aaload, 1) := by decide +kernel
theorem dX1_operands_19 : decode cX1_operands 19 = .ok (.invokevirtual 21, 3) := by decide +kernel
theorem dX1_operands_22 : decode cX1_operands 22 = .ok (.iadd, 1) := by decide +kernel
theorem dX1_operands_23 : decode cX1_operands 23 = .ok (.istore_n 1, 1) := by decide +kernel
theorem dX1_operands_24 : decode cX1_operands 24 = .ok (.iinc 2 1, 3) := by decide +kernel
theorem dX1_operands_27 : decode cX1_operands 27 = .ok (.goto (-23), 3) := by decide +kernel
theorem dX1_operands_30 : decode cX1_operands 30 = .ok (.iload_n 1, 1) := by decide +kernel
theorem dX1_operands_31 : decode cX1_operands 31 = .ok (.ireturn, 1) := by decide +kernel
theorem dX2_init_0 : decode cX2_init 0 = .ok (.aload_n 0, 1) := by decide +kernel
theorem dX2_init_1 : decode cX2_init 1 = .ok (.invokespecial 1, 3) := by decide +kernel
theorem dX2_init_4 : decode cX2_init 4 = .ok (.return_, 1) := by decide +kernel
theorem dX3_init_0 : decode cX3_init 0 = .ok (.aload_n 0, 1) := by decide +kernel
theorem dX3_init_1 : decode cX3_init 1 = .ok (.invokespecial 3, 3) := by decide +kernel
theorem dX3_init_4 : decode cX3_init 4 = .ok (.aload_n 0, 1) := by decide +kernel
theorem dX3_init_5 : decode cX3_init 5 = .ok (.iconst 4, 1) := by decide +kernel
theorem dX3_init_6 : decode cX3_init 6 = .ok (.anewarray 9, 3) := by decide +kernel
theorem dX3_init_9 : decode cX3_init 9 = .ok (.putfield 11, 3) := by decide +kernel
theorem dX3_init_12 : decode cX3_init 12 = .ok (.aload_n 0, 1) := by decide +kernel
theorem dX3_init_13 : decode cX3_init 13 = .ok (.iconst 4, 1) := by decide +kernel
theorem dX3_init_14 : decode cX3_init 14 = .ok (.anewarray 9, 3) := by decide +kernel
theorem dX3_init_17 : decode cX3_init 17 = .ok (.putfield 17, 3) := by decide +kernel
theorem dX3_init_20 : decode cX3_init 20 = .ok (.aload_n 0, 1) := by decide +kernel
theorem dX3_init_21 : decode cX3_init 21 = .ok (.bipush 16, 2) := by decide +kernel
theorem dX3_init_23 : decode cX3_init 23 = .ok (.newarray .long, 2) := by decide +kernel
theorem dX3_init_25 : decode cX3_init 25 = .ok (.putfield 20, 3) := by decide +kernel
theorem dX3_init_28 : decode cX3_init 28 = .ok (.aload_n 0, 1) := by decide +kernel
theorem dX3_init_29 : decode cX3_init 29 = .ok (.bipush 16, 2) := by decide +kernel
theorem dX3_init_31 : decode cX3_init 31 = .ok (.newarray .long, 2) := by decide +kernel
theorem dX3_init_33 : decode cX3_init 33 = .ok (.putfield 24, 3) := by decide +kernel
theorem dX3_init_36 : decode cX3_init 36 = .ok (.aload_n 0, 1) := by decide +kernel
theorem dX3_init_37 : decode cX3_init 37 = .ok (.iconst 4, 1) := by decide +kernel
theorem dX3_init_38 : decode cX3_init 38 = .ok (.newarray .int, 2) := by decide +kernel
theorem dX3_init_40 : decode cX3_init 40 = .ok (.putfield 27, 3) := by decide +kernel
theorem dX3_init_43 : decode cX3_init 43 = .ok (.aload_n 0, 1) := by decide +kernel
theorem dX3_init_44 : decode cX3_init 44 = .ok (.bipush 16, 2) := by decide +kernel
theorem dX3_init_46 : decode cX3_init 46 = .ok (.newarray .int, 2) := by decide +kernel
theorem dX3_init_48 : decode cX3_init 48 = .ok (.putfield 31, 3) := by decide +kernel
theorem dX3_init_51 : decode cX3_init 51 = .ok (.aload_n 0, 1) := by decide +kernel
theorem dX3_init_52 : decode cX3_init 52 = .ok (.bipush 16, 2) := by decide +kernel
theorem dX3_init_54 : decode cX3_init 54 = .ok (.newarray .long, 2) := by decide +kernel
theorem dX3_init_56 : decode cX3_init 56 = .ok (.putfield 34, 3) := by decide +kernel
theorem dX3_init_59 : decode cX3_init 59 = .ok (.aload_n 0, 1) := by decide +kernel
theorem dX3_init_60 : decode cX3_init 60 = .ok (.iconst 0, 1) := by decide +kernel
theorem dX3_init_61 : decode cX3_init 61 = .ok (.putfield 37, 3) := by decide +kernel
theorem dX3_init_64 : decode cX3_init 64 = .ok (.aload_n 0, 1) := by decide +kernel
theorem dX3_init_65 : decode cX3_init 65 = .ok (.bipush (-2), 2) := by decide +kernel
theorem dX3_init_67 : decode cX3_init 67 = .ok (.putfield 41, 3) := by decide +kernel
theorem dX3_init_70 : decode cX3_init 70 = .ok (.aload_n 0, 1) := by decide +kernel
theorem dX3_init_71 : decode cX3_init 71 = .ok (.iconst 0, 1) := by decide +kernel
theorem dX3_init_72 : decode cX3_init 72 = .ok (.putfield 44, 3) := by decide +kernel
theorem dX3_init_75 : decode cX3_init 75 = .ok (.aload_n 0, 1) := by decide +kernel
theorem dX3_init_76 : decode cX3_init 76 = .ok (.iconst 0, 1) := by decide +kernel
theorem dX3_init_77 : decode cX3_init 77 = .ok (.putfield 47, 3) := by decide +kernel
theorem dX3_init_80 : decode cX3_init 80 = .ok (.aload_n 0, 1) := by decide +kernel
theorem dX3_init_81 : decode cX3_init 81 = .ok (.aload_n 1, 1) := by decide +kernel
theorem dX3_init_82 : decode cX3_init 82 = .ok (.putfield 50, 3) := by decide +kernel
theorem dX3_init_85 : decode cX3_init 85 = .ok (.iconst 0, 1) := by decide +kernel
theorem dX3_init_86 : decode cX3_init 86 = .ok (.istore_n 2, 1) := by decide +kernel
theorem dX3_init_87 : decode cX3_init 87 = .ok (.iload_n 2, 1) := by decide +kernel
theorem dX3_init_88 : decode cX3_init 88 = .ok (.iconst 4, 1) := by decide +kernel
theorem dX3_init_89 : decode cX3_init 89 = .ok (.if_icmp .ge 39, 3) := by decide +kernel
theorem dX3_init_92 : decode cX3_init 92 = .ok (.aload_n 0, 1) := by decide +kernel
theorem dX3_init_93 : decode cX3_init 93 = .ok (.getfield 11, 3) := by decide +kernel
theorem dX3_init_96 : decode cX3_init 96 = .ok (.iload_n 2, 1) := by decide +kernel
theorem dX3_init_97 : decode cX3_init 97 = .ok (.new 9, 3) := by decide +kernel
theorem dX3_init_100 : decode cX3_init 100 = .ok (.dup, 1) := by decide +kernel
theorem dX3_init_101 : decode cX3_init 101 = .ok (.bipush 20, 2) := by decide +kernel
theorem dX3_init_103 : decode cX3_init 103 = .ok (.invokespecial 54, 3) := by decide +kernel
theorem dX3_init_106 : decode cX3_init 106 = .ok (.aastore, 1) := by decide +kernel
theorem dX3_init_107 : decode cX3_init 107 = .ok (.aload_n 0, 1) := by decide +kernel
theorem dX3_init_108 : decode cX3_init 108 = .ok (.getfield 17, 3) := by decide +kernel
theorem dX3_init_111 : decode cX3_init 111 = .ok (.iload_n 2, 1) := by decide +kernel
theorem dX3_init_112 : decode cX3_init 112 = .ok (.new 9, 3) := by decide +kernel
theorem dX3_init_115 : decode cX3_init 115 = .ok (.dup, 1) := by decide +kernel
theorem dX3_init_116 : decode cX3_init 116 = .ok (.bipush 16, 2) := by decide +kernel
theorem dX3_init_118 : decode cX3_init 118 = .ok (.invokespecial 54, 3) := by decide +kernel
theorem dX3_init_121 : decode cX3_init 121 = .ok (.aastore, 1) := by decide +kernel
theorem dX3_init_122 : decode cX3_init 122 = .ok (.iinc 2 1, 3) := by decide +kernel
theorem dX3_init_125 : decode cX3_init 125 = .ok (.goto (-38), 3) := by decide +kernel
theorem dX3_init_128 : decode cX3_init 128 = .ok (.iconst 0, 1) := by decide +kernel
theorem dX3_init_129 : decode cX3_init 129 = .ok (.istore_n 2, 1) := by decide +kernel
theorem dX3_init_130 : decode cX3_init 130 = .ok (.iload_n 2, 1) := by decide +kernel
theorem dX3_init_131 : decode cX3_init 131 = .ok (.bipush 16, 2) := by decide +kernel
theorem dX3_init_133 : decode cX3_init 133 = .ok (.if_icmp .ge 16, 3) := by decide +kernel
theorem dX3_init_136 : decode cX3_init 136 = .ok (.aload_n 0, 1) := by decide +kernel
theorem dX3_init_137 : decode cX3_init 137 = .ok (.getfield 31, 3) := by decide +kernel
theorem dX3_init_140 : decode cX3_init 140 = .ok (.iload_n 2, 1) := by decide +kernel
theorem dX3_init_141 : decode cX3_init 141 = .ok (.iload_n 2, 1) := by decide +kernel
theorem dX3_init_142 : decode cX3_init 142 = .ok (.iastore, 1) := by decide +kernel
theorem dX3_init_143 : decode cX3_init 143 = .ok (.iinc 2 1, 3) := by decide +kernel
theorem dX3_init_146 : decode cX3_init 146 = .ok (.goto (-16), 3) := by decide +kernel
theorem dX3_init_149 : decode cX3_init 149 = .ok (.return_, 1) := by decide +kernel
theorem dX3_runPlain_0 : decode cX3_runPlain 0 = .ok (.aload_n 0, 1) := by decide +kernel
theorem dX3_runPlain_1 : decode cX3_runPlain 1 = .ok (.aload_n 0, 1) := by decide +kernel
theorem dX3_runPlain_2 : decode cX3_runPlain 2 = .ok (.getfield 31, 3) := by decide +kernel
theorem dX3_runPlain_5 : decode cX3_runPlain 5 = .ok (.invokevirtual 57, 3) := by decide +kernel
theorem dX3_runPlain_8 : decode cX3_runPlain 8 = .ok (.aload_n 0, 1) := by decide +kernel
theorem dX3_runPlain_9 : decode cX3_runPlain 9 = .ok (.iconst 0, 1) := by decide +kernel
theorem dX3_runPlain_10 : decode cX3_runPlain 10 = .ok (.putfield 47, 3) := by decide +kernel
theorem dX3_runPlain_13 : decode cX3_runPlain 13 = .ok (.return_, 1) := by decide +kernel
theorem dX3_runLaid_0 : decode cX3_runLaid 0 = .ok (.aload_n 0, 1) := by decide +kernel
theorem dX3_runLaid_1 : decode cX3_runLaid 1 = .ok (.aload_n 1, 1) := by decide +kernel
theorem dX3_runLaid_2 : decode cX3_runLaid 2 = .ok (.getfield 61, 3) := by decide +kernel
theorem dX3_runLaid_5 : decode cX3_runLaid 5 = .ok (.invokevirtual 57, 3) := by decide +kernel
theorem dX3_runLaid_8 : decode cX3_runLaid 8 = .ok (.aload_n 0, 1) := by decide +kernel
theorem dX3_runLaid_9 : decode cX3_runLaid 9 = .ok (.aload_n 0, 1) := by decide +kernel
theorem dX3_runLaid_10 : decode cX3_runLaid 10 = .ok (.getfield 41, 3) := by decide +kernel
theorem dX3_runLaid_13 : decode cX3_runLaid 13 = .ok (.bipush (-2), 2) := by decide +kernel
theorem dX3_runLaid_15 : decode cX3_runLaid 15 = .ok (.if_icmp .ne 10, 3) := by decide +kernel
theorem dX3_runLaid_18 : decode cX3_runLaid 18 = .ok (.aload_n 1, 1) := by decide +kernel
theorem dX3_runLaid_19 : decode cX3_runLaid 19 = .ok (.getfield 66, 3) := by decide +kernel
theorem dX3_runLaid_22 : decode cX3_runLaid 22 = .ok (.goto 12, 3) := by decide +kernel
theorem dX3_runLaid_25 : decode cX3_runLaid 25 = .ok (.aload_n 1, 1) := by decide +kernel
theorem dX3_runLaid_26 : decode cX3_runLaid 26 = .ok (.getfield 69, 3) := by decide +kernel
theorem dX3_runLaid_29 : decode cX3_runLaid 29 = .ok (.aload_n 0, 1) := by decide +kernel
theorem dX3_runLaid_30 : decode cX3_runLaid 30 = .ok (.getfield 41, 3) := by decide +kernel
theorem dX3_runLaid_33 : decode cX3_runLaid 33 = .ok (.iaload, 1) := by decide +kernel
theorem dX3_runLaid_34 : decode cX3_runLaid 34 = .ok (.putfield 47, 3) := by decide +kernel
theorem dX3_runLaid_37 : decode cX3_runLaid 37 = .ok (.return_, 1) := by decide +kernel
theorem dX3_runInOrder_0 : decode cX3_runInOrder 0 = .ok (.aload_n 0, 1) := by decide +kernel
theorem dX3_runInOrder_1 : decode cX3_runInOrder 1 = .ok (.invokevirtual 72, 3) := by decide +kernel
theorem dX3_runInOrder_4 : decode cX3_runInOrder 4 = .ok (.iconst 0, 1) := by decide +kernel
theorem dX3_runInOrder_5 : decode cX3_runInOrder 5 = .ok (.istore_n 2, 1) := by decide +kernel
theorem dX3_runInOrder_6 : decode cX3_runInOrder 6 = .ok (.iload_n 2, 1) := by decide +kernel
theorem dX3_runInOrder_7 : decode cX3_runInOrder 7 = .ok (.aload_n 0, 1) := by decide +kernel
theorem dX3_runInOrder_8 : decode cX3_runInOrder 8 = .ok (.getfield 50, 3) := by decide +kernel
theorem dX3_runInOrder_11 : decode cX3_runInOrder 11 = .ok (.invokevirtual 75, 3) := by decide +kernel
theorem dX3_runInOrder_14 : decode cX3_runInOrder 14 = .ok (.if_icmp .ge 35, 3) := by decide +kernel
theorem dX3_runInOrder_17 : decode cX3_runInOrder 17 = .ok (.aload_n 1, 1) := by decide +kernel
theorem dX3_runInOrder_18 : decode cX3_runInOrder 18 = .ok (.iload_n 2, 1) := by decide +kernel
theorem dX3_runInOrder_19 : decode cX3_runInOrder 19 = .ok (.iaload, 1) := by decide +kernel
theorem dX3_runInOrder_20 : decode cX3_runInOrder 20 = .ok (.istore_n 3, 1) := by decide +kernel
theorem dX3_runInOrder_21 : decode cX3_runInOrder 21 = .ok (.aload_n 0, 1) := by decide +kernel
theorem dX3_runInOrder_22 : decode cX3_runInOrder 22 = .ok (.getfield 41, 3) := by decide +kernel
theorem dX3_runInOrder_25 : decode cX3_runInOrder 25 = .ok (.bipush (-2), 2) := by decide +kernel
theorem dX3_runInOrder_27 : decode cX3_runInOrder 27 = .ok (.if_icmp .eq 11, 3) := by decide +kernel
theorem dX3_runInOrder_30 : decode cX3_runInOrder 30 = .ok (.iload_n 3, 1) := by decide +kernel
theorem dX3_runInOrder_31 : decode cX3_runInOrder 31 = .ok (.aload_n 0, 1) := by decide +kernel
theorem dX3_runInOrder_32 : decode cX3_runInOrder 32 = .ok (.getfield 41, 3) := by decide +kernel
theorem dX3_runInOrder_35 : decode cX3_runInOrder 35 = .ok (.if_icmp .ge 8, 3) := by decide +kernel
theorem dX3_runInOrder_38 : decode cX3_runInOrder 38 = .ok (.aload_n 0, 1) := by decide +kernel
theorem dX3_runInOrder_39 : decode cX3_runInOrder 39 = .ok (.iload_n 3, 1) := by decide +kernel
theorem dX3_runInOrder_40 : decode cX3_runInOrder 40 = .ok (.invokevirtual 81, 3) := by decide +kernel
theorem dX3_runInOrder_43 : decode cX3_runInOrder 43 = .ok (.iinc 2 1, 3) := by decide +kernel
theorem dX3_runInOrder_46 : decode cX3_runInOrder 46 = .ok (.goto (-40), 3) := by decide +kernel
theorem dX3_runInOrder_49 : decode cX3_runInOrder 49 = .ok (.return_, 1) := by decide +kernel
theorem dX3_reset_0 : decode cX3_reset 0 = .ok (.aload_n 0, 1) := by decide +kernel
theorem dX3_reset_1 : decode cX3_reset 1 = .ok (.getfield 20, 3) := by decide +kernel
theorem dX3_reset_4 : decode cX3_reset 4 = .ok (.iconst 0, 1) := by decide +kernel
theorem dX3_reset_5 : decode cX3_reset 5 = .ok (.aload_n 0, 1) := by decide +kernel
theorem dX3_reset_6 : decode cX3_reset 6 = .ok (.getfield 24, 3) := by decide +kernel
theorem dX3_reset_9 : decode cX3_reset 9 = .ok (.iconst 0, 1) := by decide +kernel
theorem dX3_reset_10 : decode cX3_reset 10 = .ok (.bipush 16, 2) := by decide +kernel
theorem dX3_reset_12 : decode cX3_reset 12 = .ok (.invokestatic 84, 3) := by decide +kernel
theorem dX3_reset_15 : decode cX3_reset 15 = .ok (.iconst 0, 1) := by decide +kernel
theorem dX3_reset_16 : decode cX3_reset 16 = .ok (.istore_n 1, 1) := by decide +kernel
theorem dX3_reset_17 : decode cX3_reset 17 = .ok (.iload_n 1, 1) := by decide +kernel
theorem dX3_reset_18 : decode cX3_reset 18 = .ok (.iconst 4, 1) := by decide +kernel
theorem dX3_reset_19 : decode cX3_reset 19 = .ok (.if_icmp .ge 25, 3) := by decide +kernel
theorem dX3_reset_22 : decode cX3_reset 22 = .ok (.aload_n 0, 1) := by decide +kernel
theorem dX3_reset_23 : decode cX3_reset 23 = .ok (.getfield 27, 3) := by decide +kernel
theorem dX3_reset_26 : decode cX3_reset 26 = .ok (.iload_n 1, 1) := by decide +kernel
theorem dX3_reset_27 : decode cX3_reset 27 = .ok (.iconst 0, 1) := by decide +kernel
theorem dX3_reset_28 : decode cX3_reset 28 = .ok (.iastore, 1) := by decide +kernel
theorem dX3_reset_29 : decode cX3_reset 29 = .ok (.aload_n 0, 1) := by decide +kernel
theorem dX3_reset_30 : decode cX3_reset 30 = .ok (.getfield 17, 3) := by decide +kernel
theorem dX3_reset_33 : decode cX3_reset 33 = .ok (.iload_n 1, 1) := by decide +kernel
theorem dX3_reset_34 : decode cX3_reset 34 = .ok (.aaload, 1) := by decide +kernel
theorem dX3_reset_35 : decode cX3_reset 35 = .ok (.invokevirtual 90, 3) := by decide +kernel
theorem dX3_reset_38 : decode cX3_reset 38 = .ok (.iinc 1 1, 3) := by decide +kernel
theorem dX3_reset_41 : decode cX3_reset 41 = .ok (.goto (-24), 3) := by decide +kernel
theorem dX3_reset_44 : decode cX3_reset 44 = .ok (.aload_n 0, 1) := by decide +kernel
theorem dX3_reset_45 : decode cX3_reset 45 = .ok (.iconst 0, 1) := by decide +kernel
theorem dX3_reset_46 : decode cX3_reset 46 = .ok (.putfield 37, 3) := by decide +kernel
theorem dX3_reset_49 : decode cX3_reset 49 = .ok (.aload_n 0, 1) := by decide +kernel
theorem dX3_reset_50 : decode cX3_reset 50 = .ok (.bipush (-2), 2) := by decide +kernel
theorem dX3_reset_52 : decode cX3_reset 52 = .ok (.putfield 41, 3) := by decide +kernel
theorem dX3_reset_55 : decode cX3_reset 55 = .ok (.aload_n 0, 1) := by decide +kernel
theorem dX3_reset_56 : decode cX3_reset 56 = .ok (.iconst 0, 1) := by decide +kernel
theorem dX3_reset_57 : decode cX3_reset 57 = .ok (.putfield 44, 3) := by decide +kernel
theorem dX3_reset_60 : decode cX3_reset 60 = .ok (.return_, 1) := by decide +kernel
theorem dX3_begin_0 : decode cX3_begin 0 = .ok (.aload_n 0, 1) := by decide +kernel
theorem dX3_begin_1 : decode cX3_begin 1 = .ok (.getfield 50, 3) := by decide +kernel
theorem dX3_begin_4 : decode cX3_begin 4 = .ok (.iload_n 1, 1) := by decide +kernel
theorem dX3_begin_5 : decode cX3_begin 5 = .ok (.invokevirtual 93, 3) := by decide +kernel
theorem dX3_begin_8 : decode cX3_begin 8 = .ok (.astore_n 2, 1) := by decide +kernel
theorem dX3_begin_9 : decode cX3_begin 9 = .ok (.aload_n 0, 1) := by decide +kernel
theorem dX3_begin_10 : decode cX3_begin 10 = .ok (.dup, 1) := by decide +kernel
theorem dX3_begin_11 : decode cX3_begin 11 = .ok (.getfield 44, 3) := by decide +kernel
theorem dX3_begin_14 : decode cX3_begin 14 = .ok (.iconst 1, 1) := by decide +kernel
theorem dX3_begin_15 : decode cX3_begin 15 = .ok (.iadd, 1) := by decide +kernel
theorem dX3_begin_16 : decode cX3_begin 16 = .ok (.putfield 44, 3) := by decide +kernel
theorem dX3_begin_19 : decode cX3_begin 19 = .ok (.aload_n 0, 1) := by decide +kernel
theorem dX3_begin_20 : decode cX3_begin 20 = .ok (.aload_n 2, 1) := by decide +kernel
theorem dX3_begin_21 : decode cX3_begin 21 = .ok (.invokevirtual 97, 3) := by decide +kernel
theorem dX3_begin_24 : decode cX3_begin 24 = .ok (.ifCond .eq 17, 3) := by decide +kernel
theorem dX3_begin_27 : decode cX3_begin 27 = .ok (.aload_n 0, 1) := by decide +kernel
theorem dX3_begin_28 : decode cX3_begin 28 = .ok (.aload_n 2, 1) := by decide +kernel
theorem dX3_begin_29 : decode cX3_begin 29 = .ok (.invokevirtual 101, 3) := by decide +kernel
theorem dX3_begin_32 : decode cX3_begin 32 = .ok (.putfield 37, 3) := by decide +kernel
theorem dX3_begin_35 : decode cX3_begin 35 = .ok (.aload_n 0, 1) := by decide +kernel
theorem dX3_begin_36 : decode cX3_begin 36 = .ok (.iload_n 1, 1) := by decide +kernel
theorem dX3_begin_37 : decode cX3_begin 37 = .ok (.putfield 41, 3) := by decide +kernel
theorem dX3_begin_40 : decode cX3_begin 40 = .ok (.return_, 1) := by decide +kernel
theorem dX3_begin_41 : decode cX3_begin 41 = .ok (.aload_n 0, 1) := by decide +kernel
theorem dX3_begin_42 : decode cX3_begin 42 = .ok (.getfield 34, 3) := by decide +kernel
theorem dX3_begin_45 : decode cX3_begin 45 = .ok (.iload_n 1, 1) := by decide +kernel
theorem dX3_begin_46 : decode cX3_begin 46 = .ok (.aload_n 0, 1) := by decide +kernel
theorem dX3_begin_47 : decode cX3_begin 47 = .ok (.aload_n 2, 1) := by decide +kernel
theorem dX3_begin_48 : decode cX3_begin 48 = .ok (.invokevirtual 105, 3) := by decide +kernel
theorem dX3_begin_51 : decode cX3_begin 51 = .ok (.aload_n 2, 1) := by decide +kernel
theorem dX3_begin_52 : decode cX3_begin 52 = .ok (.getfield 109, 3) := by decide +kernel
theorem dX3_begin_55 : decode cX3_begin 55 = .ok (.invokestatic 112, 3) := by decide +kernel
theorem dX3_begin_58 : decode cX3_begin 58 = .ok (.lastore, 1) := by decide +kernel
theorem dX3_begin_59 : decode cX3_begin 59 = .ok (.aload_n 0, 1) := by decide +kernel
theorem dX3_begin_60 : decode cX3_begin 60 = .ok (.aload_n 2, 1) := by decide +kernel
theorem dX3_begin_61 : decode cX3_begin 61 = .ok (.aload_n 0, 1) := by decide +kernel
theorem dX3_begin_62 : decode cX3_begin 62 = .ok (.getfield 34, 3) := by decide +kernel
theorem dX3_begin_65 : decode cX3_begin 65 = .ok (.iload_n 1, 1) := by decide +kernel
theorem dX3_begin_66 : decode cX3_begin 66 = .ok (.laload, 1) := by decide +kernel
theorem dX3_begin_67 : decode cX3_begin 67 = .ok (.invokevirtual 116, 3) := by decide +kernel
theorem dX3_begin_70 : decode cX3_begin 70 = .ok (.return_, 1) := by decide +kernel
theorem dX3_failsNow_0 : decode cX3_failsNow 0 = .ok (.aload_n 1, 1) := by decide +kernel
theorem dX3_failsNow_1 : decode cX3_failsNow 1 = .ok (.getfield 120, 3) := by decide +kernel
theorem dX3_failsNow_4 : decode cX3_failsNow 4 = .ok (.tableswitch 123 1 9 #[52, 123, 123, 123, 82, 123, 123, 102, 102], 52) := by decide +kernel
theorem dX3_failsNow_56 : decode cX3_failsNow 56 = .ok (.aload_n 0, 1) := by decide +kernel
theorem dX3_failsNow_57 : decode cX3_failsNow 57 = .ok (.getfield 27, 3) := by decide +kernel
theorem dX3_failsNow_60 : decode cX3_failsNow 60 = .ok (.aload_n 1, 1) := by decide +kernel
theorem dX3_failsNow_61 : decode cX3_failsNow 61 = .ok (.getfield 123, 3) := by decide +kernel
theorem dX3_failsNow_64 : decode cX3_failsNow 64 = .ok (.iaload, 1) := by decide +kernel
theorem dX3_failsNow_65 : decode cX3_failsNow 65 = .ok (.aload_n 0, 1) := by decide +kernel
theorem dX3_failsNow_66 : decode cX3_failsNow 66 = .ok (.getfield 11, 3) := by decide +kernel
theorem dX3_failsNow_69 : decode cX3_failsNow 69 = .ok (.aload_n 1, 1) := by decide +kernel
theorem dX3_failsNow_70 : decode cX3_failsNow 70 = .ok (.getfield 123, 3) := by decide +kernel
theorem dX3_failsNow_73 : decode cX3_failsNow 73 = .ok (.aaload, 1) := by decide +kernel
theorem dX3_failsNow_74 : decode cX3_failsNow 74 = .ok (.invokevirtual 126, 3) := by decide +kernel
theorem dX3_failsNow_77 : decode cX3_failsNow 77 = .ok (.if_icmp .lt 7, 3) := by decide +kernel
theorem dX3_failsNow_80 : decode cX3_failsNow 80 = .ok (.iconst 1, 1) := by decide +kernel
theorem dX3_failsNow_81 : decode cX3_failsNow 81 = .ok (.goto 4, 3) := by decide +kernel
theorem dX3_failsNow_84 : decode cX3_failsNow 84 = .ok (.iconst 0, 1) := by decide +kernel
theorem dX3_failsNow_85 : decode cX3_failsNow 85 = .ok (.ireturn, 1) := by decide +kernel
theorem dX3_failsNow_86 : decode cX3_failsNow 86 = .ok (.aload_n 0, 1) := by decide +kernel
theorem dX3_failsNow_87 : decode cX3_failsNow 87 = .ok (.getfield 34, 3) := by decide +kernel
theorem dX3_failsNow_90 : decode cX3_failsNow 90 = .ok (.aload_n 1, 1) := by decide +kernel
theorem dX3_failsNow_91 : decode cX3_failsNow 91 = .ok (.getfield 127, 3) := by decide +kernel
theorem dX3_failsNow_94 : decode cX3_failsNow 94 = .ok (.laload, 1) := by decide +kernel
theorem dX3_failsNow_95 : decode cX3_failsNow 95 = .ok (.lconst 0, 1) := by decide +kernel
theorem dX3_failsNow_96 : decode cX3_failsNow 96 = .ok (.lcmp, 1) := by decide +kernel
theorem dX3_failsNow_97 : decode cX3_failsNow 97 = .ok (.ifCond .ne 7, 3) := by decide +kernel
theorem dX3_failsNow_100 : decode cX3_failsNow 100 = .ok (.iconst 1, 1) := by decide +kernel
theorem dX3_failsNow_101 : decode cX3_failsNow 101 = .ok (.goto 4, 3) := by decide +kernel
theorem dX3_failsNow_104 : decode cX3_failsNow 104 = .ok (.iconst 0, 1) := by decide +kernel
theorem dX3_failsNow_105 : decode cX3_failsNow 105 = .ok (.ireturn, 1) := by decide +kernel
theorem dX3_failsNow_106 : decode cX3_failsNow 106 = .ok (.aload_n 0, 1) := by decide +kernel
theorem dX3_failsNow_107 : decode cX3_failsNow 107 = .ok (.getfield 34, 3) := by decide +kernel
theorem dX3_failsNow_110 : decode cX3_failsNow 110 = .ok (.aload_n 1, 1) := by decide +kernel
theorem dX3_failsNow_111 : decode cX3_failsNow 111 = .ok (.getfield 130, 3) := by decide +kernel
theorem dX3_failsNow_114 : decode cX3_failsNow 114 = .ok (.laload, 1) := by decide +kernel
theorem dX3_failsNow_115 : decode cX3_failsNow 115 = .ok (.invokestatic 133, 3) := by decide +kernel
theorem dX3_failsNow_118 : decode cX3_failsNow 118 = .ok (.ifCond .ne 7, 3) := by decide +kernel
theorem dX3_failsNow_121 : decode cX3_failsNow 121 = .ok (.iconst 1, 1) := by decide +kernel
theorem dX3_failsNow_122 : decode cX3_failsNow 122 = .ok (.goto 4, 3) := by decide +kernel
theorem dX3_failsNow_125 : decode cX3_failsNow 125 = .ok (.iconst 0, 1) := by decide +kernel
theorem dX3_failsNow_126 : decode cX3_failsNow 126 = .ok (.ireturn, 1) := by decide +kernel
theorem dX3_failsNow_127 : decode cX3_failsNow 127 = .ok (.iconst 0, 1) := by decide +kernel
theorem dX3_failsNow_128 : decode cX3_failsNow 128 = .ok (.ireturn, 1) := by decide +kernel
theorem dX3_result_0 : decode cX3_result 0 = .ok (.aload_n 1, 1) := by decide +kernel
theorem dX3_result_1 : decode cX3_result 1 = .ok (.getfield 130, 3) := by decide +kernel
theorem dX3_result_4 : decode cX3_result 4 = .ok (.bipush (-2), 2) := by decide +kernel
theorem dX3_result_6 : decode cX3_result 6 = .ok (.if_icmp .ne 7, 3) := by decide +kernel
theorem dX3_result_9 : decode cX3_result 9 = .ok (.lconst 0, 1) := by decide +kernel
theorem dX3_result_10 : decode cX3_result 10 = .ok (.goto 12, 3) := by decide +kernel
theorem dX3_result_13 : decode cX3_result 13 = .ok (.aload_n 0, 1) := by decide +kernel
theorem dX3_result_14 : decode cX3_result 14 = .ok (.getfield 34, 3) := by decide +kernel
theorem dX3_result_17 : decode cX3_result 17 = .ok (.aload_n 1, 1) := by decide +kernel
theorem dX3_result_18 : decode cX3_result 18 = .ok (.getfield 130, 3) := by decide +kernel
theorem dX3_result_21 : decode cX3_result 21 = .ok (.laload, 1) := by decide +kernel
theorem dX3_result_22 : decode cX3_result 22 = .ok (.lstore_n 2, 1) := by decide +kernel
theorem dX3_result_23 : decode cX3_result 23 = .ok (.aload_n 1, 1) := by decide +kernel
theorem dX3_result_24 : decode cX3_result 24 = .ok (.getfield 127, 3) := by decide +kernel
theorem dX3_result_27 : decode cX3_result 27 = .ok (.bipush (-2), 2) := by decide +kernel
theorem dX3_result_29 : decode cX3_result 29 = .ok (.if_icmp .ne 7, 3) := by decide +kernel
theorem dX3_result_32 : decode cX3_result 32 = .ok (.lconst 0, 1) := by decide +kernel
theorem dX3_result_33 : decode cX3_result 33 = .ok (.goto 12, 3) := by decide +kernel
theorem dX3_result_36 : decode cX3_result 36 = .ok (.aload_n 0, 1) := by decide +kernel
theorem dX3_result_37 : decode cX3_result 37 = .ok (.getfield 34, 3) := by decide +kernel
theorem dX3_result_40 : decode cX3_result 40 = .ok (.aload_n 1, 1) := by decide +kernel
theorem dX3_result_41 : decode cX3_result 41 = .ok (.getfield 127, 3) := by decide +kernel
theorem dX3_result_44 : decode cX3_result 44 = .ok (.laload, 1) := by decide +kernel
theorem dX3_result_45 : decode cX3_result 45 = .ok (.lstore 4, 2) := by decide +kernel
theorem dX3_result_47 : decode cX3_result 47 = .ok (.aload_n 1, 1) := by decide +kernel
theorem dX3_result_48 : decode cX3_result 48 = .ok (.getfield 120, 3) := by decide +kernel
theorem dX3_result_51 : decode cX3_result 51 = .ok (.tableswitch 170 0 9 #[53, 61, 83, 88, 93, 98, 114, 127, 148, 167], 53) := by decide +kernel
theorem dX3_result_104 : decode cX3_result 104 = .ok (.aload_n 1, 1) := by decide +kernel
theorem dX3_result_105 : decode cX3_result 105 = .ok (.getfield 137, 3) := by decide +kernel
theorem dX3_result_108 : decode cX3_result 108 = .ok (.getfield 141, 3) := by decide +kernel
theorem dX3_result_111 : decode cX3_result 111 = .ok (.lreturn, 1) := by decide +kernel
theorem dX3_result_112 : decode cX3_result 112 = .ok (.aload_n 0, 1) := by decide +kernel
theorem dX3_result_113 : decode cX3_result 113 = .ok (.getfield 11, 3) := by decide +kernel
theorem dX3_result_116 : decode cX3_result 116 = .ok (.aload_n 1, 1) := by decide +kernel
theorem dX3_result_117 : decode cX3_result 117 = .ok (.getfield 123, 3) := by decide +kernel
theorem dX3_result_120 : decode cX3_result 120 = .ok (.aaload, 1) := by decide +kernel
theorem dX3_result_121 : decode cX3_result 121 = .ok (.aload_n 0, 1) := by decide +kernel
theorem dX3_result_122 : decode cX3_result 122 = .ok (.getfield 27, 3) := by decide +kernel
theorem dX3_result_125 : decode cX3_result 125 = .ok (.aload_n 1, 1) := by decide +kernel
theorem dX3_result_126 : decode cX3_result 126 = .ok (.getfield 123, 3) := by decide +kernel
theorem dX3_result_129 : decode cX3_result 129 = .ok (.iaload, 1) := by decide +kernel
theorem dX3_result_130 : decode cX3_result 130 = .ok (.invokevirtual 147, 3) := by decide +kernel
theorem dX3_result_133 : decode cX3_result 133 = .ok (.lreturn, 1) := by decide +kernel
theorem dX3_result_134 : decode cX3_result 134 = .ok (.lload_n 2, 1) := by decide +kernel
theorem dX3_result_135 : decode cX3_result 135 = .ok (.lload 4, 2) := by decide +kernel
theorem dX3_result_137 : decode cX3_result 137 = .ok (.ladd, 1) := by decide +kernel
theorem dX3_result_138 : decode cX3_result 138 = .ok (.lreturn, 1) := by decide +kernel
theorem dX3_result_139 : decode cX3_result 139 = .ok (.lload_n 2, 1) := by decide +kernel
theorem dX3_result_140 : decode cX3_result 140 = .ok (.lload 4, 2) := by decide +kernel
theorem dX3_result_142 : decode cX3_result 142 = .ok (.lsub, 1) := by decide +kernel
theorem dX3_result_143 : decode cX3_result 143 = .ok (.lreturn, 1) := by decide +kernel
theorem dX3_result_144 : decode cX3_result 144 = .ok (.lload_n 2, 1) := by decide +kernel
theorem dX3_result_145 : decode cX3_result 145 = .ok (.lload 4, 2) := by decide +kernel
theorem dX3_result_147 : decode cX3_result 147 = .ok (.lmul, 1) := by decide +kernel
theorem dX3_result_148 : decode cX3_result 148 = .ok (.lreturn, 1) := by decide +kernel
theorem dX3_result_149 : decode cX3_result 149 = .ok (.lload 4, 2) := by decide +kernel
theorem dX3_result_151 : decode cX3_result 151 = .ok (.lconst 0, 1) := by decide +kernel
theorem dX3_result_152 : decode cX3_result 152 = .ok (.lcmp, 1) := by decide +kernel
theorem dX3_result_153 : decode cX3_result 153 = .ok (.ifCond .ne 7, 3) := by decide +kernel
theorem dX3_result_156 : decode cX3_result 156 = .ok (.lconst 0, 1) := by decide +kernel
theorem dX3_result_157 : decode cX3_result 157 = .ok (.goto 7, 3) := by decide +kernel
theorem dX3_result_160 : decode cX3_result 160 = .ok (.lload_n 2, 1) := by decide +kernel
theorem dX3_result_161 : decode cX3_result 161 = .ok (.lload 4, 2) := by decide +kernel
theorem dX3_result_163 : decode cX3_result 163 = .ok (.ldiv, 1) := by decide +kernel
theorem dX3_result_164 : decode cX3_result 164 = .ok (.lreturn, 1) := by decide +kernel
theorem dX3_result_165 : decode cX3_result 165 = .ok (.lload_n 2, 1) := by decide +kernel
theorem dX3_result_166 : decode cX3_result 166 = .ok (.lload 4, 2) := by decide +kernel
theorem dX3_result_168 : decode cX3_result 168 = .ok (.lcmp, 1) := by decide +kernel
theorem dX3_result_169 : decode cX3_result 169 = .ok (.ifCond .ge 7, 3) := by decide +kernel
theorem dX3_result_172 : decode cX3_result 172 = .ok (.lconst 1, 1) := by decide +kernel
theorem dX3_result_173 : decode cX3_result 173 = .ok (.goto 4, 3) := by decide +kernel
theorem dX3_result_176 : decode cX3_result 176 = .ok (.lconst 0, 1) := by decide +kernel
theorem dX3_result_177 : decode cX3_result 177 = .ok (.lreturn, 1) := by decide +kernel
theorem dX3_result_178 : decode cX3_result 178 = .ok (.lload_n 2, 1) := by decide +kernel
theorem dX3_result_179 : decode cX3_result 179 = .ok (.lconst 0, 1) := by decide +kernel
theorem dX3_result_180 : decode cX3_result 180 = .ok (.lcmp, 1) := by decide +kernel
theorem dX3_result_181 : decode cX3_result 181 = .ok (.ifCond .eq 8, 3) := by decide +kernel
theorem dX3_result_184 : decode cX3_result 184 = .ok (.lload 4, 2) := by decide +kernel
theorem dX3_result_186 : decode cX3_result 186 = .ok (.goto 12, 3) := by decide +kernel
theorem dX3_result_189 : decode cX3_result 189 = .ok (.aload_n 0, 1) := by decide +kernel
theorem dX3_result_190 : decode cX3_result 190 = .ok (.getfield 34, 3) := by decide +kernel
theorem dX3_result_193 : decode cX3_result 193 = .ok (.aload_n 1, 1) := by decide +kernel
theorem dX3_result_194 : decode cX3_result 194 = .ok (.getfield 150, 3) := by decide +kernel
theorem dX3_result_197 : decode cX3_result 197 = .ok (.laload, 1) := by decide +kernel
theorem dX3_result_198 : decode cX3_result 198 = .ok (.lreturn, 1) := by decide +kernel
theorem dX3_result_199 : decode cX3_result 199 = .ok (.lload_n 2, 1) := by decide +kernel
theorem dX3_result_200 : decode cX3_result 200 = .ok (.invokestatic 133, 3) := by decide +kernel
theorem dX3_result_203 : decode cX3_result 203 = .ok (.ifCond .eq 13, 3) := by decide +kernel
theorem dX3_result_206 : decode cX3_result 206 = .ok (.aload_n 0, 1) := by decide +kernel
theorem dX3_result_207 : decode cX3_result 207 = .ok (.getfield 24, 3) := by decide +kernel
theorem dX3_result_210 : decode cX3_result 210 = .ok (.lload_n 2, 1) := by decide +kernel
theorem dX3_result_211 : decode cX3_result 211 = .ok (.l2i, 1) := by decide +kernel
theorem dX3_result_212 : decode cX3_result 212 = .ok (.laload, 1) := by decide +kernel
theorem dX3_result_213 : decode cX3_result 213 = .ok (.goto 4, 3) := by decide +kernel
theorem dX3_result_216 : decode cX3_result 216 = .ok (.lconst 0, 1) := by decide +kernel
theorem dX3_result_217 : decode cX3_result 217 = .ok (.lreturn, 1) := by decide +kernel
theorem dX3_result_218 : decode cX3_result 218 = .ok (.lload 4, 2) := by decide +kernel
theorem dX3_result_220 : decode cX3_result 220 = .ok (.lreturn, 1) := by decide +kernel
theorem dX3_result_221 : decode cX3_result 221 = .ok (.lload_n 2, 1) := by decide +kernel
theorem dX3_result_222 : decode cX3_result 222 = .ok (.lreturn, 1) := by decide +kernel
theorem dX3_passOutside_0 : decode cX3_passOutside 0 = .ok (.aload_n 1, 1) := by decide +kernel
theorem dX3_passOutside_1 : decode cX3_passOutside 1 = .ok (.getfield 120, 3) := by decide +kernel
theorem dX3_passOutside_4 : decode cX3_passOutside 4 = .ok (.lookupswitch 85 #[(1, 36), (9, 52), (10, 69)], 36) := by decide +kernel
theorem dX3_passOutside_40 : decode cX3_passOutside 40 = .ok (.aload_n 0, 1) := by decide +kernel
theorem dX3_passOutside_41 : decode cX3_passOutside 41 = .ok (.getfield 27, 3) := by decide +kernel
theorem dX3_passOutside_44 : decode cX3_passOutside 44 = .ok (.aload_n 1, 1) := by decide +kernel
theorem dX3_passOutside_45 : decode cX3_passOutside 45 = .ok (.getfield 123, 3) := by decide +kernel
theorem dX3_passOutside_48 : decode cX3_passOutside 48 = .ok (.dup2, 1) := by decide +kernel
theorem dX3_passOutside_49 : decode cX3_passOutside 49 = .ok (.iaload, 1) := by decide +kernel
theorem dX3_passOutside_50 : decode cX3_passOutside 50 = .ok (.iconst 1, 1) := by decide +kernel
theorem dX3_passOutside_51 : decode cX3_passOutside 51 = .ok (.iadd, 1) := by decide +kernel
theorem dX3_passOutside_52 : decode cX3_passOutside 52 = .ok (.iastore, 1) := by decide +kernel
theorem dX3_passOutside_53 : decode cX3_passOutside 53 = .ok (.goto 36, 3) := by decide +kernel
theorem dX3_passOutside_56 : decode cX3_passOutside 56 = .ok (.aload_n 0, 1) := by decide +kernel
theorem dX3_passOutside_57 : decode cX3_passOutside 57 = .ok (.aload_n 0, 1) := by decide +kernel
theorem dX3_passOutside_58 : decode cX3_passOutside 58 = .ok (.getfield 34, 3) := by decide +kernel
theorem dX3_passOutside_61 : decode cX3_passOutside 61 = .ok (.aload_n 1, 1) := by decide +kernel
theorem dX3_passOutside_62 : decode cX3_passOutside 62 = .ok (.getfield 130, 3) := by decide +kernel
theorem dX3_passOutside_65 : decode cX3_passOutside 65 = .ok (.laload, 1) := by decide +kernel
theorem dX3_passOutside_66 : decode cX3_passOutside 66 = .ok (.lload_n 2, 1) := by decide +kernel
theorem dX3_passOutside_67 : decode cX3_passOutside 67 = .ok (.invokevirtual 153, 3) := by decide +kernel
theorem dX3_passOutside_70 : decode cX3_passOutside 70 = .ok (.goto 19, 3) := by decide +kernel
theorem dX3_passOutside_73 : decode cX3_passOutside 73 = .ok (.aload_n 0, 1) := by decide +kernel
theorem dX3_passOutside_74 : decode cX3_passOutside 74 = .ok (.getfield 17, 3) := by decide +kernel
theorem dX3_passOutside_77 : decode cX3_passOutside 77 = .ok (.aload_n 1, 1) := by decide +kernel
theorem dX3_passOutside_78 : decode cX3_passOutside 78 = .ok (.getfield 123, 3) := by decide +kernel
theorem dX3_passOutside_81 : decode cX3_passOutside 81 = .ok (.aaload, 1) := by decide +kernel
theorem dX3_passOutside_82 : decode cX3_passOutside 82 = .ok (.lload_n 2, 1) := by decide +kernel
theorem dX3_passOutside_83 : decode cX3_passOutside 83 = .ok (.invokevirtual 157, 3) := by decide +kernel
theorem dX3_passOutside_86 : decode cX3_passOutside 86 = .ok (.goto 3, 3) := by decide +kernel
theorem dX3_passOutside_89 : decode cX3_passOutside 89 = .ok (.return_, 1) := by decide +kernel
theorem dX3_store_0 : decode cX3_store 0 = .ok (.lload_n 1, 1) := by decide +kernel
theorem dX3_store_1 : decode cX3_store 1 = .ok (.invokestatic 133, 3) := by decide +kernel
theorem dX3_store_4 : decode cX3_store 4 = .ok (.ifCond .eq 11, 3) := by decide +kernel
theorem dX3_store_7 : decode cX3_store 7 = .ok (.aload_n 0, 1) := by decide +kernel
theorem dX3_store_8 : decode cX3_store 8 = .ok (.getfield 24, 3) := by decide +kernel
theorem dX3_store_11 : decode cX3_store 11 = .ok (.lload_n 1, 1) := by decide +kernel
theorem dX3_store_12 : decode cX3_store 12 = .ok (.l2i, 1) := by decide +kernel
theorem dX3_store_13 : decode cX3_store 13 = .ok (.lload_n 3, 1) := by decide +kernel
theorem dX3_store_14 : decode cX3_store 14 = .ok (.lastore, 1) := by decide +kernel
theorem dX3_store_15 : decode cX3_store 15 = .ok (.return_, 1) := by decide +kernel
theorem dX4_init_0 : decode cX4_init 0 = .ok (.aload_n 0, 1) := by decide +kernel
theorem dX4_init_1 : decode cX4_init 1 = .ok (.invokespecial 3, 3) := by decide +kernel
theorem dX4_init_4 : decode cX4_init 4 = .ok (.aload_n 0, 1) := by decide +kernel
theorem dX4_init_5 : decode cX4_init 5 = .ok (.bipush 16, 2) := by decide +kernel
theorem dX4_init_7 : decode cX4_init 7 = .ok (.newarray .int, 2) := by decide +kernel
theorem dX4_init_9 : decode cX4_init 9 = .ok (.putfield 9, 3) := by decide +kernel
theorem dX4_init_12 : decode cX4_init 12 = .ok (.aload_n 0, 1) := by decide +kernel
theorem dX4_init_13 : decode cX4_init 13 = .ok (.aload_n 1, 1) := by decide +kernel
theorem dX4_init_14 : decode cX4_init 14 = .ok (.putfield 15, 3) := by decide +kernel
theorem dX4_init_17 : decode cX4_init 17 = .ok (.aload_n 0, 1) := by decide +kernel
theorem dX4_init_18 : decode cX4_init 18 = .ok (.aload_n 2, 1) := by decide +kernel
theorem dX4_init_19 : decode cX4_init 19 = .ok (.putfield 19, 3) := by decide +kernel
theorem dX4_init_22 : decode cX4_init 22 = .ok (.return_, 1) := by decide +kernel
theorem dX4_between_0 : decode cX4_between 0 = .ok (.aload_n 0, 1) := by decide +kernel
theorem dX4_between_1 : decode cX4_between 1 = .ok (.getfield 15, 3) := by decide +kernel
theorem dX4_between_4 : decode cX4_between 4 = .ok (.iload_n 1, 1) := by decide +kernel
theorem dX4_between_5 : decode cX4_between 5 = .ok (.invokevirtual 23, 3) := by decide +kernel
theorem dX4_between_8 : decode cX4_between 8 = .ok (.astore_n 3, 1) := by decide +kernel
theorem dX4_between_9 : decode cX4_between 9 = .ok (.aload_n 0, 1) := by decide +kernel
theorem dX4_between_10 : decode cX4_between 10 = .ok (.getfield 15, 3) := by decide +kernel
theorem dX4_between_13 : decode cX4_between 13 = .ok (.iload_n 2, 1) := by decide +kernel
theorem dX4_between_14 : decode cX4_between 14 = .ok (.invokevirtual 23, 3) := by decide +kernel
theorem dX4_between_17 : decode cX4_between 17 = .ok (.astore 4, 2) := by decide +kernel
theorem dX4_between_19 : decode cX4_between 19 = .ok (.iconst 0, 1) := by decide +kernel
theorem dX4_between_20 : decode cX4_between 20 = .ok (.istore 5, 2) := by decide +kernel
theorem dX4_between_22 : decode cX4_between 22 = .ok (.aload 4, 2) := by decide +kernel
theorem dX4_between_24 : decode cX4_between 24 = .ok (.iload_n 1, 1) := by decide +kernel
theorem dX4_between_25 : decode cX4_between 25 = .ok (.invokevirtual 29, 3) := by decide +kernel
theorem dX4_between_28 : decode cX4_between 28 = .ok (.ifCond .ne 18, 3) := by decide +kernel
theorem dX4_between_31 : decode cX4_between 31 = .ok (.aload_n 3, 1) := by decide +kernel
theorem dX4_between_32 : decode cX4_between 32 = .ok (.invokevirtual 35, 3) := by decide +kernel
theorem dX4_between_35 : decode cX4_between 35 = .ok (.ifCond .eq 21, 3) := by decide +kernel
theorem dX4_between_38 : decode cX4_between 38 = .ok (.aload 4, 2) := by decide +kernel
theorem dX4_between_40 : decode cX4_between 40 = .ok (.invokevirtual 39, 3) := by decide +kernel
theorem dX4_between_43 : decode cX4_between 43 = .ok (.ifCond .eq 13, 3) := by decide +kernel
theorem dX4_between_46 : decode cX4_between 46 = .ok (.aload_n 0, 1) := by decide +kernel
theorem dX4_between_47 : decode cX4_between 47 = .ok (.getfield 19, 3) := by decide +kernel
theorem dX4_between_50 : decode cX4_between 50 = .ok (.aload_n 3, 1) := by decide +kernel
theorem dX4_between_51 : decode cX4_between 51 = .ok (.invokevirtual 42, 3) := by decide +kernel
theorem dX4_between_54 : decode cX4_between 54 = .ok (.istore 5, 2) := by decide +kernel
theorem dX4_between_56 : decode cX4_between 56 = .ok (.aload_n 0, 1) := by decide +kernel
theorem dX4_between_57 : decode cX4_between 57 = .ok (.aload_n 3, 1) := by decide +kernel
theorem dX4_between_58 : decode cX4_between 58 = .ok (.aload 4, 2) := by decide +kernel
theorem dX4_between_60 : decode cX4_between 60 = .ok (.invokevirtual 48, 3) := by decide +kernel
theorem dX4_between_63 : decode cX4_between 63 = .ok (.ifCond .ne 12, 3) := by decide +kernel
theorem dX4_between_66 : decode cX4_between 66 = .ok (.aload_n 3, 1) := by decide +kernel
theorem dX4_between_67 : decode cX4_between 67 = .ok (.aload 4, 2) := by decide +kernel
theorem dX4_between_69 : decode cX4_between 69 = .ok (.invokestatic 52, 3) := by decide +kernel
theorem dX4_between_72 : decode cX4_between 72 = .ok (.ifCond .eq 11, 3) := by decide +kernel
theorem dX4_between_75 : decode cX4_between 75 = .ok (.iload 5, 2) := by decide +kernel
theorem dX4_between_77 : decode cX4_between 77 = .ok (.iconst 1, 1) := by decide +kernel
theorem dX4_between_78 : decode cX4_between 78 = .ok (.invokestatic 55, 3) := by decide +kernel
theorem dX4_between_81 : decode cX4_between 81 = .ok (.istore 5, 2) := by decide +kernel
theorem dX4_between_83 : decode cX4_between 83 = .ok (.iload 5, 2) := by decide +kernel
theorem dX4_between_85 : decode cX4_between 85 = .ok (.ireturn, 1) := by decide +kernel
theorem dX4_meetInRow_0 : decode cX4_meetInRow 0 = .ok (.aload_n 1, 1) := by decide +kernel
theorem dX4_meetInRow_1 : decode cX4_meetInRow 1 = .ok (.invokevirtual 61, 3) := by decide +kernel
theorem dX4_meetInRow_4 : decode cX4_meetInRow 4 = .ok (.iconst 3, 1) := by decide +kernel
theorem dX4_meetInRow_5 : decode cX4_meetInRow 5 = .ok (.if_icmp .ne 67, 3) := by decide +kernel
theorem dX4_meetInRow_8 : decode cX4_meetInRow 8 = .ok (.aload_n 2, 1) := by decide +kernel
theorem dX4_meetInRow_9 : decode cX4_meetInRow 9 = .ok (.invokevirtual 61, 3) := by decide +kernel
theorem dX4_meetInRow_12 : decode cX4_meetInRow 12 = .ok (.iconst 3, 1) := by decide +kernel
theorem dX4_meetInRow_13 : decode cX4_meetInRow 13 = .ok (.if_icmp .ne 59, 3) := by decide +kernel
theorem dX4_meetInRow_16 : decode cX4_meetInRow 16 = .ok (.aload_n 1, 1) := by decide +kernel
theorem dX4_meetInRow_17 : decode cX4_meetInRow 17 = .ok (.getfield 65, 3) := by decide +kernel
theorem dX4_meetInRow_20 : decode cX4_meetInRow 20 = .ok (.bipush 9, 2) := by decide +kernel
theorem dX4_meetInRow_22 : decode cX4_meetInRow 22 = .ok (.if_icmp .eq 12, 3) := by decide +kernel
theorem dX4_meetInRow_25 : decode cX4_meetInRow 25 = .ok (.aload_n 2, 1) := by decide +kernel
theorem dX4_meetInRow_26 : decode cX4_meetInRow 26 = .ok (.getfield 65, 3) := by decide +kernel
theorem dX4_meetInRow_29 : decode cX4_meetInRow 29 = .ok (.bipush 9, 2) := by decide +kernel
theorem dX4_meetInRow_31 : decode cX4_meetInRow 31 = .ok (.if_icmp .ne 41, 3) := by decide +kernel
theorem dX4_meetInRow_34 : decode cX4_meetInRow 34 = .ok (.aload_n 0, 1) := by decide +kernel
theorem dX4_meetInRow_35 : decode cX4_meetInRow 35 = .ok (.getfield 15, 3) := by decide +kernel
theorem dX4_meetInRow_38 : decode cX4_meetInRow 38 = .ok (.aload_n 1, 1) := by decide +kernel
theorem dX4_meetInRow_39 : decode cX4_meetInRow 39 = .ok (.getfield 69, 3) := by decide +kernel
theorem dX4_meetInRow_42 : decode cX4_meetInRow 42 = .ok (.invokevirtual 23, 3) := by decide +kernel
theorem dX4_meetInRow_45 : decode cX4_meetInRow 45 = .ok (.getfield 72, 3) := by decide +kernel
theorem dX4_meetInRow_48 : decode cX4_meetInRow 48 = .ok (.aload_n 0, 1) := by decide +kernel
theorem dX4_meetInRow_49 : decode cX4_meetInRow 49 = .ok (.getfield 15, 3) := by decide +kernel
theorem dX4_meetInRow_52 : decode cX4_meetInRow 52 = .ok (.aload_n 2, 1) := by decide +kernel
theorem dX4_meetInRow_53 : decode cX4_meetInRow 53 = .ok (.getfield 69, 3) := by decide +kernel
theorem dX4_meetInRow_56 : decode cX4_meetInRow 56 = .ok (.invokevirtual 23, 3) := by decide +kernel
theorem dX4_meetInRow_59 : decode cX4_meetInRow 59 = .ok (.getfield 72, 3) := by decide +kernel
theorem dX4_meetInRow_62 : decode cX4_meetInRow 62 = .ok (.invokevirtual 76, 3) := by decide +kernel
theorem dX4_meetInRow_65 : decode cX4_meetInRow 65 = .ok (.ifCond .eq 7, 3) := by decide +kernel
theorem dX4_meetInRow_68 : decode cX4_meetInRow 68 = .ok (.iconst 1, 1) := by decide +kernel
theorem dX4_meetInRow_69 : decode cX4_meetInRow 69 = .ok (.goto 4, 3) := by decide +kernel
theorem dX4_meetInRow_72 : decode cX4_meetInRow 72 = .ok (.iconst 0, 1) := by decide +kernel
theorem dX4_meetInRow_73 : decode cX4_meetInRow 73 = .ok (.ireturn, 1) := by decide +kernel
theorem dX4_meetAtPort_0 : decode cX4_meetAtPort 0 = .ok (.aload_n 0, 1) := by decide +kernel
theorem dX4_meetAtPort_1 : decode cX4_meetAtPort 1 = .ok (.getfield 82, 3) := by decide +kernel
theorem dX4_meetAtPort_4 : decode cX4_meetAtPort 4 = .ok (.bipush (-2), 2) := by decide +kernel
theorem dX4_meetAtPort_6 : decode cX4_meetAtPort 6 = .ok (.if_icmp .eq 29, 3) := by decide +kernel
theorem dX4_meetAtPort_9 : decode cX4_meetAtPort 9 = .ok (.aload_n 0, 1) := by decide +kernel
theorem dX4_meetAtPort_10 : decode cX4_meetAtPort 10 = .ok (.getfield 82, 3) := by decide +kernel
theorem dX4_meetAtPort_13 : decode cX4_meetAtPort 13 = .ok (.aload_n 1, 1) := by decide +kernel
theorem dX4_meetAtPort_14 : decode cX4_meetAtPort 14 = .ok (.getfield 82, 3) := by decide +kernel
theorem dX4_meetAtPort_17 : decode cX4_meetAtPort 17 = .ok (.if_icmp .ne 18, 3) := by decide +kernel
theorem dX4_meetAtPort_20 : decode cX4_meetAtPort 20 = .ok (.aload_n 0, 1) := by decide +kernel
theorem dX4_meetAtPort_21 : decode cX4_meetAtPort 21 = .ok (.getfield 65, 3) := by decide +kernel
theorem dX4_meetAtPort_24 : decode cX4_meetAtPort 24 = .ok (.aload_n 1, 1) := by decide +kernel
theorem dX4_meetAtPort_25 : decode cX4_meetAtPort 25 = .ok (.getfield 65, 3) := by decide +kernel
theorem dX4_meetAtPort_28 : decode cX4_meetAtPort 28 = .ok (.if_icmp .ne 7, 3) := by decide +kernel
theorem dX4_meetAtPort_31 : decode cX4_meetAtPort 31 = .ok (.iconst 1, 1) := by decide +kernel
theorem dX4_meetAtPort_32 : decode cX4_meetAtPort 32 = .ok (.goto 4, 3) := by decide +kernel
theorem dX4_meetAtPort_35 : decode cX4_meetAtPort 35 = .ok (.iconst 0, 1) := by decide +kernel
theorem dX4_meetAtPort_36 : decode cX4_meetAtPort 36 = .ok (.ireturn, 1) := by decide +kernel
theorem dX4_readyTick_0 : decode cX4_readyTick 0 = .ok (.iconst 0, 1) := by decide +kernel
theorem dX4_readyTick_1 : decode cX4_readyTick 1 = .ok (.istore_n 3, 1) := by decide +kernel
theorem dX4_readyTick_2 : decode cX4_readyTick 2 = .ok (.iconst 0, 1) := by decide +kernel
theorem dX4_readyTick_3 : decode cX4_readyTick 3 = .ok (.istore 4, 2) := by decide +kernel
theorem dX4_readyTick_5 : decode cX4_readyTick 5 = .ok (.iload 4, 2) := by decide +kernel
theorem dX4_readyTick_7 : decode cX4_readyTick 7 = .ok (.iload_n 1, 1) := by decide +kernel
theorem dX4_readyTick_8 : decode cX4_readyTick 8 = .ok (.if_icmp .ge 35, 3) := by decide +kernel
theorem dX4_readyTick_11 : decode cX4_readyTick 11 = .ok (.aload_n 0, 1) := by decide +kernel
theorem dX4_readyTick_12 : decode cX4_readyTick 12 = .ok (.iload 4, 2) := by decide +kernel
theorem dX4_readyTick_14 : decode cX4_readyTick 14 = .ok (.iload_n 1, 1) := by decide +kernel
theorem dX4_readyTick_15 : decode cX4_readyTick 15 = .ok (.invokevirtual 85, 3) := by decide +kernel
theorem dX4_readyTick_18 : decode cX4_readyTick 18 = .ok (.istore 5, 2) := by decide +kernel
theorem dX4_readyTick_20 : decode cX4_readyTick 20 = .ok (.iload 5, 2) := by decide +kernel
theorem dX4_readyTick_22 : decode cX4_readyTick 22 = .ok (.ifCond .le 15, 3) := by decide +kernel
theorem dX4_readyTick_25 : decode cX4_readyTick 25 = .ok (.iload_n 3, 1) := by decide +kernel
theorem dX4_readyTick_26 : decode cX4_readyTick 26 = .ok (.aload_n 2, 1) := by decide +kernel
theorem dX4_readyTick_27 : decode cX4_readyTick 27 = .ok (.iload 4, 2) := by decide +kernel
theorem dX4_readyTick_29 : decode cX4_readyTick 29 = .ok (.iaload, 1) := by decide +kernel
theorem dX4_readyTick_30 : decode cX4_readyTick 30 = .ok (.iload 5, 2) := by decide +kernel
theorem dX4_readyTick_32 : decode cX4_readyTick 32 = .ok (.iadd, 1) := by decide +kernel
theorem dX4_readyTick_33 : decode cX4_readyTick 33 = .ok (.invokestatic 55, 3) := by decide +kernel
theorem dX4_readyTick_36 : decode cX4_readyTick 36 = .ok (.istore_n 3, 1) := by decide +kernel
theorem dX4_readyTick_37 : decode cX4_readyTick 37 = .ok (.iinc 4 1, 3) := by decide +kernel
theorem dX4_readyTick_40 : decode cX4_readyTick 40 = .ok (.goto (-35), 3) := by decide +kernel
theorem dX4_readyTick_43 : decode cX4_readyTick 43 = .ok (.iload_n 3, 1) := by decide +kernel
theorem dX4_readyTick_44 : decode cX4_readyTick 44 = .ok (.ireturn, 1) := by decide +kernel
theorem dX4_tightest_0 : decode cX4_tightest 0 = .ok (.iconst 0, 1) := by decide +kernel
theorem dX4_tightest_1 : decode cX4_tightest 1 = .ok (.istore_n 3, 1) := by decide +kernel
theorem dX4_tightest_2 : decode cX4_tightest 2 = .ok (.iload_n 3, 1) := by decide +kernel
theorem dX4_tightest_3 : decode cX4_tightest 3 = .ok (.iload_n 1, 1) := by decide +kernel
theorem dX4_tightest_4 : decode cX4_tightest 4 = .ok (.if_icmp .ge 36, 3) := by decide +kernel
theorem dX4_tightest_7 : decode cX4_tightest 7 = .ok (.aload_n 0, 1) := by decide +kernel
theorem dX4_tightest_8 : decode cX4_tightest 8 = .ok (.iload_n 3, 1) := by decide +kernel
theorem dX4_tightest_9 : decode cX4_tightest 9 = .ok (.iload_n 1, 1) := by decide +kernel
theorem dX4_tightest_10 : decode cX4_tightest 10 = .ok (.invokevirtual 85, 3) := by decide +kernel
theorem dX4_tightest_13 : decode cX4_tightest 13 = .ok (.istore 4, 2) := by decide +kernel
theorem dX4_tightest_15 : decode cX4_tightest 15 = .ok (.iload 4, 2) := by decide +kernel
theorem dX4_tightest_17 : decode cX4_tightest 17 = .ok (.ifCond .le 17, 3) := by decide +kernel
theorem dX4_tightest_20 : decode cX4_tightest 20 = .ok (.aload_n 2, 1) := by decide +kernel
theorem dX4_tightest_21 : decode cX4_tightest 21 = .ok (.iload_n 3, 1) := by decide +kernel
theorem dX4_tightest_22 : decode cX4_tightest 22 = .ok (.iaload, 1) := by decide +kernel
theorem dX4_tightest_23 : decode cX4_tightest 23 = .ok (.iload 4, 2) := by decide +kernel
theorem dX4_tightest_25 : decode cX4_tightest 25 = .ok (.iadd, 1) := by decide +kernel
theorem dX4_tightest_26 : decode cX4_tightest 26 = .ok (.aload_n 2, 1) := by decide +kernel
theorem dX4_tightest_27 : decode cX4_tightest 27 = .ok (.iload_n 1, 1) := by decide +kernel
theorem dX4_tightest_28 : decode cX4_tightest 28 = .ok (.iaload, 1) := by decide +kernel
theorem dX4_tightest_29 : decode cX4_tightest 29 = .ok (.if_icmp .ne 5, 3) := by decide +kernel
theorem dX4_tightest_32 : decode cX4_tightest 32 = .ok (.iload_n 3, 1) := by decide +kernel
theorem dX4_tightest_33 : decode cX4_tightest 33 = .ok (.ireturn, 1) := by decide +kernel
theorem dX4_tightest_34 : decode cX4_tightest 34 = .ok (.iinc 3 1, 3) := by decide +kernel
theorem dX4_tightest_37 : decode cX4_tightest 37 = .ok (.goto (-35), 3) := by decide +kernel
theorem dX4_tightest_40 : decode cX4_tightest 40 = .ok (.bipush (-2), 2) := by decide +kernel
theorem dX4_tightest_42 : decode cX4_tightest 42 = .ok (.ireturn, 1) := by decide +kernel
theorem dX4_ticksWithAllParts_0 : decode cX4_ticksWithAllParts 0 = .ok (.iconst 0, 1) := by decide +kernel
theorem dX4_ticksWithAllParts_1 : decode cX4_ticksWithAllParts 1 = .ok (.istore_n 1, 1) := by decide +kernel
theorem dX4_ticksWithAllParts_2 : decode cX4_ticksWithAllParts 2 = .ok (.iconst 0, 1) := by decide +kernel
theorem dX4_ticksWithAllParts_3 : decode cX4_ticksWithAllParts 3 = .ok (.istore_n 2, 1) := by decide +kernel
theorem dX4_ticksWithAllParts_4 : decode cX4_ticksWithAllParts 4 = .ok (.iload_n 2, 1) := by decide +kernel
theorem dX4_ticksWithAllParts_5 : decode cX4_ticksWithAllParts 5 = .ok (.aload_n 0, 1) := by decide +kernel
theorem dX4_ticksWithAllParts_6 : decode cX4_ticksWithAllParts 6 = .ok (.getfield 15, 3) := by decide +kernel
theorem dX4_ticksWithAllParts_9 : decode cX4_ticksWithAllParts 9 = .ok (.invokevirtual 88, 3) := by decide +kernel
theorem dX4_ticksWithAllParts_12 : decode cX4_ticksWithAllParts 12 = .ok (.if_icmp .ge 51, 3) := by decide +kernel
theorem dX4_ticksWithAllParts_15 : decode cX4_ticksWithAllParts 15 = .ok (.aload_n 0, 1) := by decide +kernel
theorem dX4_ticksWithAllParts_16 : decode cX4_ticksWithAllParts 16 = .ok (.getfield 9, 3) := by decide +kernel
theorem dX4_ticksWithAllParts_19 : decode cX4_ticksWithAllParts 19 = .ok (.iload_n 2, 1) := by decide +kernel
theorem dX4_ticksWithAllParts_20 : decode cX4_ticksWithAllParts 20 = .ok (.aload_n 0, 1) := by decide +kernel
theorem dX4_ticksWithAllParts_21 : decode cX4_ticksWithAllParts 21 = .ok (.iload_n 2, 1) := by decide +kernel
theorem dX4_ticksWithAllParts_22 : decode cX4_ticksWithAllParts 22 = .ok (.aload_n 0, 1) := by decide +kernel
theorem dX4_ticksWithAllParts_23 : decode cX4_ticksWithAllParts 23 = .ok (.getfield 9, 3) := by decide +kernel
theorem dX4_ticksWithAllParts_26 : decode cX4_ticksWithAllParts 26 = .ok (.invokevirtual 91, 3) := by decide +kernel
theorem dX4_ticksWithAllParts_29 : decode cX4_ticksWithAllParts 29 = .ok (.iastore, 1) := by decide +kernel
theorem dX4_ticksWithAllParts_30 : decode cX4_ticksWithAllParts 30 = .ok (.iload_n 1, 1) := by decide +kernel
theorem dX4_ticksWithAllParts_31 : decode cX4_ticksWithAllParts 31 = .ok (.aload_n 0, 1) := by decide +kernel
theorem dX4_ticksWithAllParts_32 : decode cX4_ticksWithAllParts 32 = .ok (.getfield 9, 3) := by decide +kernel
theorem dX4_ticksWithAllParts_35 : decode cX4_ticksWithAllParts 35 = .ok (.iload_n 2, 1) := by decide +kernel
theorem dX4_ticksWithAllParts_36 : decode cX4_ticksWithAllParts 36 = .ok (.iaload, 1) := by decide +kernel
theorem dX4_ticksWithAllParts_37 : decode cX4_ticksWithAllParts 37 = .ok (.aload_n 0, 1) := by decide +kernel
theorem dX4_ticksWithAllParts_38 : decode cX4_ticksWithAllParts 38 = .ok (.getfield 19, 3) := by decide +kernel
theorem dX4_ticksWithAllParts_41 : decode cX4_ticksWithAllParts 41 = .ok (.aload_n 0, 1) := by decide +kernel
theorem dX4_ticksWithAllParts_42 : decode cX4_ticksWithAllParts 42 = .ok (.getfield 15, 3) := by decide +kernel
theorem dX4_ticksWithAllParts_45 : decode cX4_ticksWithAllParts 45 = .ok (.iload_n 2, 1) := by decide +kernel
theorem dX4_ticksWithAllParts_46 : decode cX4_ticksWithAllParts 46 = .ok (.invokevirtual 23, 3) := by decide +kernel
theorem dX4_ticksWithAllParts_49 : decode cX4_ticksWithAllParts 49 = .ok (.invokevirtual 42, 3) := by decide +kernel
theorem dX4_ticksWithAllParts_52 : decode cX4_ticksWithAllParts 52 = .ok (.iadd, 1) := by decide +kernel
theorem dX4_ticksWithAllParts_53 : decode cX4_ticksWithAllParts 53 = .ok (.invokestatic 55, 3) := by decide +kernel
theorem dX4_ticksWithAllParts_56 : decode cX4_ticksWithAllParts 56 = .ok (.istore_n 1, 1) := by decide +kernel
theorem dX4_ticksWithAllParts_57 : decode cX4_ticksWithAllParts 57 = .ok (.iinc 2 1, 3) := by decide +kernel
theorem dX4_ticksWithAllParts_60 : decode cX4_ticksWithAllParts 60 = .ok (.goto (-56), 3) := by decide +kernel
theorem dX4_ticksWithAllParts_63 : decode cX4_ticksWithAllParts 63 = .ok (.iload_n 1, 1) := by decide +kernel
theorem dX4_ticksWithAllParts_64 : decode cX4_ticksWithAllParts 64 = .ok (.ireturn, 1) := by decide +kernel
theorem dX5_init_0 : decode cX5_init 0 = .ok (.aload_n 0, 1) := by decide +kernel
theorem dX5_init_1 : decode cX5_init 1 = .ok (.invokespecial 3, 3) := by decide +kernel
theorem dX5_init_4 : decode cX5_init 4 = .ok (.aload_n 0, 1) := by decide +kernel
theorem dX5_init_5 : decode cX5_init 5 = .ok (.bipush 16, 2) := by decide +kernel
theorem dX5_init_7 : decode cX5_init 7 = .ok (.newarray .int, 2) := by decide +kernel
theorem dX5_init_9 : decode cX5_init 9 = .ok (.putfield 9, 3) := by decide +kernel
theorem dX5_init_12 : decode cX5_init 12 = .ok (.aload_n 0, 1) := by decide +kernel
theorem dX5_init_13 : decode cX5_init 13 = .ok (.bipush 16, 2) := by decide +kernel
theorem dX5_init_15 : decode cX5_init 15 = .ok (.newarray .int, 2) := by decide +kernel
theorem dX5_init_17 : decode cX5_init 17 = .ok (.putfield 15, 3) := by decide +kernel
theorem dX5_init_20 : decode cX5_init 20 = .ok (.aload_n 0, 1) := by decide +kernel
theorem dX5_init_21 : decode cX5_init 21 = .ok (.bipush 16, 2) := by decide +kernel
theorem dX5_init_23 : decode cX5_init 23 = .ok (.newarray .int, 2) := by decide +kernel
theorem dX5_init_25 : decode cX5_init 25 = .ok (.putfield 18, 3) := by decide +kernel
theorem dX5_init_28 : decode cX5_init 28 = .ok (.aload_n 0, 1) := by decide +kernel
theorem dX5_init_29 : decode cX5_init 29 = .ok (.iconst 0, 1) := by decide +kernel
theorem dX5_init_30 : decode cX5_init 30 = .ok (.putfield 21, 3) := by decide +kernel
theorem dX5_init_33 : decode cX5_init 33 = .ok (.aload_n 0, 1) := by decide +kernel
theorem dX5_init_34 : decode cX5_init 34 = .ok (.aload_n 1, 1) := by decide +kernel
theorem dX5_init_35 : decode cX5_init 35 = .ok (.putfield 25, 3) := by decide +kernel
theorem dX5_init_38 : decode cX5_init 38 = .ok (.aload_n 0, 1) := by decide +kernel
theorem dX5_init_39 : decode cX5_init 39 = .ok (.aload_n 2, 1) := by decide +kernel
theorem dX5_init_40 : decode cX5_init 40 = .ok (.putfield 29, 3) := by decide +kernel
theorem dX5_init_43 : decode cX5_init 43 = .ok (.aload_n 0, 1) := by decide +kernel
theorem dX5_init_44 : decode cX5_init 44 = .ok (.aload_n 3, 1) := by decide +kernel
theorem dX5_init_45 : decode cX5_init 45 = .ok (.putfield 33, 3) := by decide +kernel
theorem dX5_init_48 : decode cX5_init 48 = .ok (.return_, 1) := by decide +kernel
theorem dX5_layActs_0 : decode cX5_layActs 0 = .ok (.aload_n 0, 1) := by decide +kernel
theorem dX5_layActs_1 : decode cX5_layActs 1 = .ok (.iconst 0, 1) := by decide +kernel
theorem dX5_layActs_2 : decode cX5_layActs 2 = .ok (.putfield 21, 3) := by decide +kernel
theorem dX5_layActs_5 : decode cX5_layActs 5 = .ok (.iconst 0, 1) := by decide +kernel
theorem dX5_layActs_6 : decode cX5_layActs 6 = .ok (.istore_n 1, 1) := by decide +kernel
theorem dX5_layActs_7 : decode cX5_layActs 7 = .ok (.iload_n 1, 1) := by decide +kernel
theorem dX5_layActs_8 : decode cX5_layActs 8 = .ok (.aload_n 0, 1) := by decide +kernel
theorem dX5_layActs_9 : decode cX5_layActs 9 = .ok (.getfield 25, 3) := by decide +kernel
theorem dX5_layActs_12 : decode cX5_layActs 12 = .ok (.invokevirtual 37, 3) := by decide +kernel
theorem dX5_layActs_15 : decode cX5_layActs 15 = .ok (.if_icmp .ge 64, 3) := by decide +kernel
theorem dX5_layActs_18 : decode cX5_layActs 18 = .ok (.aload_n 0, 1) := by decide +kernel
theorem dX5_layActs_19 : decode cX5_layActs 19 = .ok (.iload_n 1, 1) := by decide +kernel
theorem dX5_layActs_20 : decode cX5_layActs 20 = .ok (.aload_n 0, 1) := by decide +kernel
theorem dX5_layActs_21 : decode cX5_layActs 21 = .ok (.getfield 33, 3) := by decide +kernel
theorem dX5_layActs_24 : decode cX5_layActs 24 = .ok (.iload_n 1, 1) := by decide +kernel
theorem dX5_layActs_25 : decode cX5_layActs 25 = .ok (.aload_n 0, 1) := by decide +kernel
theorem dX5_layActs_26 : decode cX5_layActs 26 = .ok (.getfield 9, 3) := by decide +kernel
theorem dX5_layActs_29 : decode cX5_layActs 29 = .ok (.invokevirtual 43, 3) := by decide +kernel
theorem dX5_layActs_32 : decode cX5_layActs 32 = .ok (.invokevirtual 49, 3) := by decide +kernel
theorem dX5_layActs_35 : decode cX5_layActs 35 = .ok (.aload_n 0, 1) := by decide +kernel
theorem dX5_layActs_36 : decode cX5_layActs 36 = .ok (.aload_n 0, 1) := by decide +kernel
theorem dX5_layActs_37 : decode cX5_layActs 37 = .ok (.getfield 21, 3) := by decide +kernel
theorem dX5_layActs_40 : decode cX5_layActs 40 = .ok (.aload_n 0, 1) := by decide +kernel
theorem dX5_layActs_41 : decode cX5_layActs 41 = .ok (.getfield 9, 3) := by decide +kernel
theorem dX5_layActs_44 : decode cX5_layActs 44 = .ok (.iload_n 1, 1) := by decide +kernel
theorem dX5_layActs_45 : decode cX5_layActs 45 = .ok (.iaload, 1) := by decide +kernel
theorem dX5_layActs_46 : decode cX5_layActs 46 = .ok (.aload_n 0, 1) := by decide +kernel
theorem dX5_layActs_47 : decode cX5_layActs 47 = .ok (.getfield 29, 3) := by decide +kernel
theorem dX5_layActs_50 : decode cX5_layActs 50 = .ok (.aload_n 0, 1) := by decide +kernel
theorem dX5_layActs_51 : decode cX5_layActs 51 = .ok (.getfield 25, 3) := by decide +kernel
theorem dX5_layActs_54 : decode cX5_layActs 54 = .ok (.iload_n 1, 1) := by decide +kernel
theorem dX5_layActs_55 : decode cX5_layActs 55 = .ok (.invokevirtual 53, 3) := by decide +kernel
theorem dX5_layActs_58 : decode cX5_layActs 58 = .ok (.invokevirtual 57, 3) := by decide +kernel
theorem dX5_layActs_61 : decode cX5_layActs 61 = .ok (.iadd, 1) := by decide +kernel
theorem dX5_layActs_62 : decode cX5_layActs 62 = .ok (.invokestatic 63, 3) := by decide +kernel
theorem dX5_layActs_65 : decode cX5_layActs 65 = .ok (.putfield 21, 3) := by decide +kernel
theorem dX5_layActs_68 : decode cX5_layActs 68 = .ok (.aload_n 0, 1) := by decide +kernel
theorem dX5_layActs_69 : decode cX5_layActs 69 = .ok (.iload_n 1, 1) := by decide +kernel
theorem dX5_layActs_70 : decode cX5_layActs 70 = .ok (.invokevirtual 69, 3) := by decide +kernel
theorem dX5_layActs_73 : decode cX5_layActs 73 = .ok (.iinc 1 1, 3) := by decide +kernel
theorem dX5_layActs_76 : decode cX5_layActs 76 = .ok (.goto (-69), 3) := by decide +kernel
theorem dX5_layActs_79 : decode cX5_layActs 79 = .ok (.return_, 1) := by decide +kernel
theorem dX5_seat_0 : decode cX5_seat 0 = .ok (.aload_n 0, 1) := by decide +kernel
theorem dX5_seat_1 : decode cX5_seat 1 = .ok (.getfield 25, 3) := by decide +kernel
theorem dX5_seat_4 : decode cX5_seat 4 = .ok (.iload_n 1, 1) := by decide +kernel
theorem dX5_seat_5 : decode cX5_seat 5 = .ok (.invokevirtual 53, 3) := by decide +kernel
theorem dX5_seat_8 : decode cX5_seat 8 = .ok (.invokevirtual 73, 3) := by decide +kernel
theorem dX5_seat_11 : decode cX5_seat 11 = .ok (.istore_n 3, 1) := by decide +kernel
theorem dX5_seat_12 : decode cX5_seat 12 = .ok (.aload_n 0, 1) := by decide +kernel
theorem dX5_seat_13 : decode cX5_seat 13 = .ok (.getfield 9, 3) := by decide +kernel
theorem dX5_seat_16 : decode cX5_seat 16 = .ok (.iload_n 1, 1) := by decide +kernel
theorem dX5_seat_17 : decode cX5_seat 17 = .ok (.iload_n 2, 1) := by decide +kernel
theorem dX5_seat_18 : decode cX5_seat 18 = .ok (.iastore, 1) := by decide +kernel
theorem dX5_seat_19 : decode cX5_seat 19 = .ok (.aload_n 0, 1) := by decide +kernel
theorem dX5_seat_20 : decode cX5_seat 20 = .ok (.getfield 15, 3) := by decide +kernel
theorem dX5_seat_23 : decode cX5_seat 23 = .ok (.iload_n 1, 1) := by decide +kernel
theorem dX5_seat_24 : decode cX5_seat 24 = .ok (.bipush (-2), 2) := by decide +kernel
theorem dX5_seat_26 : decode cX5_seat 26 = .ok (.iastore, 1) := by decide +kernel
theorem dX5_seat_27 : decode cX5_seat 27 = .ok (.iload_n 3, 1) := by decide +kernel
theorem dX5_seat_28 : decode cX5_seat 28 = .ok (.bipush (-2), 2) := by decide +kernel
theorem dX5_seat_30 : decode cX5_seat 30 = .ok (.if_icmp .ne 4, 3) := by decide +kernel
theorem dX5_seat_33 : decode cX5_seat 33 = .ok (.return_, 1) := by decide +kernel
theorem dX5_seat_34 : decode cX5_seat 34 = .ok (.iload_n 2, 1) := by decide +kernel
theorem dX5_seat_35 : decode cX5_seat 35 = .ok (.aload_n 0, 1) := by decide +kernel
theorem dX5_seat_36 : decode cX5_seat 36 = .ok (.getfield 21, 3) := by decide +kernel
theorem dX5_seat_39 : decode cX5_seat 39 = .ok (.invokestatic 63, 3) := by decide +kernel
theorem dX5_seat_42 : decode cX5_seat 42 = .ok (.istore 4, 2) := by decide +kernel
theorem dX5_seat_44 : decode cX5_seat 44 = .ok (.iload_n 2, 1) := by decide +kernel
theorem dX5_seat_45 : decode cX5_seat 45 = .ok (.istore 5, 2) := by decide +kernel
theorem dX5_seat_47 : decode cX5_seat 47 = .ok (.iload 5, 2) := by decide +kernel
theorem dX5_seat_49 : decode cX5_seat 49 = .ok (.iload 4, 2) := by decide +kernel
theorem dX5_seat_51 : decode cX5_seat 51 = .ok (.if_icmp .gt 42, 3) := by decide +kernel
theorem dX5_seat_54 : decode cX5_seat 54 = .ok (.aload_n 0, 1) := by decide +kernel
theorem dX5_seat_55 : decode cX5_seat 55 = .ok (.getfield 15, 3) := by decide +kernel
theorem dX5_seat_58 : decode cX5_seat 58 = .ok (.iload_n 1, 1) := by decide +kernel
theorem dX5_seat_59 : decode cX5_seat 59 = .ok (.iaload, 1) := by decide +kernel
theorem dX5_seat_60 : decode cX5_seat 60 = .ok (.bipush (-2), 2) := by decide +kernel
theorem dX5_seat_62 : decode cX5_seat 62 = .ok (.if_icmp .ne 31, 3) := by decide +kernel
theorem dX5_seat_65 : decode cX5_seat 65 = .ok (.aload_n 0, 1) := by decide +kernel
theorem dX5_seat_66 : decode cX5_seat 66 = .ok (.getfield 9, 3) := by decide +kernel
theorem dX5_seat_69 : decode cX5_seat 69 = .ok (.iload_n 1, 1) := by decide +kernel
theorem dX5_seat_70 : decode cX5_seat 70 = .ok (.iload 5, 2) := by decide +kernel
theorem dX5_seat_72 : decode cX5_seat 72 = .ok (.iastore, 1) := by decide +kernel
theorem dX5_seat_73 : decode cX5_seat 73 = .ok (.aload_n 0, 1) := by decide +kernel
theorem dX5_seat_74 : decode cX5_seat 74 = .ok (.getfield 15, 3) := by decide +kernel
theorem dX5_seat_77 : decode cX5_seat 77 = .ok (.iload_n 1, 1) := by decide +kernel
theorem dX5_seat_78 : decode cX5_seat 78 = .ok (.aload_n 0, 1) := by decide +kernel
theorem dX5_seat_79 : decode cX5_seat 79 = .ok (.iload_n 1, 1) := by decide +kernel
theorem dX5_seat_80 : decode cX5_seat 80 = .ok (.iload_n 3, 1) := by decide +kernel
theorem dX5_seat_81 : decode cX5_seat 81 = .ok (.iload 5, 2) := by decide +kernel
theorem dX5_seat_83 : decode cX5_seat 83 = .ok (.invokevirtual 78, 3) := by decide +kernel
theorem dX5_seat_86 : decode cX5_seat 86 = .ok (.iastore, 1) := by decide +kernel
theorem dX5_seat_87 : decode cX5_seat 87 = .ok (.iinc 5 1, 3) := by decide +kernel
theorem dX5_seat_90 : decode cX5_seat 90 = .ok (.goto (-43), 3) := by decide +kernel
theorem dX5_seat_93 : decode cX5_seat 93 = .ok (.return_, 1) := by decide +kernel
theorem dX5_freePart_0 : decode cX5_freePart 0 = .ok (.iconst 0, 1) := by decide +kernel
theorem dX5_freePart_1 : decode cX5_freePart 1 = .ok (.istore 4, 2) := by decide +kernel
theorem dX5_freePart_3 : decode cX5_freePart 3 = .ok (.iload 4, 2) := by decide +kernel
theorem dX5_freePart_5 : decode cX5_freePart 5 = .ok (.aload_n 0, 1) := by decide +kernel
theorem dX5_freePart_6 : decode cX5_freePart 6 = .ok (.getfield 29, 3) := by decide +kernel
theorem dX5_freePart_9 : decode cX5_freePart 9 = .ok (.getfield 82, 3) := by decide +kernel
theorem dX5_freePart_12 : decode cX5_freePart 12 = .ok (.iload_n 2, 1) := by decide +kernel
theorem dX5_freePart_13 : decode cX5_freePart 13 = .ok (.iaload, 1) := by decide +kernel
theorem dX5_freePart_14 : decode cX5_freePart 14 = .ok (.if_icmp .ge 24, 3) := by decide +kernel
theorem dX5_freePart_17 : decode cX5_freePart 17 = .ok (.aload_n 0, 1) := by decide +kernel
theorem dX5_freePart_18 : decode cX5_freePart 18 = .ok (.iload_n 1, 1) := by decide +kernel
theorem dX5_freePart_19 : decode cX5_freePart 19 = .ok (.iload_n 2, 1) := by decide +kernel
theorem dX5_freePart_20 : decode cX5_freePart 20 = .ok (.iload 4, 2) := by decide +kernel
theorem dX5_freePart_22 : decode cX5_freePart 22 = .ok (.iload_n 3, 1) := by decide +kernel
theorem dX5_freePart_23 : decode cX5_freePart 23 = .ok (.invokevirtual 85, 3) := by decide +kernel
theorem dX5_freePart_26 : decode cX5_freePart 26 = .ok (.ifCond .eq 6, 3) := by decide +kernel
theorem dX5_freePart_29 : decode cX5_freePart 29 = .ok (.iload 4, 2) := by decide +kernel
theorem dX5_freePart_31 : decode cX5_freePart 31 = .ok (.ireturn, 1) := by decide +kernel
theorem dX5_freePart_32 : decode cX5_freePart 32 = .ok (.iinc 4 1, 3) := by decide +kernel
theorem dX5_freePart_35 : decode cX5_freePart 35 = .ok (.goto (-32), 3) := by decide +kernel
theorem dX5_freePart_38 : decode cX5_freePart 38 = .ok (.bipush (-2), 2) := by decide +kernel
theorem dX5_freePart_40 : decode cX5_freePart 40 = .ok (.ireturn, 1) := by decide +kernel
theorem dX5_isFree_0 : decode cX5_isFree 0 = .ok (.aload_n 0, 1) := by decide +kernel
theorem dX5_isFree_1 : decode cX5_isFree 1 = .ok (.getfield 29, 3) := by decide +kernel
theorem dX5_isFree_4 : decode cX5_isFree 4 = .ok (.iload_n 2, 1) := by decide +kernel
theorem dX5_isFree_5 : decode cX5_isFree 5 = .ok (.invokevirtual 89, 3) := by decide +kernel
theorem dX5_isFree_8 : decode cX5_isFree 8 = .ok (.istore 5, 2) := by decide +kernel
theorem dX5_isFree_10 : decode cX5_isFree 10 = .ok (.iconst 0, 1) := by decide +kernel
theorem dX5_isFree_11 : decode cX5_isFree 11 = .ok (.istore 6, 2) := by decide +kernel
theorem dX5_isFree_13 : decode cX5_isFree 13 = .ok (.iload 6, 2) := by decide +kernel
theorem dX5_isFree_15 : decode cX5_isFree 15 = .ok (.iload_n 1, 1) := by decide +kernel
theorem dX5_isFree_16 : decode cX5_isFree 16 = .ok (.if_icmp .ge 80, 3) := by decide +kernel
theorem dX5_isFree_19 : decode cX5_isFree 19 = .ok (.aload_n 0, 1) := by decide +kernel
theorem dX5_isFree_20 : decode cX5_isFree 20 = .ok (.getfield 15, 3) := by decide +kernel
theorem dX5_isFree_23 : decode cX5_isFree 23 = .ok (.iload 6, 2) := by decide +kernel
theorem dX5_isFree_25 : decode cX5_isFree 25 = .ok (.iaload, 1) := by decide +kernel
theorem dX5_isFree_26 : decode cX5_isFree 26 = .ok (.iload_n 3, 1) := by decide +kernel
theorem dX5_isFree_27 : decode cX5_isFree 27 = .ok (.if_icmp .ne 23, 3) := by decide +kernel
theorem dX5_isFree_30 : decode cX5_isFree 30 = .ok (.aload_n 0, 1) := by decide +kernel
theorem dX5_isFree_31 : decode cX5_isFree 31 = .ok (.getfield 25, 3) := by decide +kernel
theorem dX5_isFree_34 : decode cX5_isFree 34 = .ok (.iload 6, 2) := by decide +kernel
theorem dX5_isFree_36 : decode cX5_isFree 36 = .ok (.invokevirtual 53, 3) := by decide +kernel
theorem dX5_isFree_39 : decode cX5_isFree 39 = .ok (.invokevirtual 73, 3) := by decide +kernel
theorem dX5_isFree_42 : decode cX5_isFree 42 = .ok (.iload_n 2, 1) := by decide +kernel
theorem dX5_isFree_43 : decode cX5_isFree 43 = .ok (.if_icmp .ne 7, 3) := by decide +kernel
theorem dX5_isFree_46 : decode cX5_isFree 46 = .ok (.iconst 1, 1) := by decide +kernel
theorem dX5_isFree_47 : decode cX5_isFree 47 = .ok (.goto 4, 3) := by decide +kernel
theorem dX5_isFree_50 : decode cX5_isFree 50 = .ok (.iconst 0, 1) := by decide +kernel
theorem dX5_isFree_51 : decode cX5_isFree 51 = .ok (.istore 7, 2) := by decide +kernel
theorem dX5_isFree_53 : decode cX5_isFree 53 = .ok (.iload 7, 2) := by decide +kernel
theorem dX5_isFree_55 : decode cX5_isFree 55 = .ok (.ifCond .eq 35, 3) := by decide +kernel
theorem dX5_isFree_58 : decode cX5_isFree 58 = .ok (.aload_n 0, 1) := by decide +kernel
theorem dX5_isFree_59 : decode cX5_isFree 59 = .ok (.getfield 9, 3) := by decide +kernel
theorem dX5_isFree_62 : decode cX5_isFree 62 = .ok (.iload 6, 2) := by decide +kernel
theorem dX5_isFree_64 : decode cX5_isFree 64 = .ok (.iaload, 1) := by decide +kernel
theorem dX5_isFree_65 : decode cX5_isFree 65 = .ok (.iload 4, 2) := by decide +kernel
theorem dX5_isFree_67 : decode cX5_isFree 67 = .ok (.iload 5, 2) := by decide +kernel
theorem dX5_isFree_69 : decode cX5_isFree 69 = .ok (.iadd, 1) := by decide +kernel
theorem dX5_isFree_70 : decode cX5_isFree 70 = .ok (.if_icmp .ge 20, 3) := by decide +kernel
theorem dX5_isFree_73 : decode cX5_isFree 73 = .ok (.iload 4, 2) := by decide +kernel
theorem dX5_isFree_75 : decode cX5_isFree 75 = .ok (.aload_n 0, 1) := by decide +kernel
theorem dX5_isFree_76 : decode cX5_isFree 76 = .ok (.getfield 9, 3) := by decide +kernel
theorem dX5_isFree_79 : decode cX5_isFree 79 = .ok (.iload 6, 2) := by decide +kernel
theorem dX5_isFree_81 : decode cX5_isFree 81 = .ok (.iaload, 1) := by decide +kernel
theorem dX5_isFree_82 : decode cX5_isFree 82 = .ok (.iload 5, 2) := by decide +kernel
theorem dX5_isFree_84 : decode cX5_isFree 84 = .ok (.iadd, 1) := by decide +kernel
theorem dX5_isFree_85 : decode cX5_isFree 85 = .ok (.if_icmp .ge 5, 3) := by decide +kernel
theorem dX5_isFree_88 : decode cX5_isFree 88 = .ok (.iconst 0, 1) := by decide +kernel
theorem dX5_isFree_89 : decode cX5_isFree 89 = .ok (.ireturn, 1) := by decide +kernel
theorem dX5_isFree_90 : decode cX5_isFree 90 = .ok (.iinc 6 1, 3) := by decide +kernel
theorem dX5_isFree_93 : decode cX5_isFree 93 = .ok (.goto (-80), 3) := by decide +kernel
theorem dX5_isFree_96 : decode cX5_isFree 96 = .ok (.iconst 1, 1) := by decide +kernel
theorem dX5_isFree_97 : decode cX5_isFree 97 = .ok (.ireturn, 1) := by decide +kernel
theorem dX5_putInOrder_0 : decode cX5_putInOrder 0 = .ok (.iload_n 1, 1) := by decide +kernel
theorem dX5_putInOrder_1 : decode cX5_putInOrder 1 = .ok (.istore_n 2, 1) := by decide +kernel
theorem dX5_putInOrder_2 : decode cX5_putInOrder 2 = .ok (.iload_n 2, 1) := by decide +kernel
theorem dX5_putInOrder_3 : decode cX5_putInOrder 3 = .ok (.ifCond .le 45, 3) := by decide +kernel
theorem dX5_putInOrder_6 : decode cX5_putInOrder 6 = .ok (.aload_n 0, 1) := by decide +kernel
theorem dX5_putInOrder_7 : decode cX5_putInOrder 7 = .ok (.getfield 9, 3) := by decide +kernel
theorem dX5_putInOrder_10 : decode cX5_putInOrder 10 = .ok (.aload_n 0, 1) := by decide +kernel
theorem dX5_putInOrder_11 : decode cX5_putInOrder 11 = .ok (.getfield 18, 3) := by decide +kernel
theorem dX5_putInOrder_14 : decode cX5_putInOrder 14 = .ok (.iload_n 2, 1) := by decide +kernel
theorem dX5_putInOrder_15 : decode cX5_putInOrder 15 = .ok (.iconst 1, 1) := by decide +kernel
theorem dX5_putInOrder_16 : decode cX5_putInOrder 16 = .ok (.isub, 1) := by decide +kernel
theorem dX5_putInOrder_17 : decode cX5_putInOrder 17 = .ok (.iaload, 1) := by decide +kernel
theorem dX5_putInOrder_18 : decode cX5_putInOrder 18 = .ok (.iaload, 1) := by decide +kernel
theorem dX5_putInOrder_19 : decode cX5_putInOrder 19 = .ok (.aload_n 0, 1) := by decide +kernel
theorem dX5_putInOrder_20 : decode cX5_putInOrder 20 = .ok (.getfield 9, 3) := by decide +kernel
theorem dX5_putInOrder_23 : decode cX5_putInOrder 23 = .ok (.iload_n 1, 1) := by decide +kernel
theorem dX5_putInOrder_24 : decode cX5_putInOrder 24 = .ok (.iaload, 1) := by decide +kernel
theorem dX5_putInOrder_25 : decode cX5_putInOrder 25 = .ok (.if_icmp .le 23, 3) := by decide +kernel
theorem dX5_putInOrder_28 : decode cX5_putInOrder 28 = .ok (.aload_n 0, 1) := by decide +kernel
theorem dX5_putInOrder_29 : decode cX5_putInOrder 29 = .ok (.getfield 18, 3) := by decide +kernel
theorem dX5_putInOrder_32 : decode cX5_putInOrder 32 = .ok (.iload_n 2, 1) := by decide +kernel
theorem dX5_putInOrder_33 : decode cX5_putInOrder 33 = .ok (.aload_n 0, 1) := by decide +kernel
theorem dX5_putInOrder_34 : decode cX5_putInOrder 34 = .ok (.getfield 18, 3) := by decide +kernel
theorem dX5_putInOrder_37 : decode cX5_putInOrder 37 = .ok (.iload_n 2, 1) := by decide +kernel
theorem dX5_putInOrder_38 : decode cX5_putInOrder 38 = .ok (.iconst 1, 1) := by decide +kernel
theorem dX5_putInOrder_39 : decode cX5_putInOrder 39 = .ok (.isub, 1) := by decide +kernel
theorem dX5_putInOrder_40 : decode cX5_putInOrder 40 = .ok (.iaload, 1) := by decide +kernel
theorem dX5_putInOrder_41 : decode cX5_putInOrder 41 = .ok (.iastore, 1) := by decide +kernel
theorem dX5_putInOrder_42 : decode cX5_putInOrder 42 = .ok (.iinc 2 (-1), 3) := by decide +kernel
theorem dX5_putInOrder_45 : decode cX5_putInOrder 45 = .ok (.goto (-43), 3) := by decide +kernel
theorem dX5_putInOrder_48 : decode cX5_putInOrder 48 = .ok (.aload_n 0, 1) := by decide +kernel
theorem dX5_putInOrder_49 : decode cX5_putInOrder 49 = .ok (.getfield 18, 3) := by decide +kernel
theorem dX5_putInOrder_52 : decode cX5_putInOrder 52 = .ok (.iload_n 2, 1) := by decide +kernel
theorem dX5_putInOrder_53 : decode cX5_putInOrder 53 = .ok (.iload_n 1, 1) := by decide +kernel
theorem dX5_putInOrder_54 : decode cX5_putInOrder 54 = .ok (.iastore, 1) := by decide +kernel
theorem dX5_putInOrder_55 : decode cX5_putInOrder 55 = .ok (.return_, 1) := by decide +kernel
theorem dX5_beginner_0 : decode cX5_beginner 0 = .ok (.iconst 0, 1) := by decide +kernel
theorem dX5_beginner_1 : decode cX5_beginner 1 = .ok (.istore_n 3, 1) := by decide +kernel
theorem dX5_beginner_2 : decode cX5_beginner 2 = .ok (.iconst 0, 1) := by decide +kernel
theorem dX5_beginner_3 : decode cX5_beginner 3 = .ok (.istore 4, 2) := by decide +kernel
theorem dX5_beginner_5 : decode cX5_beginner 5 = .ok (.iload 4, 2) := by decide +kernel
theorem dX5_beginner_7 : decode cX5_beginner 7 = .ok (.aload_n 0, 1) := by decide +kernel
theorem dX5_beginner_8 : decode cX5_beginner 8 = .ok (.getfield 25, 3) := by decide +kernel
theorem dX5_beginner_11 : decode cX5_beginner 11 = .ok (.invokevirtual 37, 3) := by decide +kernel
theorem dX5_beginner_14 : decode cX5_beginner 14 = .ok (.if_icmp .ge 31, 3) := by decide +kernel
theorem dX5_beginner_17 : decode cX5_beginner 17 = .ok (.aload_n 0, 1) := by decide +kernel
theorem dX5_beginner_18 : decode cX5_beginner 18 = .ok (.getfield 9, 3) := by decide +kernel
theorem dX5_beginner_21 : decode cX5_beginner 21 = .ok (.iload 4, 2) := by decide +kernel
theorem dX5_beginner_23 : decode cX5_beginner 23 = .ok (.iaload, 1) := by decide +kernel
theorem dX5_beginner_24 : decode cX5_beginner 24 = .ok (.iload_n 1, 1) := by decide +kernel
theorem dX5_beginner_25 : decode cX5_beginner 25 = .ok (.if_icmp .ne 14, 3) := by decide +kernel
theorem dX5_beginner_28 : decode cX5_beginner 28 = .ok (.iload_n 3, 1) := by decide +kernel
theorem dX5_beginner_29 : decode cX5_beginner 29 = .ok (.iload_n 2, 1) := by decide +kernel
theorem dX5_beginner_30 : decode cX5_beginner 30 = .ok (.if_icmp .ne 6, 3) := by decide +kernel
theorem dX5_beginner_33 : decode cX5_beginner 33 = .ok (.iload 4, 2) := by decide +kernel
theorem dX5_beginner_35 : decode cX5_beginner 35 = .ok (.ireturn, 1) := by decide +kernel
theorem dX5_beginner_36 : decode cX5_beginner 36 = .ok (.iinc 3 1, 3) := by decide +kernel
theorem dX5_beginner_39 : decode cX5_beginner 39 = .ok (.iinc 4 1, 3) := by decide +kernel
theorem dX5_beginner_42 : decode cX5_beginner 42 = .ok (.goto (-37), 3) := by decide +kernel
theorem dX5_beginner_45 : decode cX5_beginner 45 = .ok (.bipush (-2), 2) := by decide +kernel
theorem dX5_beginner_47 : decode cX5_beginner 47 = .ok (.ireturn, 1) := by decide +kernel
theorem dX6_init_0 : decode cX6_init 0 = .ok (.aload_n 0, 1) := by decide +kernel
theorem dX6_init_1 : decode cX6_init 1 = .ok (.invokespecial 3, 3) := by decide +kernel
theorem dX6_init_4 : decode cX6_init 4 = .ok (.aload_n 0, 1) := by decide +kernel
theorem dX6_init_5 : decode cX6_init 5 = .ok (.bipush 16, 2) := by decide +kernel
theorem dX6_init_7 : decode cX6_init 7 = .ok (.newarray .int, 2) := by decide +kernel
theorem dX6_init_9 : decode cX6_init 9 = .ok (.putfield 9, 3) := by decide +kernel
theorem dX6_init_12 : decode cX6_init 12 = .ok (.aload_n 0, 1) := by decide +kernel
theorem dX6_init_13 : decode cX6_init 13 = .ok (.bipush 16, 2) := by decide +kernel
theorem dX6_init_15 : decode cX6_init 15 = .ok (.newarray .int, 2) := by decide +kernel
theorem dX6_init_17 : decode cX6_init 17 = .ok (.putfield 15, 3) := by decide +kernel
theorem dX6_init_20 : decode cX6_init 20 = .ok (.aload_n 0, 1) := by decide +kernel
theorem dX6_init_21 : decode cX6_init 21 = .ok (.bipush 16, 2) := by decide +kernel
theorem dX6_init_23 : decode cX6_init 23 = .ok (.newarray .int, 2) := by decide +kernel
theorem dX6_init_25 : decode cX6_init 25 = .ok (.putfield 18, 3) := by decide +kernel
theorem dX6_init_28 : decode cX6_init 28 = .ok (.aload_n 0, 1) := by decide +kernel
theorem dX6_init_29 : decode cX6_init 29 = .ok (.iconst 0, 1) := by decide +kernel
theorem dX6_init_30 : decode cX6_init 30 = .ok (.putfield 21, 3) := by decide +kernel
theorem dX6_init_33 : decode cX6_init 33 = .ok (.aload_n 0, 1) := by decide +kernel
theorem dX6_init_34 : decode cX6_init 34 = .ok (.aload_n 1, 1) := by decide +kernel
theorem dX6_init_35 : decode cX6_init 35 = .ok (.putfield 25, 3) := by decide +kernel
theorem dX6_init_38 : decode cX6_init 38 = .ok (.aload_n 0, 1) := by decide +kernel
theorem dX6_init_39 : decode cX6_init 39 = .ok (.aload_n 2, 1) := by decide +kernel
theorem dX6_init_40 : decode cX6_init 40 = .ok (.putfield 29, 3) := by decide +kernel
theorem dX6_init_43 : decode cX6_init 43 = .ok (.aload_n 0, 1) := by decide +kernel
theorem dX6_init_44 : decode cX6_init 44 = .ok (.aload_n 3, 1) := by decide +kernel
theorem dX6_init_45 : decode cX6_init 45 = .ok (.putfield 33, 3) := by decide +kernel
theorem dX6_init_48 : decode cX6_init 48 = .ok (.return_, 1) := by decide +kernel
theorem dX6_assign_0 : decode cX6_assign 0 = .ok (.aload_n 0, 1) := by decide +kernel
theorem dX6_assign_1 : decode cX6_assign 1 = .ok (.iconst 0, 1) := by decide +kernel
theorem dX6_assign_2 : decode cX6_assign 2 = .ok (.putfield 21, 3) := by decide +kernel
theorem dX6_assign_5 : decode cX6_assign 5 = .ok (.iconst 0, 1) := by decide +kernel
theorem dX6_assign_6 : decode cX6_assign 6 = .ok (.istore_n 1, 1) := by decide +kernel
theorem dX6_assign_7 : decode cX6_assign 7 = .ok (.iload_n 1, 1) := by decide +kernel
theorem dX6_assign_8 : decode cX6_assign 8 = .ok (.aload_n 0, 1) := by decide +kernel
theorem dX6_assign_9 : decode cX6_assign 9 = .ok (.getfield 25, 3) := by decide +kernel
theorem dX6_assign_12 : decode cX6_assign 12 = .ok (.invokevirtual 37, 3) := by decide +kernel
theorem dX6_assign_15 : decode cX6_assign 15 = .ok (.if_icmp .ge 22, 3) := by decide +kernel
theorem dX6_assign_18 : decode cX6_assign 18 = .ok (.aload_n 0, 1) := by decide +kernel
theorem dX6_assign_19 : decode cX6_assign 19 = .ok (.iload_n 1, 1) := by decide +kernel
theorem dX6_assign_20 : decode cX6_assign 20 = .ok (.invokevirtual 43, 3) := by decide +kernel
theorem dX6_assign_23 : decode cX6_assign 23 = .ok (.aload_n 0, 1) := by decide +kernel
theorem dX6_assign_24 : decode cX6_assign 24 = .ok (.getfield 18, 3) := by decide +kernel
theorem dX6_assign_27 : decode cX6_assign 27 = .ok (.iload_n 1, 1) := by decide +kernel
theorem dX6_assign_28 : decode cX6_assign 28 = .ok (.bipush (-2), 2) := by decide +kernel
theorem dX6_assign_30 : decode cX6_assign 30 = .ok (.iastore, 1) := by decide +kernel
theorem dX6_assign_31 : decode cX6_assign 31 = .ok (.iinc 1 1, 3) := by decide +kernel
theorem dX6_assign_34 : decode cX6_assign 34 = .ok (.goto (-27), 3) := by decide +kernel
theorem dX6_assign_37 : decode cX6_assign 37 = .ok (.iconst 0, 1) := by decide +kernel
theorem dX6_assign_38 : decode cX6_assign 38 = .ok (.istore_n 1, 1) := by decide +kernel
theorem dX6_assign_39 : decode cX6_assign 39 = .ok (.iload_n 1, 1) := by decide +kernel
theorem dX6_assign_40 : decode cX6_assign 40 = .ok (.aload_n 0, 1) := by decide +kernel
theorem dX6_assign_41 : decode cX6_assign 41 = .ok (.getfield 25, 3) := by decide +kernel
theorem dX6_assign_44 : decode cX6_assign 44 = .ok (.invokevirtual 37, 3) := by decide +kernel
theorem dX6_assign_47 : decode cX6_assign 47 = .ok (.if_icmp .ge 50, 3) := by decide +kernel
theorem dX6_assign_50 : decode cX6_assign 50 = .ok (.aload_n 0, 1) := by decide +kernel
theorem dX6_assign_51 : decode cX6_assign 51 = .ok (.invokevirtual 47, 3) := by decide +kernel
theorem dX6_assign_54 : decode cX6_assign 54 = .ok (.istore_n 2, 1) := by decide +kernel
theorem dX6_assign_55 : decode cX6_assign 55 = .ok (.iload_n 2, 1) := by decide +kernel
theorem dX6_assign_56 : decode cX6_assign 56 = .ok (.bipush (-2), 2) := by decide +kernel
theorem dX6_assign_58 : decode cX6_assign 58 = .ok (.if_icmp .eq 33, 3) := by decide +kernel
theorem dX6_assign_61 : decode cX6_assign 61 = .ok (.aload_n 0, 1) := by decide +kernel
theorem dX6_assign_62 : decode cX6_assign 62 = .ok (.getfield 18, 3) := by decide +kernel
theorem dX6_assign_65 : decode cX6_assign 65 = .ok (.iload_n 2, 1) := by decide +kernel
theorem dX6_assign_66 : decode cX6_assign 66 = .ok (.aload_n 0, 1) := by decide +kernel
theorem dX6_assign_67 : decode cX6_assign 67 = .ok (.iload_n 2, 1) := by decide +kernel
theorem dX6_assign_68 : decode cX6_assign 68 = .ok (.invokevirtual 50, 3) := by decide +kernel
theorem dX6_assign_71 : decode cX6_assign 71 = .ok (.iastore, 1) := by decide +kernel
theorem dX6_assign_72 : decode cX6_assign 72 = .ok (.aload_n 0, 1) := by decide +kernel
theorem dX6_assign_73 : decode cX6_assign 73 = .ok (.aload_n 0, 1) := by decide +kernel
theorem dX6_assign_74 : decode cX6_assign 74 = .ok (.getfield 21, 3) := by decide +kernel
theorem dX6_assign_77 : decode cX6_assign 77 = .ok (.aload_n 0, 1) := by decide +kernel
theorem dX6_assign_78 : decode cX6_assign 78 = .ok (.getfield 18, 3) := by decide +kernel
theorem dX6_assign_81 : decode cX6_assign 81 = .ok (.iload_n 2, 1) := by decide +kernel
theorem dX6_assign_82 : decode cX6_assign 82 = .ok (.iaload, 1) := by decide +kernel
theorem dX6_assign_83 : decode cX6_assign 83 = .ok (.iconst 1, 1) := by decide +kernel
theorem dX6_assign_84 : decode cX6_assign 84 = .ok (.iadd, 1) := by decide +kernel
theorem dX6_assign_85 : decode cX6_assign 85 = .ok (.invokestatic 54, 3) := by decide +kernel
theorem dX6_assign_88 : decode cX6_assign 88 = .ok (.putfield 21, 3) := by decide +kernel
theorem dX6_assign_91 : decode cX6_assign 91 = .ok (.iinc 1 1, 3) := by decide +kernel
theorem dX6_assign_94 : decode cX6_assign 94 = .ok (.goto (-55), 3) := by decide +kernel
theorem dX6_assign_97 : decode cX6_assign 97 = .ok (.return_, 1) := by decide +kernel
theorem dX6_findLife_0 : decode cX6_findLife 0 = .ok (.aload_n 0, 1) := by decide +kernel
theorem dX6_findLife_1 : decode cX6_findLife 1 = .ok (.getfield 9, 3) := by decide +kernel
theorem dX6_findLife_4 : decode cX6_findLife 4 = .ok (.iload_n 1, 1) := by decide +kernel
theorem dX6_findLife_5 : decode cX6_findLife 5 = .ok (.bipush (-2), 2) := by decide +kernel
theorem dX6_findLife_7 : decode cX6_findLife 7 = .ok (.iastore, 1) := by decide +kernel
theorem dX6_findLife_8 : decode cX6_findLife 8 = .ok (.aload_n 0, 1) := by decide +kernel
theorem dX6_findLife_9 : decode cX6_findLife 9 = .ok (.getfield 15, 3) := by decide +kernel
theorem dX6_findLife_12 : decode cX6_findLife 12 = .ok (.iload_n 1, 1) := by decide +kernel
theorem dX6_findLife_13 : decode cX6_findLife 13 = .ok (.bipush (-2), 2) := by decide +kernel
theorem dX6_findLife_15 : decode cX6_findLife 15 = .ok (.iastore, 1) := by decide +kernel
theorem dX6_findLife_16 : decode cX6_findLife 16 = .ok (.aload_n 0, 1) := by decide +kernel
theorem dX6_findLife_17 : decode cX6_findLife 17 = .ok (.getfield 25, 3) := by decide +kernel
theorem dX6_findLife_20 : decode cX6_findLife 20 = .ok (.iload_n 1, 1) := by decide +kernel
theorem dX6_findLife_21 : decode cX6_findLife 21 = .ok (.invokevirtual 60, 3) := by decide +kernel
theorem dX6_findLife_24 : decode cX6_findLife 24 = .ok (.astore_n 2, 1) := by decide +kernel
theorem dX6_findLife_25 : decode cX6_findLife 25 = .ok (.aload_n 2, 1) := by decide +kernel
theorem dX6_findLife_26 : decode cX6_findLife 26 = .ok (.getfield 64, 3) := by decide +kernel
theorem dX6_findLife_29 : decode cX6_findLife 29 = .ok (.ifCond .ne 4, 3) := by decide +kernel
theorem dX6_findLife_32 : decode cX6_findLife 32 = .ok (.return_, 1) := by decide +kernel
theorem dX6_findLife_33 : decode cX6_findLife 33 = .ok (.iload_n 1, 1) := by decide +kernel
theorem dX6_findLife_34 : decode cX6_findLife 34 = .ok (.iconst 1, 1) := by decide +kernel
theorem dX6_findLife_35 : decode cX6_findLife 35 = .ok (.iadd, 1) := by decide +kernel
theorem dX6_findLife_36 : decode cX6_findLife 36 = .ok (.istore_n 3, 1) := by decide +kernel
theorem dX6_findLife_37 : decode cX6_findLife 37 = .ok (.iload_n 3, 1) := by decide +kernel
theorem dX6_findLife_38 : decode cX6_findLife 38 = .ok (.aload_n 0, 1) := by decide +kernel
theorem dX6_findLife_39 : decode cX6_findLife 39 = .ok (.getfield 25, 3) := by decide +kernel
theorem dX6_findLife_42 : decode cX6_findLife 42 = .ok (.invokevirtual 37, 3) := by decide +kernel
theorem dX6_findLife_45 : decode cX6_findLife 45 = .ok (.if_icmp .ge 72, 3) := by decide +kernel
theorem dX6_findLife_48 : decode cX6_findLife 48 = .ok (.aload_n 0, 1) := by decide +kernel
theorem dX6_findLife_49 : decode cX6_findLife 49 = .ok (.getfield 25, 3) := by decide +kernel
theorem dX6_findLife_52 : decode cX6_findLife 52 = .ok (.iload_n 3, 1) := by decide +kernel
theorem dX6_findLife_53 : decode cX6_findLife 53 = .ok (.invokevirtual 60, 3) := by decide +kernel
theorem dX6_findLife_56 : decode cX6_findLife 56 = .ok (.iload_n 1, 1) := by decide +kernel
theorem dX6_findLife_57 : decode cX6_findLife 57 = .ok (.invokevirtual 69, 3) := by decide +kernel
theorem dX6_findLife_60 : decode cX6_findLife 60 = .ok (.ifCond .eq 51, 3) := by decide +kernel
theorem dX6_findLife_63 : decode cX6_findLife 63 = .ok (.aload_n 0, 1) := by decide +kernel
theorem dX6_findLife_64 : decode cX6_findLife 64 = .ok (.getfield 9, 3) := by decide +kernel
theorem dX6_findLife_67 : decode cX6_findLife 67 = .ok (.iload_n 1, 1) := by decide +kernel
theorem dX6_findLife_68 : decode cX6_findLife 68 = .ok (.aload_n 0, 1) := by decide +kernel
theorem dX6_findLife_69 : decode cX6_findLife 69 = .ok (.getfield 33, 3) := by decide +kernel
theorem dX6_findLife_72 : decode cX6_findLife 72 = .ok (.getfield 73, 3) := by decide +kernel
theorem dX6_findLife_75 : decode cX6_findLife 75 = .ok (.iload_n 1, 1) := by decide +kernel
theorem dX6_findLife_76 : decode cX6_findLife 76 = .ok (.iaload, 1) := by decide +kernel
theorem dX6_findLife_77 : decode cX6_findLife 77 = .ok (.aload_n 0, 1) := by decide +kernel
theorem dX6_findLife_78 : decode cX6_findLife 78 = .ok (.getfield 29, 3) := by decide +kernel
theorem dX6_findLife_81 : decode cX6_findLife 81 = .ok (.aload_n 2, 1) := by decide +kernel
theorem dX6_findLife_82 : decode cX6_findLife 82 = .ok (.invokevirtual 78, 3) := by decide +kernel
theorem dX6_findLife_85 : decode cX6_findLife 85 = .ok (.iadd, 1) := by decide +kernel
theorem dX6_findLife_86 : decode cX6_findLife 86 = .ok (.iastore, 1) := by decide +kernel
theorem dX6_findLife_87 : decode cX6_findLife 87 = .ok (.aload_n 0, 1) := by decide +kernel
theorem dX6_findLife_88 : decode cX6_findLife 88 = .ok (.getfield 15, 3) := by decide +kernel
theorem dX6_findLife_91 : decode cX6_findLife 91 = .ok (.iload_n 1, 1) := by decide +kernel
theorem dX6_findLife_92 : decode cX6_findLife 92 = .ok (.aload_n 0, 1) := by decide +kernel
theorem dX6_findLife_93 : decode cX6_findLife 93 = .ok (.getfield 15, 3) := by decide +kernel
theorem dX6_findLife_96 : decode cX6_findLife 96 = .ok (.iload_n 1, 1) := by decide +kernel
theorem dX6_findLife_97 : decode cX6_findLife 97 = .ok (.iaload, 1) := by decide +kernel
theorem dX6_findLife_98 : decode cX6_findLife 98 = .ok (.aload_n 0, 1) := by decide +kernel
theorem dX6_findLife_99 : decode cX6_findLife 99 = .ok (.getfield 33, 3) := by decide +kernel
theorem dX6_findLife_102 : decode cX6_findLife 102 = .ok (.getfield 73, 3) := by decide +kernel
theorem dX6_findLife_105 : decode cX6_findLife 105 = .ok (.iload_n 3, 1) := by decide +kernel
theorem dX6_findLife_106 : decode cX6_findLife 106 = .ok (.iaload, 1) := by decide +kernel
theorem dX6_findLife_107 : decode cX6_findLife 107 = .ok (.invokestatic 54, 3) := by decide +kernel
theorem dX6_findLife_110 : decode cX6_findLife 110 = .ok (.iastore, 1) := by decide +kernel
theorem dX6_findLife_111 : decode cX6_findLife 111 = .ok (.iinc 3 1, 3) := by decide +kernel
theorem dX6_findLife_114 : decode cX6_findLife 114 = .ok (.goto (-77), 3) := by decide +kernel
theorem dX6_findLife_117 : decode cX6_findLife 117 = .ok (.return_, 1) := by decide +kernel
theorem dX6_nextWithout_0 : decode cX6_nextWithout 0 = .ok (.bipush (-2), 2) := by decide +kernel
theorem dX6_nextWithout_2 : decode cX6_nextWithout 2 = .ok (.istore_n 1, 1) := by decide +kernel
theorem dX6_nextWithout_3 : decode cX6_nextWithout 3 = .ok (.iconst 0, 1) := by decide +kernel
theorem dX6_nextWithout_4 : decode cX6_nextWithout 4 = .ok (.istore_n 2, 1) := by decide +kernel
theorem dX6_nextWithout_5 : decode cX6_nextWithout 5 = .ok (.iload_n 2, 1) := by decide +kernel
theorem dX6_nextWithout_6 : decode cX6_nextWithout 6 = .ok (.aload_n 0, 1) := by decide +kernel
theorem dX6_nextWithout_7 : decode cX6_nextWithout 7 = .ok (.getfield 25, 3) := by decide +kernel
theorem dX6_nextWithout_10 : decode cX6_nextWithout 10 = .ok (.invokevirtual 37, 3) := by decide +kernel
theorem dX6_nextWithout_13 : decode cX6_nextWithout 13 = .ok (.if_icmp .ge 64, 3) := by decide +kernel
theorem dX6_nextWithout_16 : decode cX6_nextWithout 16 = .ok (.aload_n 0, 1) := by decide +kernel
theorem dX6_nextWithout_17 : decode cX6_nextWithout 17 = .ok (.getfield 9, 3) := by decide +kernel
theorem dX6_nextWithout_20 : decode cX6_nextWithout 20 = .ok (.iload_n 2, 1) := by decide +kernel
theorem dX6_nextWithout_21 : decode cX6_nextWithout 21 = .ok (.iaload, 1) := by decide +kernel
theorem dX6_nextWithout_22 : decode cX6_nextWithout 22 = .ok (.bipush (-2), 2) := by decide +kernel
theorem dX6_nextWithout_24 : decode cX6_nextWithout 24 = .ok (.if_icmp .eq 18, 3) := by decide +kernel
theorem dX6_nextWithout_27 : decode cX6_nextWithout 27 = .ok (.aload_n 0, 1) := by decide +kernel
theorem dX6_nextWithout_28 : decode cX6_nextWithout 28 = .ok (.getfield 18, 3) := by decide +kernel
theorem dX6_nextWithout_31 : decode cX6_nextWithout 31 = .ok (.iload_n 2, 1) := by decide +kernel
theorem dX6_nextWithout_32 : decode cX6_nextWithout 32 = .ok (.iaload, 1) := by decide +kernel
theorem dX6_nextWithout_33 : decode cX6_nextWithout 33 = .ok (.bipush (-2), 2) := by decide +kernel
theorem dX6_nextWithout_35 : decode cX6_nextWithout 35 = .ok (.if_icmp .ne 7, 3) := by decide +kernel
theorem dX6_nextWithout_38 : decode cX6_nextWithout 38 = .ok (.iconst 1, 1) := by decide +kernel
theorem dX6_nextWithout_39 : decode cX6_nextWithout 39 = .ok (.goto 4, 3) := by decide +kernel
theorem dX6_nextWithout_42 : decode cX6_nextWithout 42 = .ok (.iconst 0, 1) := by decide +kernel
theorem dX6_nextWithout_43 : decode cX6_nextWithout 43 = .ok (.istore_n 3, 1) := by decide +kernel
theorem dX6_nextWithout_44 : decode cX6_nextWithout 44 = .ok (.iload_n 3, 1) := by decide +kernel
theorem dX6_nextWithout_45 : decode cX6_nextWithout 45 = .ok (.ifCond .eq 26, 3) := by decide +kernel
theorem dX6_nextWithout_48 : decode cX6_nextWithout 48 = .ok (.iload_n 1, 1) := by decide +kernel
theorem dX6_nextWithout_49 : decode cX6_nextWithout 49 = .ok (.bipush (-2), 2) := by decide +kernel
theorem dX6_nextWithout_51 : decode cX6_nextWithout 51 = .ok (.if_icmp .eq 18, 3) := by decide +kernel
theorem dX6_nextWithout_54 : decode cX6_nextWithout 54 = .ok (.aload_n 0, 1) := by decide +kernel
theorem dX6_nextWithout_55 : decode cX6_nextWithout 55 = .ok (.getfield 9, 3) := by decide +kernel
theorem dX6_nextWithout_58 : decode cX6_nextWithout 58 = .ok (.iload_n 2, 1) := by decide +kernel
theorem dX6_nextWithout_59 : decode cX6_nextWithout 59 = .ok (.iaload, 1) := by decide +kernel
theorem dX6_nextWithout_60 : decode cX6_nextWithout 60 = .ok (.aload_n 0, 1) := by decide +kernel
theorem dX6_nextWithout_61 : decode cX6_nextWithout 61 = .ok (.getfield 9, 3) := by decide +kernel
theorem dX6_nextWithout_64 : decode cX6_nextWithout 64 = .ok (.iload_n 1, 1) := by decide +kernel
theorem dX6_nextWithout_65 : decode cX6_nextWithout 65 = .ok (.iaload, 1) := by decide +kernel
theorem dX6_nextWithout_66 : decode cX6_nextWithout 66 = .ok (.if_icmp .ge 5, 3) := by decide +kernel
theorem dX6_nextWithout_69 : decode cX6_nextWithout 69 = .ok (.iload_n 2, 1) := by decide +kernel
theorem dX6_nextWithout_70 : decode cX6_nextWithout 70 = .ok (.istore_n 1, 1) := by decide +kernel
theorem dX6_nextWithout_71 : decode cX6_nextWithout 71 = .ok (.iinc 2 1, 3) := by decide +kernel
theorem dX6_nextWithout_74 : decode cX6_nextWithout 74 = .ok (.goto (-69), 3) := by decide +kernel
theorem dX6_nextWithout_77 : decode cX6_nextWithout 77 = .ok (.iload_n 1, 1) := by decide +kernel
theorem dX6_nextWithout_78 : decode cX6_nextWithout 78 = .ok (.ireturn, 1) := by decide +kernel
theorem dX6_leastFree_0 : decode cX6_leastFree 0 = .ok (.iconst 0, 1) := by decide +kernel
theorem dX6_leastFree_1 : decode cX6_leastFree 1 = .ok (.istore_n 2, 1) := by decide +kernel
theorem dX6_leastFree_2 : decode cX6_leastFree 2 = .ok (.iload_n 2, 1) := by decide +kernel
theorem dX6_leastFree_3 : decode cX6_leastFree 3 = .ok (.bipush 16, 2) := by decide +kernel
theorem dX6_leastFree_5 : decode cX6_leastFree 5 = .ok (.if_icmp .ge 18, 3) := by decide +kernel
theorem dX6_leastFree_8 : decode cX6_leastFree 8 = .ok (.aload_n 0, 1) := by decide +kernel
theorem dX6_leastFree_9 : decode cX6_leastFree 9 = .ok (.iload_n 2, 1) := by decide +kernel
theorem dX6_leastFree_10 : decode cX6_leastFree 10 = .ok (.iload_n 1, 1) := by decide +kernel
theorem dX6_leastFree_11 : decode cX6_leastFree 11 = .ok (.invokevirtual 84, 3) := by decide +kernel
theorem dX6_leastFree_14 : decode cX6_leastFree 14 = .ok (.ifCond .eq 9, 3) := by decide +kernel
theorem dX6_leastFree_17 : decode cX6_leastFree 17 = .ok (.iinc 2 1, 3) := by decide +kernel
theorem dX6_leastFree_20 : decode cX6_leastFree 20 = .ok (.goto (-18), 3) := by decide +kernel
theorem dX6_leastFree_23 : decode cX6_leastFree 23 = .ok (.iload_n 2, 1) := by decide +kernel
theorem dX6_leastFree_24 : decode cX6_leastFree 24 = .ok (.ireturn, 1) := by decide +kernel
theorem dX6_isTaken_0 : decode cX6_isTaken 0 = .ok (.iconst 0, 1) := by decide +kernel
theorem dX6_isTaken_1 : decode cX6_isTaken 1 = .ok (.istore_n 3, 1) := by decide +kernel
theorem dX6_isTaken_2 : decode cX6_isTaken 2 = .ok (.iload_n 3, 1) := by decide +kernel
theorem dX6_isTaken_3 : decode cX6_isTaken 3 = .ok (.aload_n 0, 1) := by decide +kernel
theorem dX6_isTaken_4 : decode cX6_isTaken 4 = .ok (.getfield 25, 3) := by decide +kernel
theorem dX6_isTaken_7 : decode cX6_isTaken 7 = .ok (.invokevirtual 37, 3) := by decide +kernel
theorem dX6_isTaken_10 : decode cX6_isTaken 10 = .ok (.if_icmp .ge 51, 3) := by decide +kernel
theorem dX6_isTaken_13 : decode cX6_isTaken 13 = .ok (.aload_n 0, 1) := by decide +kernel
theorem dX6_isTaken_14 : decode cX6_isTaken 14 = .ok (.getfield 18, 3) := by decide +kernel
theorem dX6_isTaken_17 : decode cX6_isTaken 17 = .ok (.iload_n 3, 1) := by decide +kernel
theorem dX6_isTaken_18 : decode cX6_isTaken 18 = .ok (.iaload, 1) := by decide +kernel
theorem dX6_isTaken_19 : decode cX6_isTaken 19 = .ok (.iload_n 1, 1) := by decide +kernel
theorem dX6_isTaken_20 : decode cX6_isTaken 20 = .ok (.if_icmp .ne 35, 3) := by decide +kernel
theorem dX6_isTaken_23 : decode cX6_isTaken 23 = .ok (.aload_n 0, 1) := by decide +kernel
theorem dX6_isTaken_24 : decode cX6_isTaken 24 = .ok (.getfield 9, 3) := by decide +kernel
theorem dX6_isTaken_27 : decode cX6_isTaken 27 = .ok (.iload_n 3, 1) := by decide +kernel
theorem dX6_isTaken_28 : decode cX6_isTaken 28 = .ok (.iaload, 1) := by decide +kernel
theorem dX6_isTaken_29 : decode cX6_isTaken 29 = .ok (.aload_n 0, 1) := by decide +kernel
theorem dX6_isTaken_30 : decode cX6_isTaken 30 = .ok (.getfield 15, 3) := by decide +kernel
theorem dX6_isTaken_33 : decode cX6_isTaken 33 = .ok (.iload_n 2, 1) := by decide +kernel
theorem dX6_isTaken_34 : decode cX6_isTaken 34 = .ok (.iaload, 1) := by decide +kernel
theorem dX6_isTaken_35 : decode cX6_isTaken 35 = .ok (.if_icmp .gt 20, 3) := by decide +kernel
theorem dX6_isTaken_38 : decode cX6_isTaken 38 = .ok (.aload_n 0, 1) := by decide +kernel
theorem dX6_isTaken_39 : decode cX6_isTaken 39 = .ok (.getfield 9, 3) := by decide +kernel
theorem dX6_isTaken_42 : decode cX6_isTaken 42 = .ok (.iload_n 2, 1) := by decide +kernel
theorem dX6_isTaken_43 : decode cX6_isTaken 43 = .ok (.iaload, 1) := by decide +kernel
theorem dX6_isTaken_44 : decode cX6_isTaken 44 = .ok (.aload_n 0, 1) := by decide +kernel
theorem dX6_isTaken_45 : decode cX6_isTaken 45 = .ok (.getfield 15, 3) := by decide +kernel
theorem dX6_isTaken_48 : decode cX6_isTaken 48 = .ok (.iload_n 3, 1) := by decide +kernel
theorem dX6_isTaken_49 : decode cX6_isTaken 49 = .ok (.iaload, 1) := by decide +kernel
theorem dX6_isTaken_50 : decode cX6_isTaken 50 = .ok (.if_icmp .gt 5, 3) := by decide +kernel
theorem dX6_isTaken_53 : decode cX6_isTaken 53 = .ok (.iconst 1, 1) := by decide +kernel
theorem dX6_isTaken_54 : decode cX6_isTaken 54 = .ok (.ireturn, 1) := by decide +kernel
theorem dX6_isTaken_55 : decode cX6_isTaken 55 = .ok (.iinc 3 1, 3) := by decide +kernel
theorem dX6_isTaken_58 : decode cX6_isTaken 58 = .ok (.goto (-56), 3) := by decide +kernel
theorem dX6_isTaken_61 : decode cX6_isTaken 61 = .ok (.iconst 0, 1) := by decide +kernel
theorem dX6_isTaken_62 : decode cX6_isTaken 62 = .ok (.ireturn, 1) := by decide +kernel
theorem dX6_sourcesOf_0 : decode cX6_sourcesOf 0 = .ok (.iconst 0, 1) := by decide +kernel
theorem dX6_sourcesOf_1 : decode cX6_sourcesOf 1 = .ok (.istore 4, 2) := by decide +kernel
theorem dX6_sourcesOf_3 : decode cX6_sourcesOf 3 = .ok (.iconst 0, 1) := by decide +kernel
theorem dX6_sourcesOf_4 : decode cX6_sourcesOf 4 = .ok (.istore 5, 2) := by decide +kernel
theorem dX6_sourcesOf_6 : decode cX6_sourcesOf 6 = .ok (.iload 5, 2) := by decide +kernel
theorem dX6_sourcesOf_8 : decode cX6_sourcesOf 8 = .ok (.aload_n 0, 1) := by decide +kernel
theorem dX6_sourcesOf_9 : decode cX6_sourcesOf 9 = .ok (.getfield 25, 3) := by decide +kernel
theorem dX6_sourcesOf_12 : decode cX6_sourcesOf 12 = .ok (.invokevirtual 37, 3) := by decide +kernel
theorem dX6_sourcesOf_15 : decode cX6_sourcesOf 15 = .ok (.if_icmp .ge 82, 3) := by decide +kernel
theorem dX6_sourcesOf_18 : decode cX6_sourcesOf 18 = .ok (.aload_n 0, 1) := by decide +kernel
theorem dX6_sourcesOf_19 : decode cX6_sourcesOf 19 = .ok (.getfield 25, 3) := by decide +kernel
theorem dX6_sourcesOf_22 : decode cX6_sourcesOf 22 = .ok (.iload 5, 2) := by decide +kernel
theorem dX6_sourcesOf_24 : decode cX6_sourcesOf 24 = .ok (.invokevirtual 60, 3) := by decide +kernel
theorem dX6_sourcesOf_27 : decode cX6_sourcesOf 27 = .ok (.astore 6, 2) := by decide +kernel
theorem dX6_sourcesOf_29 : decode cX6_sourcesOf 29 = .ok (.iload_n 3, 1) := by decide +kernel
theorem dX6_sourcesOf_30 : decode cX6_sourcesOf 30 = .ok (.ifCond .eq 11, 3) := by decide +kernel
theorem dX6_sourcesOf_33 : decode cX6_sourcesOf 33 = .ok (.aload 6, 2) := by decide +kernel
theorem dX6_sourcesOf_35 : decode cX6_sourcesOf 35 = .ok (.getfield 88, 3) := by decide +kernel
theorem dX6_sourcesOf_38 : decode cX6_sourcesOf 38 = .ok (.goto 8, 3) := by decide +kernel
theorem dX6_sourcesOf_41 : decode cX6_sourcesOf 41 = .ok (.aload 6, 2) := by decide +kernel
theorem dX6_sourcesOf_43 : decode cX6_sourcesOf 43 = .ok (.getfield 91, 3) := by decide +kernel
theorem dX6_sourcesOf_46 : decode cX6_sourcesOf 46 = .ok (.istore 7, 2) := by decide +kernel
theorem dX6_sourcesOf_48 : decode cX6_sourcesOf 48 = .ok (.aload 6, 2) := by decide +kernel
theorem dX6_sourcesOf_50 : decode cX6_sourcesOf 50 = .ok (.invokevirtual 94, 3) := by decide +kernel
theorem dX6_sourcesOf_53 : decode cX6_sourcesOf 53 = .ok (.iload_n 1, 1) := by decide +kernel
theorem dX6_sourcesOf_54 : decode cX6_sourcesOf 54 = .ok (.if_icmp .ne 37, 3) := by decide +kernel
theorem dX6_sourcesOf_57 : decode cX6_sourcesOf 57 = .ok (.aload_n 0, 1) := by decide +kernel
theorem dX6_sourcesOf_58 : decode cX6_sourcesOf 58 = .ok (.getfield 33, 3) := by decide +kernel
theorem dX6_sourcesOf_61 : decode cX6_sourcesOf 61 = .ok (.getfield 97, 3) := by decide +kernel
theorem dX6_sourcesOf_64 : decode cX6_sourcesOf 64 = .ok (.iload 5, 2) := by decide +kernel
theorem dX6_sourcesOf_66 : decode cX6_sourcesOf 66 = .ok (.iaload, 1) := by decide +kernel
theorem dX6_sourcesOf_67 : decode cX6_sourcesOf 67 = .ok (.iload_n 2, 1) := by decide +kernel
theorem dX6_sourcesOf_68 : decode cX6_sourcesOf 68 = .ok (.if_icmp .ne 23, 3) := by decide +kernel
theorem dX6_sourcesOf_71 : decode cX6_sourcesOf 71 = .ok (.iload 7, 2) := by decide +kernel
theorem dX6_sourcesOf_73 : decode cX6_sourcesOf 73 = .ok (.bipush (-2), 2) := by decide +kernel
theorem dX6_sourcesOf_75 : decode cX6_sourcesOf 75 = .ok (.if_icmp .eq 16, 3) := by decide +kernel
theorem dX6_sourcesOf_78 : decode cX6_sourcesOf 78 = .ok (.iload 4, 2) := by decide +kernel
theorem dX6_sourcesOf_80 : decode cX6_sourcesOf 80 = .ok (.iconst 1, 1) := by decide +kernel
theorem dX6_sourcesOf_81 : decode cX6_sourcesOf 81 = .ok (.aload_n 0, 1) := by decide +kernel
theorem dX6_sourcesOf_82 : decode cX6_sourcesOf 82 = .ok (.iload 7, 2) := by decide +kernel
theorem dX6_sourcesOf_84 : decode cX6_sourcesOf 84 = .ok (.invokevirtual 100, 3) := by decide +kernel
theorem dX6_sourcesOf_87 : decode cX6_sourcesOf 87 = .ok (.ishl, 1) := by decide +kernel
theorem dX6_sourcesOf_88 : decode cX6_sourcesOf 88 = .ok (.ior, 1) := by decide +kernel
theorem dX6_sourcesOf_89 : decode cX6_sourcesOf 89 = .ok (.istore 4, 2) := by decide +kernel
theorem dX6_sourcesOf_91 : decode cX6_sourcesOf 91 = .ok (.iinc 5 1, 3) := by decide +kernel
theorem dX6_sourcesOf_94 : decode cX6_sourcesOf 94 = .ok (.goto (-88), 3) := by decide +kernel
theorem dX6_sourcesOf_97 : decode cX6_sourcesOf 97 = .ok (.iload 4, 2) := by decide +kernel
theorem dX6_sourcesOf_99 : decode cX6_sourcesOf 99 = .ok (.invokestatic 103, 3) := by decide +kernel
theorem dX6_sourcesOf_102 : decode cX6_sourcesOf 102 = .ok (.ireturn, 1) := by decide +kernel
theorem dX6_sourceOf_0 : decode cX6_sourceOf 0 = .ok (.aload_n 0, 1) := by decide +kernel
theorem dX6_sourceOf_1 : decode cX6_sourceOf 1 = .ok (.getfield 25, 3) := by decide +kernel
theorem dX6_sourceOf_4 : decode cX6_sourceOf 4 = .ok (.iload_n 1, 1) := by decide +kernel
theorem dX6_sourceOf_5 : decode cX6_sourceOf 5 = .ok (.invokevirtual 60, 3) := by decide +kernel
theorem dX6_sourceOf_8 : decode cX6_sourceOf 8 = .ok (.getfield 64, 3) := by decide +kernel
theorem dX6_sourceOf_11 : decode cX6_sourceOf 11 = .ok (.ifCond .ne 7, 3) := by decide +kernel
theorem dX6_sourceOf_14 : decode cX6_sourceOf 14 = .ok (.iconst 1, 1) := by decide +kernel
theorem dX6_sourceOf_15 : decode cX6_sourceOf 15 = .ok (.goto 4, 3) := by decide +kernel
theorem dX6_sourceOf_18 : decode cX6_sourceOf 18 = .ok (.iconst 0, 1) := by decide +kernel
theorem dX6_sourceOf_19 : decode cX6_sourceOf 19 = .ok (.istore_n 2, 1) := by decide +kernel
theorem dX6_sourceOf_20 : decode cX6_sourceOf 20 = .ok (.iload_n 2, 1) := by decide +kernel
theorem dX6_sourceOf_21 : decode cX6_sourceOf 21 = .ok (.ifCond .eq 10, 3) := by decide +kernel
theorem dX6_sourceOf_24 : decode cX6_sourceOf 24 = .ok (.bipush 16, 2) := by decide +kernel
theorem dX6_sourceOf_26 : decode cX6_sourceOf 26 = .ok (.iload_n 1, 1) := by decide +kernel
theorem dX6_sourceOf_27 : decode cX6_sourceOf 27 = .ok (.iadd, 1) := by decide +kernel
theorem dX6_sourceOf_28 : decode cX6_sourceOf 28 = .ok (.goto 9, 3) := by decide +kernel
theorem dX6_sourceOf_31 : decode cX6_sourceOf 31 = .ok (.aload_n 0, 1) := by decide +kernel
theorem dX6_sourceOf_32 : decode cX6_sourceOf 32 = .ok (.getfield 18, 3) := by decide +kernel
theorem dX6_sourceOf_35 : decode cX6_sourceOf 35 = .ok (.iload_n 1, 1) := by decide +kernel
theorem dX6_sourceOf_36 : decode cX6_sourceOf 36 = .ok (.iaload, 1) := by decide +kernel
theorem dX6_sourceOf_37 : decode cX6_sourceOf 37 = .ok (.ireturn, 1) := by decide +kernel
theorem dX7_init_0 : decode cX7_init 0 = .ok (.aload_n 0, 1) := by decide +kernel
theorem dX7_init_1 : decode cX7_init 1 = .ok (.invokespecial 1, 3) := by decide +kernel
theorem dX7_init_4 : decode cX7_init 4 = .ok (.aload_n 0, 1) := by decide +kernel
theorem dX7_init_5 : decode cX7_init 5 = .ok (.iload_n 1, 1) := by decide +kernel
theorem dX7_init_6 : decode cX7_init 6 = .ok (.putfield 7, 3) := by decide +kernel
theorem dX7_init_9 : decode cX7_init 9 = .ok (.aload_n 0, 1) := by decide +kernel
theorem dX7_init_10 : decode cX7_init 10 = .ok (.aload_n 2, 1) := by decide +kernel
theorem dX7_init_11 : decode cX7_init 11 = .ok (.putfield 13, 3) := by decide +kernel
theorem dX7_init_14 : decode cX7_init 14 = .ok (.return_, 1) := by decide +kernel
theorem dX7_reaches_0 : decode cX7_reaches 0 = .ok (.iload_n 1, 1) := by decide +kernel
theorem dX7_reaches_1 : decode cX7_reaches 1 = .ok (.ifCond .lt 26, 3) := by decide +kernel
theorem dX7_reaches_4 : decode cX7_reaches 4 = .ok (.iload_n 2, 1) := by decide +kernel
theorem dX7_reaches_5 : decode cX7_reaches 5 = .ok (.ifCond .lt 22, 3) := by decide +kernel
theorem dX7_reaches_8 : decode cX7_reaches 8 = .ok (.iload_n 1, 1) := by decide +kernel
theorem dX7_reaches_9 : decode cX7_reaches 9 = .ok (.i2l, 1) := by decide +kernel
theorem dX7_reaches_10 : decode cX7_reaches 10 = .ok (.iload_n 2, 1) := by decide +kernel
theorem dX7_reaches_11 : decode cX7_reaches 11 = .ok (.i2l, 1) := by decide +kernel
theorem dX7_reaches_12 : decode cX7_reaches 12 = .ok (.ladd, 1) := by decide +kernel
theorem dX7_reaches_13 : decode cX7_reaches 13 = .ok (.aload_n 0, 1) := by decide +kernel
theorem dX7_reaches_14 : decode cX7_reaches 14 = .ok (.getfield 13, 3) := by decide +kernel
theorem dX7_reaches_17 : decode cX7_reaches 17 = .ok (.arraylength, 1) := by decide +kernel
theorem dX7_reaches_18 : decode cX7_reaches 18 = .ok (.i2l, 1) := by decide +kernel
theorem dX7_reaches_19 : decode cX7_reaches 19 = .ok (.lcmp, 1) := by decide +kernel
theorem dX7_reaches_20 : decode cX7_reaches 20 = .ok (.ifCond .gt 7, 3) := by decide +kernel
theorem dX7_reaches_23 : decode cX7_reaches 23 = .ok (.iconst 1, 1) := by decide +kernel
theorem dX7_reaches_24 : decode cX7_reaches 24 = .ok (.goto 4, 3) := by decide +kernel
theorem dX7_reaches_27 : decode cX7_reaches 27 = .ok (.iconst 0, 1) := by decide +kernel
theorem dX7_reaches_28 : decode cX7_reaches 28 = .ok (.ireturn, 1) := by decide +kernel
theorem dX8_init_0 : decode cX8_init 0 = .ok (.aload_n 0, 1) := by decide +kernel
theorem dX8_init_1 : decode cX8_init 1 = .ok (.invokespecial 3, 3) := by decide +kernel
theorem dX8_init_4 : decode cX8_init 4 = .ok (.aload_n 0, 1) := by decide +kernel
theorem dX8_init_5 : decode cX8_init 5 = .ok (.lload_n 1, 1) := by decide +kernel
theorem dX8_init_6 : decode cX8_init 6 = .ok (.putfield 9, 3) := by decide +kernel
theorem dX8_init_9 : decode cX8_init 9 = .ok (.aload_n 0, 1) := by decide +kernel
theorem dX8_init_10 : decode cX8_init 10 = .ok (.lload_n 3, 1) := by decide +kernel
theorem dX8_init_11 : decode cX8_init 11 = .ok (.putfield 15, 3) := by decide +kernel
theorem dX8_init_14 : decode cX8_init 14 = .ok (.return_, 1) := by decide +kernel
theorem dX8_wide_0 : decode cX8_wide 0 = .ok (.lconst 1, 1) := by decide +kernel
theorem dX8_wide_1 : decode cX8_wide 1 = .ok (.iload_n 0, 1) := by decide +kernel
theorem dX8_wide_2 : decode cX8_wide 2 = .ok (.iconst 1, 1) := by decide +kernel
theorem dX8_wide_3 : decode cX8_wide 3 = .ok (.isub, 1) := by decide +kernel
theorem dX8_wide_4 : decode cX8_wide 4 = .ok (.lshl, 1) := by decide +kernel
theorem dX8_wide_5 : decode cX8_wide 5 = .ok (.lstore_n 1, 1) := by decide +kernel
theorem dX8_wide_6 : decode cX8_wide 6 = .ok (.new 10, 3) := by decide +kernel
theorem dX8_wide_9 : decode cX8_wide 9 = .ok (.dup, 1) := by decide +kernel
theorem dX8_wide_10 : decode cX8_wide 10 = .ok (.lload_n 1, 1) := by decide +kernel
theorem dX8_wide_11 : decode cX8_wide 11 = .ok (.lneg, 1) := by decide +kernel
theorem dX8_wide_12 : decode cX8_wide 12 = .ok (.lload_n 1, 1) := by decide +kernel
theorem dX8_wide_13 : decode cX8_wide 13 = .ok (.lconst 1, 1) := by decide +kernel
theorem dX8_wide_14 : decode cX8_wide 14 = .ok (.lsub, 1) := by decide +kernel
theorem dX8_wide_15 : decode cX8_wide 15 = .ok (.invokespecial 18, 3) := by decide +kernel
theorem dX8_wide_18 : decode cX8_wide 18 = .ok (.areturn, 1) := by decide +kernel
theorem dX8_fits_0 : decode cX8_fits 0 = .ok (.lconst 1, 1) := by decide +kernel
theorem dX8_fits_1 : decode cX8_fits 1 = .ok (.iload_n 1, 1) := by decide +kernel
theorem dX8_fits_2 : decode cX8_fits 2 = .ok (.iconst 1, 1) := by decide +kernel
theorem dX8_fits_3 : decode cX8_fits 3 = .ok (.isub, 1) := by decide +kernel
theorem dX8_fits_4 : decode cX8_fits 4 = .ok (.lshl, 1) := by decide +kernel
theorem dX8_fits_5 : decode cX8_fits 5 = .ok (.lstore_n 2, 1) := by decide +kernel
theorem dX8_fits_6 : decode cX8_fits 6 = .ok (.aload_n 0, 1) := by decide +kernel
theorem dX8_fits_7 : decode cX8_fits 7 = .ok (.getfield 9, 3) := by decide +kernel
theorem dX8_fits_10 : decode cX8_fits 10 = .ok (.lload_n 2, 1) := by decide +kernel
theorem dX8_fits_11 : decode cX8_fits 11 = .ok (.lneg, 1) := by decide +kernel
theorem dX8_fits_12 : decode cX8_fits 12 = .ok (.lcmp, 1) := by decide +kernel
theorem dX8_fits_13 : decode cX8_fits 13 = .ok (.ifCond .lt 16, 3) := by decide +kernel
theorem dX8_fits_16 : decode cX8_fits 16 = .ok (.aload_n 0, 1) := by decide +kernel
theorem dX8_fits_17 : decode cX8_fits 17 = .ok (.getfield 15, 3) := by decide +kernel
theorem dX8_fits_20 : decode cX8_fits 20 = .ok (.lload_n 2, 1) := by decide +kernel
theorem dX8_fits_21 : decode cX8_fits 21 = .ok (.lcmp, 1) := by decide +kernel
theorem dX8_fits_22 : decode cX8_fits 22 = .ok (.ifCond .ge 7, 3) := by decide +kernel
theorem dX8_fits_25 : decode cX8_fits 25 = .ok (.iconst 1, 1) := by decide +kernel
theorem dX8_fits_26 : decode cX8_fits 26 = .ok (.goto 4, 3) := by decide +kernel
theorem dX8_fits_29 : decode cX8_fits 29 = .ok (.iconst 0, 1) := by decide +kernel
theorem dX8_fits_30 : decode cX8_fits 30 = .ok (.ireturn, 1) := by decide +kernel
theorem dX8_fitted_0 : decode cX8_fitted 0 = .ok (.aload_n 0, 1) := by decide +kernel
theorem dX8_fitted_1 : decode cX8_fitted 1 = .ok (.iload_n 1, 1) := by decide +kernel
theorem dX8_fitted_2 : decode cX8_fitted 2 = .ok (.invokevirtual 21, 3) := by decide +kernel
theorem dX8_fitted_5 : decode cX8_fitted 5 = .ok (.ifCond .eq 7, 3) := by decide +kernel
theorem dX8_fitted_8 : decode cX8_fitted 8 = .ok (.aload_n 0, 1) := by decide +kernel
theorem dX8_fitted_9 : decode cX8_fitted 9 = .ok (.goto 7, 3) := by decide +kernel
theorem dX8_fitted_12 : decode cX8_fitted 12 = .ok (.iload_n 1, 1) := by decide +kernel
theorem dX8_fitted_13 : decode cX8_fitted 13 = .ok (.invokestatic 25, 3) := by decide +kernel
theorem dX8_fitted_16 : decode cX8_fitted 16 = .ok (.areturn, 1) := by decide +kernel
theorem dX8_bits_0 : decode cX8_bits 0 = .ok (.iconst 1, 1) := by decide +kernel
theorem dX8_bits_1 : decode cX8_bits 1 = .ok (.istore_n 1, 1) := by decide +kernel
theorem dX8_bits_2 : decode cX8_bits 2 = .ok (.iload_n 1, 1) := by decide +kernel
theorem dX8_bits_3 : decode cX8_bits 3 = .ok (.bipush 32, 2) := by decide +kernel
theorem dX8_bits_5 : decode cX8_bits 5 = .ok (.if_icmp .ge 17, 3) := by decide +kernel
theorem dX8_bits_8 : decode cX8_bits 8 = .ok (.aload_n 0, 1) := by decide +kernel
theorem dX8_bits_9 : decode cX8_bits 9 = .ok (.iload_n 1, 1) := by decide +kernel
theorem dX8_bits_10 : decode cX8_bits 10 = .ok (.invokevirtual 21, 3) := by decide +kernel
theorem dX8_bits_13 : decode cX8_bits 13 = .ok (.ifCond .ne 9, 3) := by decide +kernel
theorem dX8_bits_16 : decode cX8_bits 16 = .ok (.iinc 1 1, 3) := by decide +kernel
theorem dX8_bits_19 : decode cX8_bits 19 = .ok (.goto (-17), 3) := by decide +kernel
theorem dX8_bits_22 : decode cX8_bits 22 = .ok (.iload_n 1, 1) := by decide +kernel
theorem dX8_bits_23 : decode cX8_bits 23 = .ok (.ireturn, 1) := by decide +kernel
theorem dX8_meets_0 : decode cX8_meets 0 = .ok (.aload_n 0, 1) := by decide +kernel
theorem dX8_meets_1 : decode cX8_meets 1 = .ok (.getfield 9, 3) := by decide +kernel
theorem dX8_meets_4 : decode cX8_meets 4 = .ok (.aload_n 1, 1) := by decide +kernel
theorem dX8_meets_5 : decode cX8_meets 5 = .ok (.getfield 15, 3) := by decide +kernel
theorem dX8_meets_8 : decode cX8_meets 8 = .ok (.lcmp, 1) := by decide +kernel
theorem dX8_meets_9 : decode cX8_meets 9 = .ok (.ifCond .gt 19, 3) := by decide +kernel
theorem dX8_meets_12 : decode cX8_meets 12 = .ok (.aload_n 1, 1) := by decide +kernel
theorem dX8_meets_13 : decode cX8_meets 13 = .ok (.getfield 9, 3) := by decide +kernel
theorem dX8_meets_16 : decode cX8_meets 16 = .ok (.aload_n 0, 1) := by decide +kernel
theorem dX8_meets_17 : decode cX8_meets 17 = .ok (.getfield 15, 3) := by decide +kernel
theorem dX8_meets_20 : decode cX8_meets 20 = .ok (.lcmp, 1) := by decide +kernel
theorem dX8_meets_21 : decode cX8_meets 21 = .ok (.ifCond .gt 7, 3) := by decide +kernel
theorem dX8_meets_24 : decode cX8_meets 24 = .ok (.iconst 1, 1) := by decide +kernel
theorem dX8_meets_25 : decode cX8_meets 25 = .ok (.goto 4, 3) := by decide +kernel
theorem dX8_meets_28 : decode cX8_meets 28 = .ok (.iconst 0, 1) := by decide +kernel
theorem dX8_meets_29 : decode cX8_meets 29 = .ok (.ireturn, 1) := by decide +kernel
theorem dX8_reckoned_0 : decode cX8_reckoned 0 = .ok (.iload_n 1, 1) := by decide +kernel
theorem dX8_reckoned_1 : decode cX8_reckoned 1 = .ok (.tableswitch 94 2 5 #[31, 57, 83, 89], 31) := by decide +kernel
theorem dX8_reckoned_32 : decode cX8_reckoned 32 = .ok (.new 10, 3) := by decide +kernel
theorem dX8_reckoned_35 : decode cX8_reckoned 35 = .ok (.dup, 1) := by decide +kernel
theorem dX8_reckoned_36 : decode cX8_reckoned 36 = .ok (.aload_n 0, 1) := by decide +kernel
theorem dX8_reckoned_37 : decode cX8_reckoned 37 = .ok (.getfield 9, 3) := by decide +kernel
theorem dX8_reckoned_40 : decode cX8_reckoned 40 = .ok (.aload_n 2, 1) := by decide +kernel
theorem dX8_reckoned_41 : decode cX8_reckoned 41 = .ok (.getfield 9, 3) := by decide +kernel
theorem dX8_reckoned_44 : decode cX8_reckoned 44 = .ok (.ladd, 1) := by decide +kernel
theorem dX8_reckoned_45 : decode cX8_reckoned 45 = .ok (.aload_n 0, 1) := by decide +kernel
theorem dX8_reckoned_46 : decode cX8_reckoned 46 = .ok (.getfield 15, 3) := by decide +kernel
theorem dX8_reckoned_49 : decode cX8_reckoned 49 = .ok (.aload_n 2, 1) := by decide +kernel
theorem dX8_reckoned_50 : decode cX8_reckoned 50 = .ok (.getfield 15, 3) := by decide +kernel
theorem dX8_reckoned_53 : decode cX8_reckoned 53 = .ok (.ladd, 1) := by decide +kernel
theorem dX8_reckoned_54 : decode cX8_reckoned 54 = .ok (.invokespecial 18, 3) := by decide +kernel
theorem dX8_reckoned_57 : decode cX8_reckoned 57 = .ok (.areturn, 1) := by decide +kernel
theorem dX8_reckoned_58 : decode cX8_reckoned 58 = .ok (.new 10, 3) := by decide +kernel
theorem dX8_reckoned_61 : decode cX8_reckoned 61 = .ok (.dup, 1) := by decide +kernel
theorem dX8_reckoned_62 : decode cX8_reckoned 62 = .ok (.aload_n 0, 1) := by decide +kernel
theorem dX8_reckoned_63 : decode cX8_reckoned 63 = .ok (.getfield 9, 3) := by decide +kernel
theorem dX8_reckoned_66 : decode cX8_reckoned 66 = .ok (.aload_n 2, 1) := by decide +kernel
theorem dX8_reckoned_67 : decode cX8_reckoned 67 = .ok (.getfield 15, 3) := by decide +kernel
theorem dX8_reckoned_70 : decode cX8_reckoned 70 = .ok (.lsub, 1) := by decide +kernel
theorem dX8_reckoned_71 : decode cX8_reckoned 71 = .ok (.aload_n 0, 1) := by decide +kernel
theorem dX8_reckoned_72 : decode cX8_reckoned 72 = .ok (.getfield 15, 3) := by decide +kernel
theorem dX8_reckoned_75 : decode cX8_reckoned 75 = .ok (.aload_n 2, 1) := by decide +kernel
theorem dX8_reckoned_76 : decode cX8_reckoned 76 = .ok (.getfield 9, 3) := by decide +kernel
theorem dX8_reckoned_79 : decode cX8_reckoned 79 = .ok (.lsub, 1) := by decide +kernel
theorem dX8_reckoned_80 : decode cX8_reckoned 80 = .ok (.invokespecial 18, 3) := by decide +kernel
theorem dX8_reckoned_83 : decode cX8_reckoned 83 = .ok (.areturn, 1) := by decide +kernel
theorem dX8_reckoned_84 : decode cX8_reckoned 84 = .ok (.aload_n 0, 1) := by decide +kernel
theorem dX8_reckoned_85 : decode cX8_reckoned 85 = .ok (.aload_n 2, 1) := by decide +kernel
theorem dX8_reckoned_86 : decode cX8_reckoned 86 = .ok (.invokevirtual 29, 3) := by decide +kernel
theorem dX8_reckoned_89 : decode cX8_reckoned 89 = .ok (.areturn, 1) := by decide +kernel
theorem dX8_reckoned_90 : decode cX8_reckoned 90 = .ok (.aload_n 0, 1) := by decide +kernel
theorem dX8_reckoned_91 : decode cX8_reckoned 91 = .ok (.invokevirtual 33, 3) := by decide +kernel
theorem dX8_reckoned_94 : decode cX8_reckoned 94 = .ok (.areturn, 1) := by decide +kernel
theorem dX8_reckoned_95 : decode cX8_reckoned 95 = .ok (.aload_n 0, 1) := by decide +kernel
theorem dX8_reckoned_96 : decode cX8_reckoned 96 = .ok (.aload_n 2, 1) := by decide +kernel
theorem dX8_reckoned_97 : decode cX8_reckoned 97 = .ok (.invokevirtual 37, 3) := by decide +kernel
theorem dX8_reckoned_100 : decode cX8_reckoned 100 = .ok (.areturn, 1) := by decide +kernel
theorem dX8_picked_0 : decode cX8_picked 0 = .ok (.aload_n 0, 1) := by decide +kernel
theorem dX8_picked_1 : decode cX8_picked 1 = .ok (.getfield 9, 3) := by decide +kernel
theorem dX8_picked_4 : decode cX8_picked 4 = .ok (.lconst 0, 1) := by decide +kernel
theorem dX8_picked_5 : decode cX8_picked 5 = .ok (.lcmp, 1) := by decide +kernel
theorem dX8_picked_6 : decode cX8_picked 6 = .ok (.ifCond .ne 14, 3) := by decide +kernel
theorem dX8_picked_9 : decode cX8_picked 9 = .ok (.aload_n 0, 1) := by decide +kernel
theorem dX8_picked_10 : decode cX8_picked 10 = .ok (.getfield 15, 3) := by decide +kernel
theorem dX8_picked_13 : decode cX8_picked 13 = .ok (.lconst 0, 1) := by decide +kernel
theorem dX8_picked_14 : decode cX8_picked 14 = .ok (.lcmp, 1) := by decide +kernel
theorem dX8_picked_15 : decode cX8_picked 15 = .ok (.ifCond .ne 5, 3) := by decide +kernel
theorem dX8_picked_18 : decode cX8_picked 18 = .ok (.aload_n 2, 1) := by decide +kernel
theorem dX8_picked_19 : decode cX8_picked 19 = .ok (.areturn, 1) := by decide +kernel
theorem dX8_picked_20 : decode cX8_picked 20 = .ok (.aload_n 0, 1) := by decide +kernel
theorem dX8_picked_21 : decode cX8_picked 21 = .ok (.getfield 9, 3) := by decide +kernel
theorem dX8_picked_24 : decode cX8_picked 24 = .ok (.lconst 0, 1) := by decide +kernel
theorem dX8_picked_25 : decode cX8_picked 25 = .ok (.lcmp, 1) := by decide +kernel
theorem dX8_picked_26 : decode cX8_picked 26 = .ok (.ifCond .gt 12, 3) := by decide +kernel
theorem dX8_picked_29 : decode cX8_picked 29 = .ok (.aload_n 0, 1) := by decide +kernel
theorem dX8_picked_30 : decode cX8_picked 30 = .ok (.getfield 15, 3) := by decide +kernel
theorem dX8_picked_33 : decode cX8_picked 33 = .ok (.lconst 0, 1) := by decide +kernel
theorem dX8_picked_34 : decode cX8_picked 34 = .ok (.lcmp, 1) := by decide +kernel
theorem dX8_picked_35 : decode cX8_picked 35 = .ok (.ifCond .ge 5, 3) := by decide +kernel
theorem dX8_picked_38 : decode cX8_picked 38 = .ok (.aload_n 1, 1) := by decide +kernel
theorem dX8_picked_39 : decode cX8_picked 39 = .ok (.areturn, 1) := by decide +kernel
theorem dX8_picked_40 : decode cX8_picked 40 = .ok (.new 10, 3) := by decide +kernel
theorem dX8_picked_43 : decode cX8_picked 43 = .ok (.dup, 1) := by decide +kernel
theorem dX8_picked_44 : decode cX8_picked 44 = .ok (.aload_n 1, 1) := by decide +kernel
theorem dX8_picked_45 : decode cX8_picked 45 = .ok (.getfield 9, 3) := by decide +kernel
theorem dX8_picked_48 : decode cX8_picked 48 = .ok (.aload_n 2, 1) := by decide +kernel
theorem dX8_picked_49 : decode cX8_picked 49 = .ok (.getfield 9, 3) := by decide +kernel
theorem dX8_picked_52 : decode cX8_picked 52 = .ok (.invokestatic 40, 3) := by decide +kernel
theorem dX8_picked_55 : decode cX8_picked 55 = .ok (.aload_n 1, 1) := by decide +kernel
theorem dX8_picked_56 : decode cX8_picked 56 = .ok (.getfield 15, 3) := by decide +kernel
theorem dX8_picked_59 : decode cX8_picked 59 = .ok (.aload_n 2, 1) := by decide +kernel
theorem dX8_picked_60 : decode cX8_picked 60 = .ok (.getfield 15, 3) := by decide +kernel
theorem dX8_picked_63 : decode cX8_picked 63 = .ok (.invokestatic 46, 3) := by decide +kernel
theorem dX8_picked_66 : decode cX8_picked 66 = .ok (.invokespecial 18, 3) := by decide +kernel
theorem dX8_picked_69 : decode cX8_picked 69 = .ok (.areturn, 1) := by decide +kernel
theorem dX8_product_0 : decode cX8_product 0 = .ok (.aload_n 0, 1) := by decide +kernel
theorem dX8_product_1 : decode cX8_product 1 = .ok (.getfield 9, 3) := by decide +kernel
theorem dX8_product_4 : decode cX8_product 4 = .ok (.aload_n 1, 1) := by decide +kernel
theorem dX8_product_5 : decode cX8_product 5 = .ok (.getfield 9, 3) := by decide +kernel
theorem dX8_product_8 : decode cX8_product 8 = .ok (.lmul, 1) := by decide +kernel
theorem dX8_product_9 : decode cX8_product 9 = .ok (.lstore_n 2, 1) := by decide +kernel
theorem dX8_product_10 : decode cX8_product 10 = .ok (.aload_n 0, 1) := by decide +kernel
theorem dX8_product_11 : decode cX8_product 11 = .ok (.getfield 9, 3) := by decide +kernel
theorem dX8_product_14 : decode cX8_product 14 = .ok (.aload_n 1, 1) := by decide +kernel
theorem dX8_product_15 : decode cX8_product 15 = .ok (.getfield 15, 3) := by decide +kernel
theorem dX8_product_18 : decode cX8_product 18 = .ok (.lmul, 1) := by decide +kernel
theorem dX8_product_19 : decode cX8_product 19 = .ok (.lstore 4, 2) := by decide +kernel
theorem dX8_product_21 : decode cX8_product 21 = .ok (.aload_n 0, 1) := by decide +kernel
theorem dX8_product_22 : decode cX8_product 22 = .ok (.getfield 15, 3) := by decide +kernel
theorem dX8_product_25 : decode cX8_product 25 = .ok (.aload_n 1, 1) := by decide +kernel
theorem dX8_product_26 : decode cX8_product 26 = .ok (.getfield 9, 3) := by decide +kernel
theorem dX8_product_29 : decode cX8_product 29 = .ok (.lmul, 1) := by decide +kernel
theorem dX8_product_30 : decode cX8_product 30 = .ok (.lstore 6, 2) := by decide +kernel
theorem dX8_product_32 : decode cX8_product 32 = .ok (.aload_n 0, 1) := by decide +kernel
theorem dX8_product_33 : decode cX8_product 33 = .ok (.getfield 15, 3) := by decide +kernel
theorem dX8_product_36 : decode cX8_product 36 = .ok (.aload_n 1, 1) := by decide +kernel
theorem dX8_product_37 : decode cX8_product 37 = .ok (.getfield 15, 3) := by decide +kernel
theorem dX8_product_40 : decode cX8_product 40 = .ok (.lmul, 1) := by decide +kernel
theorem dX8_product_41 : decode cX8_product 41 = .ok (.lstore 8, 2) := by decide +kernel
theorem dX8_product_43 : decode cX8_product 43 = .ok (.new 10, 3) := by decide +kernel
theorem dX8_product_46 : decode cX8_product 46 = .ok (.dup, 1) := by decide +kernel
theorem dX8_product_47 : decode cX8_product 47 = .ok (.lload_n 2, 1) := by decide +kernel
theorem dX8_product_48 : decode cX8_product 48 = .ok (.lload 4, 2) := by decide +kernel
theorem dX8_product_50 : decode cX8_product 50 = .ok (.invokestatic 40, 3) := by decide +kernel
theorem dX8_product_53 : decode cX8_product 53 = .ok (.lload 6, 2) := by decide +kernel
theorem dX8_product_55 : decode cX8_product 55 = .ok (.lload 8, 2) := by decide +kernel
theorem dX8_product_57 : decode cX8_product 57 = .ok (.invokestatic 40, 3) := by decide +kernel
theorem dX8_product_60 : decode cX8_product 60 = .ok (.invokestatic 40, 3) := by decide +kernel
theorem dX8_product_63 : decode cX8_product 63 = .ok (.lload_n 2, 1) := by decide +kernel
theorem dX8_product_64 : decode cX8_product 64 = .ok (.lload 4, 2) := by decide +kernel
theorem dX8_product_66 : decode cX8_product 66 = .ok (.invokestatic 46, 3) := by decide +kernel
theorem dX8_product_69 : decode cX8_product 69 = .ok (.lload 6, 2) := by decide +kernel
theorem dX8_product_71 : decode cX8_product 71 = .ok (.lload 8, 2) := by decide +kernel
theorem dX8_product_73 : decode cX8_product 73 = .ok (.invokestatic 46, 3) := by decide +kernel
theorem dX8_product_76 : decode cX8_product 76 = .ok (.invokestatic 46, 3) := by decide +kernel
theorem dX8_product_79 : decode cX8_product 79 = .ok (.invokespecial 18, 3) := by decide +kernel
theorem dX8_product_82 : decode cX8_product 82 = .ok (.areturn, 1) := by decide +kernel
theorem dX8_quotient_0 : decode cX8_quotient 0 = .ok (.aload_n 0, 1) := by decide +kernel
theorem dX8_quotient_1 : decode cX8_quotient 1 = .ok (.getfield 9, 3) := by decide +kernel
theorem dX8_quotient_4 : decode cX8_quotient 4 = .ok (.invokestatic 49, 3) := by decide +kernel
theorem dX8_quotient_7 : decode cX8_quotient 7 = .ok (.aload_n 0, 1) := by decide +kernel
theorem dX8_quotient_8 : decode cX8_quotient 8 = .ok (.getfield 15, 3) := by decide +kernel
theorem dX8_quotient_11 : decode cX8_quotient 11 = .ok (.invokestatic 49, 3) := by decide +kernel
theorem dX8_quotient_14 : decode cX8_quotient 14 = .ok (.invokestatic 46, 3) := by decide +kernel
theorem dX8_quotient_17 : decode cX8_quotient 17 = .ok (.lstore_n 1, 1) := by decide +kernel
theorem dX8_quotient_18 : decode cX8_quotient 18 = .ok (.new 10, 3) := by decide +kernel
theorem dX8_quotient_21 : decode cX8_quotient 21 = .ok (.dup, 1) := by decide +kernel
theorem dX8_quotient_22 : decode cX8_quotient 22 = .ok (.lload_n 1, 1) := by decide +kernel
theorem dX8_quotient_23 : decode cX8_quotient 23 = .ok (.lneg, 1) := by decide +kernel
theorem dX8_quotient_24 : decode cX8_quotient 24 = .ok (.lload_n 1, 1) := by decide +kernel
theorem dX8_quotient_25 : decode cX8_quotient 25 = .ok (.invokespecial 18, 3) := by decide +kernel
theorem dX8_quotient_28 : decode cX8_quotient 28 = .ok (.areturn, 1) := by decide +kernel
theorem dX8_comparison_0 : decode cX8_comparison 0 = .ok (.aload_n 0, 1) := by decide +kernel
theorem dX8_comparison_1 : decode cX8_comparison 1 = .ok (.getfield 15, 3) := by decide +kernel
theorem dX8_comparison_4 : decode cX8_comparison 4 = .ok (.aload_n 1, 1) := by decide +kernel
theorem dX8_comparison_5 : decode cX8_comparison 5 = .ok (.getfield 9, 3) := by decide +kernel
theorem dX8_comparison_8 : decode cX8_comparison 8 = .ok (.lcmp, 1) := by decide +kernel
theorem dX8_comparison_9 : decode cX8_comparison 9 = .ok (.ifCond .ge 7, 3) := by decide +kernel
theorem dX8_comparison_12 : decode cX8_comparison 12 = .ok (.iconst 1, 1) := by decide +kernel
theorem dX8_comparison_13 : decode cX8_comparison 13 = .ok (.goto 4, 3) := by decide +kernel
theorem dX8_comparison_16 : decode cX8_comparison 16 = .ok (.iconst 0, 1) := by decide +kernel
theorem dX8_comparison_17 : decode cX8_comparison 17 = .ok (.istore_n 2, 1) := by decide +kernel
theorem dX8_comparison_18 : decode cX8_comparison 18 = .ok (.aload_n 0, 1) := by decide +kernel
theorem dX8_comparison_19 : decode cX8_comparison 19 = .ok (.getfield 9, 3) := by decide +kernel
theorem dX8_comparison_22 : decode cX8_comparison 22 = .ok (.aload_n 1, 1) := by decide +kernel
theorem dX8_comparison_23 : decode cX8_comparison 23 = .ok (.getfield 15, 3) := by decide +kernel
theorem dX8_comparison_26 : decode cX8_comparison 26 = .ok (.lcmp, 1) := by decide +kernel
theorem dX8_comparison_27 : decode cX8_comparison 27 = .ok (.ifCond .ge 7, 3) := by decide +kernel
theorem dX8_comparison_30 : decode cX8_comparison 30 = .ok (.iconst 1, 1) := by decide +kernel
theorem dX8_comparison_31 : decode cX8_comparison 31 = .ok (.goto 4, 3) := by decide +kernel
theorem dX8_comparison_34 : decode cX8_comparison 34 = .ok (.iconst 0, 1) := by decide +kernel
theorem dX8_comparison_35 : decode cX8_comparison 35 = .ok (.istore_n 3, 1) := by decide +kernel
theorem dX8_comparison_36 : decode cX8_comparison 36 = .ok (.new 10, 3) := by decide +kernel
theorem dX8_comparison_39 : decode cX8_comparison 39 = .ok (.dup, 1) := by decide +kernel
theorem dX8_comparison_40 : decode cX8_comparison 40 = .ok (.iload_n 2, 1) := by decide +kernel
theorem dX8_comparison_41 : decode cX8_comparison 41 = .ok (.ifCond .eq 7, 3) := by decide +kernel
theorem dX8_comparison_44 : decode cX8_comparison 44 = .ok (.lconst 1, 1) := by decide +kernel
theorem dX8_comparison_45 : decode cX8_comparison 45 = .ok (.goto 4, 3) := by decide +kernel
theorem dX8_comparison_48 : decode cX8_comparison 48 = .ok (.lconst 0, 1) := by decide +kernel
theorem dX8_comparison_49 : decode cX8_comparison 49 = .ok (.iload_n 3, 1) := by decide +kernel
theorem dX8_comparison_50 : decode cX8_comparison 50 = .ok (.ifCond .eq 7, 3) := by decide +kernel
theorem dX8_comparison_53 : decode cX8_comparison 53 = .ok (.lconst 1, 1) := by decide +kernel
theorem dX8_comparison_54 : decode cX8_comparison 54 = .ok (.goto 4, 3) := by decide +kernel
theorem dX8_comparison_57 : decode cX8_comparison 57 = .ok (.lconst 0, 1) := by decide +kernel
theorem dX8_comparison_58 : decode cX8_comparison 58 = .ok (.invokespecial 18, 3) := by decide +kernel
theorem dX8_comparison_61 : decode cX8_comparison 61 = .ok (.areturn, 1) := by decide +kernel
theorem dX9_init_0 : decode cX9_init 0 = .ok (.aload_n 0, 1) := by decide +kernel
theorem dX9_init_1 : decode cX9_init 1 = .ok (.invokespecial 3, 3) := by decide +kernel
theorem dX9_init_4 : decode cX9_init 4 = .ok (.aload_n 0, 1) := by decide +kernel
theorem dX9_init_5 : decode cX9_init 5 = .ok (.iconst 4, 1) := by decide +kernel
theorem dX9_init_6 : decode cX9_init 6 = .ok (.newarray .int, 2) := by decide +kernel
theorem dX9_init_8 : decode cX9_init 8 = .ok (.dup, 1) := by decide +kernel
theorem dX9_init_9 : decode cX9_init 9 = .ok (.iconst 0, 1) := by decide +kernel
theorem dX9_init_10 : decode cX9_init 10 = .ok (.iconst 1, 1) := by decide +kernel
theorem dX9_init_11 : decode cX9_init 11 = .ok (.iastore, 1) := by decide +kernel
theorem dX9_init_12 : decode cX9_init 12 = .ok (.dup, 1) := by decide +kernel
theorem dX9_init_13 : decode cX9_init 13 = .ok (.iconst 1, 1) := by decide +kernel
theorem dX9_init_14 : decode cX9_init 14 = .ok (.iconst 1, 1) := by decide +kernel
theorem dX9_init_15 : decode cX9_init 15 = .ok (.iastore, 1) := by decide +kernel
theorem dX9_init_16 : decode cX9_init 16 = .ok (.dup, 1) := by decide +kernel
theorem dX9_init_17 : decode cX9_init 17 = .ok (.iconst 2, 1) := by decide +kernel
theorem dX9_init_18 : decode cX9_init 18 = .ok (.iconst 1, 1) := by decide +kernel
theorem dX9_init_19 : decode cX9_init 19 = .ok (.iastore, 1) := by decide +kernel
theorem dX9_init_20 : decode cX9_init 20 = .ok (.dup, 1) := by decide +kernel
theorem dX9_init_21 : decode cX9_init 21 = .ok (.iconst 3, 1) := by decide +kernel
theorem dX9_init_22 : decode cX9_init 22 = .ok (.iconst 1, 1) := by decide +kernel
theorem dX9_init_23 : decode cX9_init 23 = .ok (.iastore, 1) := by decide +kernel
theorem dX9_init_24 : decode cX9_init 24 = .ok (.putfield 9, 3) := by decide +kernel
theorem dX9_init_27 : decode cX9_init 27 = .ok (.aload_n 0, 1) := by decide +kernel
theorem dX9_init_28 : decode cX9_init 28 = .ok (.iconst 4, 1) := by decide +kernel
theorem dX9_init_29 : decode cX9_init 29 = .ok (.newarray .int, 2) := by decide +kernel
theorem dX9_init_31 : decode cX9_init 31 = .ok (.dup, 1) := by decide +kernel
theorem dX9_init_32 : decode cX9_init 32 = .ok (.iconst 0, 1) := by decide +kernel
theorem dX9_init_33 : decode cX9_init 33 = .ok (.iconst 1, 1) := by decide +kernel
theorem dX9_init_34 : decode cX9_init 34 = .ok (.iastore, 1) := by decide +kernel
theorem dX9_init_35 : decode cX9_init 35 = .ok (.dup, 1) := by decide +kernel
theorem dX9_init_36 : decode cX9_init 36 = .ok (.iconst 1, 1) := by decide +kernel
theorem dX9_init_37 : decode cX9_init 37 = .ok (.iconst 2, 1) := by decide +kernel
theorem dX9_init_38 : decode cX9_init 38 = .ok (.iastore, 1) := by decide +kernel
theorem dX9_init_39 : decode cX9_init 39 = .ok (.dup, 1) := by decide +kernel
theorem dX9_init_40 : decode cX9_init 40 = .ok (.iconst 2, 1) := by decide +kernel
theorem dX9_init_41 : decode cX9_init 41 = .ok (.iconst 4, 1) := by decide +kernel
theorem dX9_init_42 : decode cX9_init 42 = .ok (.iastore, 1) := by decide +kernel
theorem dX9_init_43 : decode cX9_init 43 = .ok (.dup, 1) := by decide +kernel
theorem dX9_init_44 : decode cX9_init 44 = .ok (.iconst 3, 1) := by decide +kernel
theorem dX9_init_45 : decode cX9_init 45 = .ok (.iconst 1, 1) := by decide +kernel
theorem dX9_init_46 : decode cX9_init 46 = .ok (.iastore, 1) := by decide +kernel
theorem dX9_init_47 : decode cX9_init 47 = .ok (.putfield 15, 3) := by decide +kernel
theorem dX9_init_50 : decode cX9_init 50 = .ok (.aload_n 0, 1) := by decide +kernel
theorem dX9_init_51 : decode cX9_init 51 = .ok (.iconst 4, 1) := by decide +kernel
theorem dX9_init_52 : decode cX9_init 52 = .ok (.newarray .boolean, 2) := by decide +kernel
theorem dX9_init_54 : decode cX9_init 54 = .ok (.putfield 18, 3) := by decide +kernel
theorem dX9_init_57 : decode cX9_init 57 = .ok (.return_, 1) := by decide +kernel
theorem dX9_lengthOf_0 : decode cX9_lengthOf 0 = .ok (.aload_n 1, 1) := by decide +kernel
theorem dX9_lengthOf_1 : decode cX9_lengthOf 1 = .ok (.getfield 22, 3) := by decide +kernel
theorem dX9_lengthOf_4 : decode cX9_lengthOf 4 = .ok (.ifCond .ne 5, 3) := by decide +kernel
theorem dX9_lengthOf_7 : decode cX9_lengthOf 7 = .ok (.iconst 0, 1) := by decide +kernel
theorem dX9_lengthOf_8 : decode cX9_lengthOf 8 = .ok (.ireturn, 1) := by decide +kernel
theorem dX9_lengthOf_9 : decode cX9_lengthOf 9 = .ok (.aload_n 1, 1) := by decide +kernel
theorem dX9_lengthOf_10 : decode cX9_lengthOf 10 = .ok (.invokevirtual 28, 3) := by decide +kernel
theorem dX9_lengthOf_13 : decode cX9_lengthOf 13 = .ok (.istore_n 2, 1) := by decide +kernel
theorem dX9_lengthOf_14 : decode cX9_lengthOf 14 = .ok (.iload_n 2, 1) := by decide +kernel
theorem dX9_lengthOf_15 : decode cX9_lengthOf 15 = .ok (.bipush (-2), 2) := by decide +kernel
theorem dX9_lengthOf_17 : decode cX9_lengthOf 17 = .ok (.if_icmp .ne 7, 3) := by decide +kernel
theorem dX9_lengthOf_20 : decode cX9_lengthOf 20 = .ok (.iconst 1, 1) := by decide +kernel
theorem dX9_lengthOf_21 : decode cX9_lengthOf 21 = .ok (.goto 9, 3) := by decide +kernel
theorem dX9_lengthOf_24 : decode cX9_lengthOf 24 = .ok (.aload_n 0, 1) := by decide +kernel
theorem dX9_lengthOf_25 : decode cX9_lengthOf 25 = .ok (.getfield 15, 3) := by decide +kernel
theorem dX9_lengthOf_28 : decode cX9_lengthOf 28 = .ok (.iload_n 2, 1) := by decide +kernel
theorem dX9_lengthOf_29 : decode cX9_lengthOf 29 = .ok (.iaload, 1) := by decide +kernel
theorem dX9_lengthOf_30 : decode cX9_lengthOf 30 = .ok (.ireturn, 1) := by decide +kernel
theorem dX9_filledTicks_0 : decode cX9_filledTicks 0 = .ok (.aload_n 0, 1) := by decide +kernel
theorem dX9_filledTicks_1 : decode cX9_filledTicks 1 = .ok (.getfield 18, 3) := by decide +kernel
theorem dX9_filledTicks_4 : decode cX9_filledTicks 4 = .ok (.iload_n 1, 1) := by decide +kernel
theorem dX9_filledTicks_5 : decode cX9_filledTicks 5 = .ok (.baload, 1) := by decide +kernel
theorem dX9_filledTicks_6 : decode cX9_filledTicks 6 = .ok (.ifCond .eq 7, 3) := by decide +kernel
theorem dX9_filledTicks_9 : decode cX9_filledTicks 9 = .ok (.iconst 1, 1) := by decide +kernel
theorem dX9_filledTicks_10 : decode cX9_filledTicks 10 = .ok (.goto 9, 3) := by decide +kernel
theorem dX9_filledTicks_13 : decode cX9_filledTicks 13 = .ok (.aload_n 0, 1) := by decide +kernel
theorem dX9_filledTicks_14 : decode cX9_filledTicks 14 = .ok (.getfield 15, 3) := by decide +kernel
theorem dX9_filledTicks_17 : decode cX9_filledTicks 17 = .ok (.iload_n 1, 1) := by decide +kernel
theorem dX9_filledTicks_18 : decode cX9_filledTicks 18 = .ok (.iaload, 1) := by decide +kernel
theorem dX9_filledTicks_19 : decode cX9_filledTicks 19 = .ok (.ireturn, 1) := by decide +kernel
theorem dX9_leastTicks_0 : decode cX9_leastTicks 0 = .ok (.iconst 0, 1) := by decide +kernel
theorem dX9_leastTicks_1 : decode cX9_leastTicks 1 = .ok (.istore_n 3, 1) := by decide +kernel
theorem dX9_leastTicks_2 : decode cX9_leastTicks 2 = .ok (.iconst 0, 1) := by decide +kernel
theorem dX9_leastTicks_3 : decode cX9_leastTicks 3 = .ok (.istore 4, 2) := by decide +kernel
theorem dX9_leastTicks_5 : decode cX9_leastTicks 5 = .ok (.iload 4, 2) := by decide +kernel
theorem dX9_leastTicks_7 : decode cX9_leastTicks 7 = .ok (.aload_n 2, 1) := by decide +kernel
theorem dX9_leastTicks_8 : decode cX9_leastTicks 8 = .ok (.invokevirtual 32, 3) := by decide +kernel
theorem dX9_leastTicks_11 : decode cX9_leastTicks 11 = .ok (.if_icmp .ge 30, 3) := by decide +kernel
theorem dX9_leastTicks_14 : decode cX9_leastTicks 14 = .ok (.aload_n 2, 1) := by decide +kernel
theorem dX9_leastTicks_15 : decode cX9_leastTicks 15 = .ok (.iload 4, 2) := by decide +kernel
theorem dX9_leastTicks_17 : decode cX9_leastTicks 17 = .ok (.invokevirtual 37, 3) := by decide +kernel
theorem dX9_leastTicks_20 : decode cX9_leastTicks 20 = .ok (.invokevirtual 28, 3) := by decide +kernel
theorem dX9_leastTicks_23 : decode cX9_leastTicks 23 = .ok (.iload_n 1, 1) := by decide +kernel
theorem dX9_leastTicks_24 : decode cX9_leastTicks 24 = .ok (.if_icmp .ne 11, 3) := by decide +kernel
theorem dX9_leastTicks_27 : decode cX9_leastTicks 27 = .ok (.iload_n 3, 1) := by decide +kernel
theorem dX9_leastTicks_28 : decode cX9_leastTicks 28 = .ok (.aload_n 0, 1) := by decide +kernel
theorem dX9_leastTicks_29 : decode cX9_leastTicks 29 = .ok (.iload_n 1, 1) := by decide +kernel
theorem dX9_leastTicks_30 : decode cX9_leastTicks 30 = .ok (.invokevirtual 41, 3) := by decide +kernel
theorem dX9_leastTicks_33 : decode cX9_leastTicks 33 = .ok (.iadd, 1) := by decide +kernel
theorem dX9_leastTicks_34 : decode cX9_leastTicks 34 = .ok (.istore_n 3, 1) := by decide +kernel
theorem dX9_leastTicks_35 : decode cX9_leastTicks 35 = .ok (.iinc 4 1, 3) := by decide +kernel
theorem dX9_leastTicks_38 : decode cX9_leastTicks 38 = .ok (.goto (-33), 3) := by decide +kernel
theorem dX9_leastTicks_41 : decode cX9_leastTicks 41 = .ok (.iconst 1, 1) := by decide +kernel
theorem dX9_leastTicks_42 : decode cX9_leastTicks 42 = .ok (.aload_n 0, 1) := by decide +kernel
theorem dX9_leastTicks_43 : decode cX9_leastTicks 43 = .ok (.getfield 9, 3) := by decide +kernel
theorem dX9_leastTicks_46 : decode cX9_leastTicks 46 = .ok (.iload_n 1, 1) := by decide +kernel
theorem dX9_leastTicks_47 : decode cX9_leastTicks 47 = .ok (.iaload, 1) := by decide +kernel
theorem dX9_leastTicks_48 : decode cX9_leastTicks 48 = .ok (.invokestatic 45, 3) := by decide +kernel
theorem dX9_leastTicks_51 : decode cX9_leastTicks 51 = .ok (.istore 4, 2) := by decide +kernel
theorem dX9_leastTicks_53 : decode cX9_leastTicks 53 = .ok (.iload_n 3, 1) := by decide +kernel
theorem dX9_leastTicks_54 : decode cX9_leastTicks 54 = .ok (.iload 4, 2) := by decide +kernel
theorem dX9_leastTicks_56 : decode cX9_leastTicks 56 = .ok (.iadd, 1) := by decide +kernel
theorem dX9_leastTicks_57 : decode cX9_leastTicks 57 = .ok (.iconst 1, 1) := by decide +kernel
theorem dX9_leastTicks_58 : decode cX9_leastTicks 58 = .ok (.isub, 1) := by decide +kernel
theorem dX9_leastTicks_59 : decode cX9_leastTicks 59 = .ok (.iload 4, 2) := by decide +kernel
theorem dX9_leastTicks_61 : decode cX9_leastTicks 61 = .ok (.idiv, 1) := by decide +kernel
theorem dX9_leastTicks_62 : decode cX9_leastTicks 62 = .ok (.ireturn, 1) := by decide +kernel
theorem dX10_init_0 : decode cX10_init 0 = .ok (.aload_n 0, 1) := by decide +kernel
theorem dX10_init_1 : decode cX10_init 1 = .ok (.invokespecial 1, 3) := by decide +kernel
theorem dX10_init_4 : decode cX10_init 4 = .ok (.aload_n 0, 1) := by decide +kernel
theorem dX10_init_5 : decode cX10_init 5 = .ok (.iconst 0, 1) := by decide +kernel
theorem dX10_init_6 : decode cX10_init 6 = .ok (.putfield 7, 3) := by decide +kernel
theorem dX10_init_9 : decode cX10_init 9 = .ok (.aload_n 0, 1) := by decide +kernel
theorem dX10_init_10 : decode cX10_init 10 = .ok (.iload_n 1, 1) := by decide +kernel
theorem dX10_init_11 : decode cX10_init 11 = .ok (.newarray .long, 2) := by decide +kernel
theorem dX10_init_13 : decode cX10_init 13 = .ok (.putfield 13, 3) := by decide +kernel
theorem dX10_init_16 : decode cX10_init 16 = .ok (.return_, 1) := by decide +kernel
theorem dX10_size_0 : decode cX10_size 0 = .ok (.aload_n 0, 1) := by decide +kernel
theorem dX10_size_1 : decode cX10_size 1 = .ok (.getfield 7, 3) := by decide +kernel
theorem dX10_size_4 : decode cX10_size 4 = .ok (.ireturn, 1) := by decide +kernel
theorem dX10_isFull_0 : decode cX10_isFull 0 = .ok (.aload_n 0, 1) := by decide +kernel
theorem dX10_isFull_1 : decode cX10_isFull 1 = .ok (.getfield 7, 3) := by decide +kernel
theorem dX10_isFull_4 : decode cX10_isFull 4 = .ok (.aload_n 0, 1) := by decide +kernel
theorem dX10_isFull_5 : decode cX10_isFull 5 = .ok (.getfield 13, 3) := by decide +kernel
theorem dX10_isFull_8 : decode cX10_isFull 8 = .ok (.arraylength, 1) := by decide +kernel
theorem dX10_isFull_9 : decode cX10_isFull 9 = .ok (.if_icmp .ne 7, 3) := by decide +kernel
theorem dX10_isFull_12 : decode cX10_isFull 12 = .ok (.iconst 1, 1) := by decide +kernel
theorem dX10_isFull_13 : decode cX10_isFull 13 = .ok (.goto 4, 3) := by decide +kernel
theorem dX10_isFull_16 : decode cX10_isFull 16 = .ok (.iconst 0, 1) := by decide +kernel
theorem dX10_isFull_17 : decode cX10_isFull 17 = .ok (.ireturn, 1) := by decide +kernel
theorem dX10_get_0 : decode cX10_get 0 = .ok (.aload_n 0, 1) := by decide +kernel
theorem dX10_get_1 : decode cX10_get 1 = .ok (.getfield 13, 3) := by decide +kernel
theorem dX10_get_4 : decode cX10_get 4 = .ok (.iload_n 1, 1) := by decide +kernel
theorem dX10_get_5 : decode cX10_get 5 = .ok (.laload, 1) := by decide +kernel
theorem dX10_get_6 : decode cX10_get 6 = .ok (.lreturn, 1) := by decide +kernel
theorem dX10_append_0 : decode cX10_append 0 = .ok (.aload_n 0, 1) := by decide +kernel
theorem dX10_append_1 : decode cX10_append 1 = .ok (.getfield 7, 3) := by decide +kernel
theorem dX10_append_4 : decode cX10_append 4 = .ok (.aload_n 0, 1) := by decide +kernel
theorem dX10_append_5 : decode cX10_append 5 = .ok (.getfield 13, 3) := by decide +kernel
theorem dX10_append_8 : decode cX10_append 8 = .ok (.arraylength, 1) := by decide +kernel
theorem dX10_append_9 : decode cX10_append 9 = .ok (.if_icmp .ge 23, 3) := by decide +kernel
theorem dX10_append_12 : decode cX10_append 12 = .ok (.aload_n 0, 1) := by decide +kernel
theorem dX10_append_13 : decode cX10_append 13 = .ok (.getfield 13, 3) := by decide +kernel
theorem dX10_append_16 : decode cX10_append 16 = .ok (.aload_n 0, 1) := by decide +kernel
theorem dX10_append_17 : decode cX10_append 17 = .ok (.getfield 7, 3) := by decide +kernel
theorem dX10_append_20 : decode cX10_append 20 = .ok (.lload_n 1, 1) := by decide +kernel
theorem dX10_append_21 : decode cX10_append 21 = .ok (.lastore, 1) := by decide +kernel
theorem dX10_append_22 : decode cX10_append 22 = .ok (.aload_n 0, 1) := by decide +kernel
theorem dX10_append_23 : decode cX10_append 23 = .ok (.dup, 1) := by decide +kernel
theorem dX10_append_24 : decode cX10_append 24 = .ok (.getfield 7, 3) := by decide +kernel
theorem dX10_append_27 : decode cX10_append 27 = .ok (.iconst 1, 1) := by decide +kernel
theorem dX10_append_28 : decode cX10_append 28 = .ok (.iadd, 1) := by decide +kernel
theorem dX10_append_29 : decode cX10_append 29 = .ok (.putfield 7, 3) := by decide +kernel
theorem dX10_append_32 : decode cX10_append 32 = .ok (.return_, 1) := by decide +kernel
theorem dX10_clear_0 : decode cX10_clear 0 = .ok (.aload_n 0, 1) := by decide +kernel
theorem dX10_clear_1 : decode cX10_clear 1 = .ok (.iconst 0, 1) := by decide +kernel
theorem dX10_clear_2 : decode cX10_clear 2 = .ok (.putfield 7, 3) := by decide +kernel
theorem dX10_clear_5 : decode cX10_clear 5 = .ok (.return_, 1) := by decide +kernel
theorem dX11_init_0 : decode cX11_init 0 = .ok (.aload_n 0, 1) := by decide +kernel
theorem dX11_init_1 : decode cX11_init 1 = .ok (.invokespecial 1, 3) := by decide +kernel
theorem dX11_init_4 : decode cX11_init 4 = .ok (.aload_n 0, 1) := by decide +kernel
theorem dX11_init_5 : decode cX11_init 5 = .ok (.new 7, 3) := by decide +kernel
theorem dX11_init_8 : decode cX11_init 8 = .ok (.dup, 1) := by decide +kernel
theorem dX11_init_9 : decode cX11_init 9 = .ok (.invokespecial 9, 3) := by decide +kernel
theorem dX11_init_12 : decode cX11_init 12 = .ok (.putfield 10, 3) := by decide +kernel
theorem dX11_init_15 : decode cX11_init 15 = .ok (.aload_n 0, 1) := by decide +kernel
theorem dX11_init_16 : decode cX11_init 16 = .ok (.new 16, 3) := by decide +kernel
theorem dX11_init_19 : decode cX11_init 19 = .ok (.dup, 1) := by decide +kernel
theorem dX11_init_20 : decode cX11_init 20 = .ok (.invokespecial 18, 3) := by decide +kernel
theorem dX11_init_23 : decode cX11_init 23 = .ok (.putfield 19, 3) := by decide +kernel
theorem dX11_init_26 : decode cX11_init 26 = .ok (.aload_n 0, 1) := by decide +kernel
theorem dX11_init_27 : decode cX11_init 27 = .ok (.new 23, 3) := by decide +kernel
theorem dX11_init_30 : decode cX11_init 30 = .ok (.dup, 1) := by decide +kernel
theorem dX11_init_31 : decode cX11_init 31 = .ok (.aload_n 0, 1) := by decide +kernel
theorem dX11_init_32 : decode cX11_init 32 = .ok (.getfield 10, 3) := by decide +kernel
theorem dX11_init_35 : decode cX11_init 35 = .ok (.aload_n 0, 1) := by decide +kernel
theorem dX11_init_36 : decode cX11_init 36 = .ok (.getfield 19, 3) := by decide +kernel
theorem dX11_init_39 : decode cX11_init 39 = .ok (.invokespecial 25, 3) := by decide +kernel
theorem dX11_init_42 : decode cX11_init 42 = .ok (.putfield 28, 3) := by decide +kernel
theorem dX11_init_45 : decode cX11_init 45 = .ok (.aload_n 0, 1) := by decide +kernel
theorem dX11_init_46 : decode cX11_init 46 = .ok (.new 32, 3) := by decide +kernel
theorem dX11_init_49 : decode cX11_init 49 = .ok (.dup, 1) := by decide +kernel
theorem dX11_init_50 : decode cX11_init 50 = .ok (.aload_n 0, 1) := by decide +kernel
theorem dX11_init_51 : decode cX11_init 51 = .ok (.getfield 10, 3) := by decide +kernel
theorem dX11_init_54 : decode cX11_init 54 = .ok (.aload_n 0, 1) := by decide +kernel
theorem dX11_init_55 : decode cX11_init 55 = .ok (.getfield 19, 3) := by decide +kernel
theorem dX11_init_58 : decode cX11_init 58 = .ok (.aload_n 0, 1) := by decide +kernel
theorem dX11_init_59 : decode cX11_init 59 = .ok (.getfield 28, 3) := by decide +kernel
theorem dX11_init_62 : decode cX11_init 62 = .ok (.invokespecial 34, 3) := by decide +kernel
theorem dX11_init_65 : decode cX11_init 65 = .ok (.putfield 37, 3) := by decide +kernel
theorem dX11_init_68 : decode cX11_init 68 = .ok (.aload_n 0, 1) := by decide +kernel
theorem dX11_init_69 : decode cX11_init 69 = .ok (.new 41, 3) := by decide +kernel
theorem dX11_init_72 : decode cX11_init 72 = .ok (.dup, 1) := by decide +kernel
theorem dX11_init_73 : decode cX11_init 73 = .ok (.aload_n 0, 1) := by decide +kernel
theorem dX11_init_74 : decode cX11_init 74 = .ok (.getfield 10, 3) := by decide +kernel
theorem dX11_init_77 : decode cX11_init 77 = .ok (.aload_n 0, 1) := by decide +kernel
theorem dX11_init_78 : decode cX11_init 78 = .ok (.getfield 19, 3) := by decide +kernel
theorem dX11_init_81 : decode cX11_init 81 = .ok (.aload_n 0, 1) := by decide +kernel
theorem dX11_init_82 : decode cX11_init 82 = .ok (.getfield 37, 3) := by decide +kernel
theorem dX11_init_85 : decode cX11_init 85 = .ok (.invokespecial 43, 3) := by decide +kernel
theorem dX11_init_88 : decode cX11_init 88 = .ok (.putfield 46, 3) := by decide +kernel
theorem dX11_init_91 : decode cX11_init 91 = .ok (.aload_n 0, 1) := by decide +kernel
theorem dX11_init_92 : decode cX11_init 92 = .ok (.new 50, 3) := by decide +kernel
theorem dX11_init_95 : decode cX11_init 95 = .ok (.dup, 1) := by decide +kernel
theorem dX11_init_96 : decode cX11_init 96 = .ok (.aload_n 0, 1) := by decide +kernel
theorem dX11_init_97 : decode cX11_init 97 = .ok (.getfield 10, 3) := by decide +kernel
theorem dX11_init_100 : decode cX11_init 100 = .ok (.invokespecial 52, 3) := by decide +kernel
theorem dX11_init_103 : decode cX11_init 103 = .ok (.putfield 55, 3) := by decide +kernel
theorem dX11_init_106 : decode cX11_init 106 = .ok (.aload_n 0, 1) := by decide +kernel
theorem dX11_init_107 : decode cX11_init 107 = .ok (.bipush 8, 2) := by decide +kernel
theorem dX11_init_109 : decode cX11_init 109 = .ok (.anewarray 59, 3) := by decide +kernel
theorem dX11_init_112 : decode cX11_init 112 = .ok (.putfield 61, 3) := by decide +kernel
theorem dX11_init_115 : decode cX11_init 115 = .ok (.aload_n 0, 1) := by decide +kernel
theorem dX11_init_116 : decode cX11_init 116 = .ok (.iconst 0, 1) := by decide +kernel
theorem dX11_init_117 : decode cX11_init 117 = .ok (.putfield 65, 3) := by decide +kernel
theorem dX11_init_120 : decode cX11_init 120 = .ok (.aload_n 0, 1) := by decide +kernel
theorem dX11_init_121 : decode cX11_init 121 = .ok (.iconst 0, 1) := by decide +kernel
theorem dX11_init_122 : decode cX11_init 122 = .ok (.putfield 69, 3) := by decide +kernel
theorem dX11_init_125 : decode cX11_init 125 = .ok (.return_, 1) := by decide +kernel
theorem dX11_constant_0 : decode cX11_constant 0 = .ok (.iload_n 3, 1) := by decide +kernel
theorem dX11_constant_1 : decode cX11_constant 1 = .ok (.invokestatic 72, 3) := by decide +kernel
theorem dX11_constant_4 : decode cX11_constant 4 = .ok (.ifCond .ne 5, 3) := by decide +kernel
theorem dX11_constant_7 : decode cX11_constant 7 = .ok (.iconst (-1), 1) := by decide +kernel
theorem dX11_constant_8 : decode cX11_constant 8 = .ok (.ireturn, 1) := by decide +kernel
theorem dX11_constant_9 : decode cX11_constant 9 = .ok (.lload_n 1, 1) := by decide +kernel
theorem dX11_constant_10 : decode cX11_constant 10 = .ok (.iload_n 3, 1) := by decide +kernel
theorem dX11_constant_11 : decode cX11_constant 11 = .ok (.invokestatic 76, 3) := by decide +kernel
theorem dX11_constant_14 : decode cX11_constant 14 = .ok (.lstore 4, 2) := by decide +kernel
theorem dX11_constant_16 : decode cX11_constant 16 = .ok (.aload_n 0, 1) := by decide +kernel
theorem dX11_constant_17 : decode cX11_constant 17 = .ok (.new 80, 3) := by decide +kernel
theorem dX11_constant_20 : decode cX11_constant 20 = .ok (.dup, 1) := by decide +kernel
theorem dX11_constant_21 : decode cX11_constant 21 = .ok (.iconst 0, 1) := by decide +kernel
theorem dX11_constant_22 : decode cX11_constant 22 = .ok (.iload_n 3, 1) := by decide +kernel
theorem dX11_constant_23 : decode cX11_constant 23 = .ok (.bipush (-2), 2) := by decide +kernel
theorem dX11_constant_25 : decode cX11_constant 25 = .ok (.bipush (-2), 2) := by decide +kernel
theorem dX11_constant_27 : decode cX11_constant 27 = .ok (.bipush (-2), 2) := by decide +kernel
theorem dX11_constant_29 : decode cX11_constant 29 = .ok (.bipush (-2), 2) := by decide +kernel
theorem dX11_constant_31 : decode cX11_constant 31 = .ok (.new 82, 3) := by decide +kernel
theorem dX11_constant_34 : decode cX11_constant 34 = .ok (.dup, 1) := by decide +kernel
theorem dX11_constant_35 : decode cX11_constant 35 = .ok (.lload 4, 2) := by decide +kernel
theorem dX11_constant_37 : decode cX11_constant 37 = .ok (.lload 4, 2) := by decide +kernel
theorem dX11_constant_39 : decode cX11_constant 39 = .ok (.invokespecial 84, 3) := by decide +kernel
theorem dX11_constant_42 : decode cX11_constant 42 = .ok (.invokespecial 87, 3) := by decide +kernel
theorem dX11_constant_45 : decode cX11_constant 45 = .ok (.invokevirtual 90, 3) := by decide +kernel
theorem dX11_constant_48 : decode cX11_constant 48 = .ok (.ireturn, 1) := by decide +kernel
theorem dX11_port_0 : decode cX11_port 0 = .ok (.iload_n 2, 1) := by decide +kernel
theorem dX11_port_1 : decode cX11_port 1 = .ok (.iconst (-1), 1) := by decide +kernel
theorem dX11_port_2 : decode cX11_port 2 = .ok (.if_icmp .ne 7, 3) := by decide +kernel
theorem dX11_port_5 : decode cX11_port 5 = .ok (.iconst 1, 1) := by decide +kernel
theorem dX11_port_6 : decode cX11_port 6 = .ok (.goto 4, 3) := by decide +kernel
theorem dX11_port_9 : decode cX11_port 9 = .ok (.iconst 0, 1) := by decide +kernel
theorem dX11_port_10 : decode cX11_port 10 = .ok (.istore 4, 2) := by decide +kernel
theorem dX11_port_12 : decode cX11_port 12 = .ok (.iload_n 1, 1) := by decide +kernel
theorem dX11_port_13 : decode cX11_port 13 = .ok (.invokestatic 94, 3) := by decide +kernel
theorem dX11_port_16 : decode cX11_port 16 = .ok (.ifCond .eq 26, 3) := by decide +kernel
theorem dX11_port_19 : decode cX11_port 19 = .ok (.iload 4, 2) := by decide +kernel
theorem dX11_port_21 : decode cX11_port 21 = .ok (.ifCond .ne 14, 3) := by decide +kernel
theorem dX11_port_24 : decode cX11_port 24 = .ok (.aload_n 0, 1) := by decide +kernel
theorem dX11_port_25 : decode cX11_port 25 = .ok (.getfield 10, 3) := by decide +kernel
theorem dX11_port_28 : decode cX11_port 28 = .ok (.iload_n 2, 1) := by decide +kernel
theorem dX11_port_29 : decode cX11_port 29 = .ok (.invokevirtual 97, 3) := by decide +kernel
theorem dX11_port_32 : decode cX11_port 32 = .ok (.ifCond .eq 10, 3) := by decide +kernel
theorem dX11_port_35 : decode cX11_port 35 = .ok (.iload_n 3, 1) := by decide +kernel
theorem dX11_port_36 : decode cX11_port 36 = .ok (.invokestatic 72, 3) := by decide +kernel
theorem dX11_port_39 : decode cX11_port 39 = .ok (.ifCond .ne 5, 3) := by decide +kernel
theorem dX11_port_42 : decode cX11_port 42 = .ok (.iconst (-1), 1) := by decide +kernel
theorem dX11_port_43 : decode cX11_port 43 = .ok (.ireturn, 1) := by decide +kernel
theorem dX11_port_44 : decode cX11_port 44 = .ok (.iload 4, 2) := by decide +kernel
theorem dX11_port_46 : decode cX11_port 46 = .ok (.ifCond .eq 28, 3) := by decide +kernel
theorem dX11_port_49 : decode cX11_port 49 = .ok (.aload_n 0, 1) := by decide +kernel
theorem dX11_port_50 : decode cX11_port 50 = .ok (.new 80, 3) := by decide +kernel
theorem dX11_port_53 : decode cX11_port 53 = .ok (.dup, 1) := by decide +kernel
theorem dX11_port_54 : decode cX11_port 54 = .ok (.iconst 1, 1) := by decide +kernel
theorem dX11_port_55 : decode cX11_port 55 = .ok (.iload_n 3, 1) := by decide +kernel
theorem dX11_port_56 : decode cX11_port 56 = .ok (.iload_n 1, 1) := by decide +kernel
theorem dX11_port_57 : decode cX11_port 57 = .ok (.bipush (-2), 2) := by decide +kernel
theorem dX11_port_59 : decode cX11_port 59 = .ok (.bipush (-2), 2) := by decide +kernel
theorem dX11_port_61 : decode cX11_port 61 = .ok (.bipush (-2), 2) := by decide +kernel
theorem dX11_port_63 : decode cX11_port 63 = .ok (.iload_n 3, 1) := by decide +kernel
theorem dX11_port_64 : decode cX11_port 64 = .ok (.invokestatic 100, 3) := by decide +kernel
theorem dX11_port_67 : decode cX11_port 67 = .ok (.invokespecial 87, 3) := by decide +kernel
theorem dX11_port_70 : decode cX11_port 70 = .ok (.invokevirtual 90, 3) := by decide +kernel
theorem dX11_port_73 : decode cX11_port 73 = .ok (.ireturn, 1) := by decide +kernel
theorem dX11_port_74 : decode cX11_port 74 = .ok (.aload_n 0, 1) := by decide +kernel
theorem dX11_port_75 : decode cX11_port 75 = .ok (.getfield 10, 3) := by decide +kernel
theorem dX11_port_78 : decode cX11_port 78 = .ok (.iload_n 2, 1) := by decide +kernel
theorem dX11_port_79 : decode cX11_port 79 = .ok (.invokevirtual 104, 3) := by decide +kernel
theorem dX11_port_82 : decode cX11_port 82 = .ok (.getfield 108, 3) := by decide +kernel
theorem dX11_port_85 : decode cX11_port 85 = .ok (.iload_n 3, 1) := by decide +kernel
theorem dX11_port_86 : decode cX11_port 86 = .ok (.invokevirtual 112, 3) := by decide +kernel
theorem dX11_port_89 : decode cX11_port 89 = .ok (.astore 5, 2) := by decide +kernel
theorem dX11_port_91 : decode cX11_port 91 = .ok (.aload_n 0, 1) := by decide +kernel
theorem dX11_port_92 : decode cX11_port 92 = .ok (.new 80, 3) := by decide +kernel
theorem dX11_port_95 : decode cX11_port 95 = .ok (.dup, 1) := by decide +kernel
theorem dX11_port_96 : decode cX11_port 96 = .ok (.bipush 10, 2) := by decide +kernel
theorem dX11_port_98 : decode cX11_port 98 = .ok (.iload_n 3, 1) := by decide +kernel
theorem dX11_port_99 : decode cX11_port 99 = .ok (.iload_n 1, 1) := by decide +kernel
theorem dX11_port_100 : decode cX11_port 100 = .ok (.iload_n 2, 1) := by decide +kernel
theorem dX11_port_101 : decode cX11_port 101 = .ok (.bipush (-2), 2) := by decide +kernel
theorem dX11_port_103 : decode cX11_port 103 = .ok (.bipush (-2), 2) := by decide +kernel
theorem dX11_port_105 : decode cX11_port 105 = .ok (.aload 5, 2) := by decide +kernel
theorem dX11_port_107 : decode cX11_port 107 = .ok (.invokespecial 87, 3) := by decide +kernel
theorem dX11_port_110 : decode cX11_port 110 = .ok (.invokevirtual 90, 3) := by decide +kernel
theorem dX11_port_113 : decode cX11_port 113 = .ok (.ireturn, 1) := by decide +kernel
theorem dX11_reckon_0 : decode cX11_reckon 0 = .ok (.iload_n 1, 1) := by decide +kernel
theorem dX11_reckon_1 : decode cX11_reckon 1 = .ok (.iconst 2, 1) := by decide +kernel
theorem dX11_reckon_2 : decode cX11_reckon 2 = .ok (.bipush 6, 2) := by decide +kernel
theorem dX11_reckon_4 : decode cX11_reckon 4 = .ok (.invokestatic 115, 3) := by decide +kernel
end
section
theorem dX11_reckon_7 : decode cX11_reckon 7 = .ok (.ifCond .eq 33, 3) := by decide +kernel
theorem dX11_reckon_10 : decode cX11_reckon 10 = .ok (.aload_n 0, 1) := by decide +kernel
theorem dX11_reckon_11 : decode cX11_reckon 11 = .ok (.getfield 10, 3) := by decide +kernel
theorem dX11_reckon_14 : decode cX11_reckon 14 = .ok (.iload_n 2, 1) := by decide +kernel
theorem dX11_reckon_15 : decode cX11_reckon 15 = .ok (.invokevirtual 97, 3) := by decide +kernel
theorem dX11_reckon_18 : decode cX11_reckon 18 = .ok (.ifCond .eq 22, 3) := by decide +kernel
theorem dX11_reckon_21 : decode cX11_reckon 21 = .ok (.aload_n 0, 1) := by decide +kernel
theorem dX11_reckon_22 : decode cX11_reckon 22 = .ok (.getfield 10, 3) := by decide +kernel
theorem dX11_reckon_25 : decode cX11_reckon 25 = .ok (.iload_n 3, 1) := by decide +kernel
theorem dX11_reckon_26 : decode cX11_reckon 26 = .ok (.invokevirtual 97, 3) := by decide +kernel
theorem dX11_reckon_29 : decode cX11_reckon 29 = .ok (.ifCond .eq 11, 3) := by decide +kernel
theorem dX11_reckon_32 : decode cX11_reckon 32 = .ok (.iload 4, 2) := by decide +kernel
theorem dX11_reckon_34 : decode cX11_reckon 34 = .ok (.invokestatic 72, 3) := by decide +kernel
theorem dX11_reckon_37 : decode cX11_reckon 37 = .ok (.ifCond .ne 5, 3) := by decide +kernel
theorem dX11_reckon_40 : decode cX11_reckon 40 = .ok (.iconst (-1), 1) := by decide +kernel
theorem dX11_reckon_41 : decode cX11_reckon 41 = .ok (.ireturn, 1) := by decide +kernel
theorem dX11_reckon_42 : decode cX11_reckon 42 = .ok (.aload_n 0, 1) := by decide +kernel
theorem dX11_reckon_43 : decode cX11_reckon 43 = .ok (.getfield 10, 3) := by decide +kernel
theorem dX11_reckon_46 : decode cX11_reckon 46 = .ok (.iload_n 2, 1) := by decide +kernel
theorem dX11_reckon_47 : decode cX11_reckon 47 = .ok (.invokevirtual 104, 3) := by decide +kernel
theorem dX11_reckon_50 : decode cX11_reckon 50 = .ok (.getfield 108, 3) := by decide +kernel
theorem dX11_reckon_53 : decode cX11_reckon 53 = .ok (.iload_n 1, 1) := by decide +kernel
theorem dX11_reckon_54 : decode cX11_reckon 54 = .ok (.aload_n 0, 1) := by decide +kernel
theorem dX11_reckon_55 : decode cX11_reckon 55 = .ok (.getfield 10, 3) := by decide +kernel
theorem dX11_reckon_58 : decode cX11_reckon 58 = .ok (.iload_n 3, 1) := by decide +kernel
theorem dX11_reckon_59 : decode cX11_reckon 59 = .ok (.invokevirtual 104, 3) := by decide +kernel
theorem dX11_reckon_62 : decode cX11_reckon 62 = .ok (.getfield 108, 3) := by decide +kernel
theorem dX11_reckon_65 : decode cX11_reckon 65 = .ok (.invokevirtual 119, 3) := by decide +kernel
theorem dX11_reckon_68 : decode cX11_reckon 68 = .ok (.iload 4, 2) := by decide +kernel
theorem dX11_reckon_70 : decode cX11_reckon 70 = .ok (.invokevirtual 112, 3) := by decide +kernel
theorem dX11_reckon_73 : decode cX11_reckon 73 = .ok (.astore 5, 2) := by decide +kernel
theorem dX11_reckon_75 : decode cX11_reckon 75 = .ok (.aload_n 0, 1) := by decide +kernel
theorem dX11_reckon_76 : decode cX11_reckon 76 = .ok (.new 80, 3) := by decide +kernel
theorem dX11_reckon_79 : decode cX11_reckon 79 = .ok (.dup, 1) := by decide +kernel
theorem dX11_reckon_80 : decode cX11_reckon 80 = .ok (.iload_n 1, 1) := by decide +kernel
theorem dX11_reckon_81 : decode cX11_reckon 81 = .ok (.iload 4, 2) := by decide +kernel
theorem dX11_reckon_83 : decode cX11_reckon 83 = .ok (.bipush (-2), 2) := by decide +kernel
theorem dX11_reckon_85 : decode cX11_reckon 85 = .ok (.iload_n 2, 1) := by decide +kernel
theorem dX11_reckon_86 : decode cX11_reckon 86 = .ok (.iload_n 3, 1) := by decide +kernel
theorem dX11_reckon_87 : decode cX11_reckon 87 = .ok (.bipush (-2), 2) := by decide +kernel
theorem dX11_reckon_89 : decode cX11_reckon 89 = .ok (.aload 5, 2) := by decide +kernel
theorem dX11_reckon_91 : decode cX11_reckon 91 = .ok (.invokespecial 87, 3) := by decide +kernel
theorem dX11_reckon_94 : decode cX11_reckon 94 = .ok (.invokevirtual 90, 3) := by decide +kernel
theorem dX11_reckon_97 : decode cX11_reckon 97 = .ok (.ireturn, 1) := by decide +kernel
theorem dX11_pick_0 : decode cX11_pick 0 = .ok (.aload_n 0, 1) := by decide +kernel
theorem dX11_pick_1 : decode cX11_pick 1 = .ok (.getfield 10, 3) := by decide +kernel
theorem dX11_pick_4 : decode cX11_pick 4 = .ok (.iload_n 1, 1) := by decide +kernel
theorem dX11_pick_5 : decode cX11_pick 5 = .ok (.invokevirtual 97, 3) := by decide +kernel
theorem dX11_pick_8 : decode cX11_pick 8 = .ok (.ifCond .eq 33, 3) := by decide +kernel
theorem dX11_pick_11 : decode cX11_pick 11 = .ok (.aload_n 0, 1) := by decide +kernel
theorem dX11_pick_12 : decode cX11_pick 12 = .ok (.getfield 10, 3) := by decide +kernel
theorem dX11_pick_15 : decode cX11_pick 15 = .ok (.iload_n 2, 1) := by decide +kernel
theorem dX11_pick_16 : decode cX11_pick 16 = .ok (.invokevirtual 97, 3) := by decide +kernel
theorem dX11_pick_19 : decode cX11_pick 19 = .ok (.ifCond .eq 22, 3) := by decide +kernel
theorem dX11_pick_22 : decode cX11_pick 22 = .ok (.aload_n 0, 1) := by decide +kernel
theorem dX11_pick_23 : decode cX11_pick 23 = .ok (.getfield 10, 3) := by decide +kernel
theorem dX11_pick_26 : decode cX11_pick 26 = .ok (.iload_n 3, 1) := by decide +kernel
theorem dX11_pick_27 : decode cX11_pick 27 = .ok (.invokevirtual 97, 3) := by decide +kernel
theorem dX11_pick_30 : decode cX11_pick 30 = .ok (.ifCond .eq 11, 3) := by decide +kernel
theorem dX11_pick_33 : decode cX11_pick 33 = .ok (.iload 4, 2) := by decide +kernel
theorem dX11_pick_35 : decode cX11_pick 35 = .ok (.invokestatic 72, 3) := by decide +kernel
theorem dX11_pick_38 : decode cX11_pick 38 = .ok (.ifCond .ne 5, 3) := by decide +kernel
theorem dX11_pick_41 : decode cX11_pick 41 = .ok (.iconst (-1), 1) := by decide +kernel
theorem dX11_pick_42 : decode cX11_pick 42 = .ok (.ireturn, 1) := by decide +kernel
theorem dX11_pick_43 : decode cX11_pick 43 = .ok (.aload_n 0, 1) := by decide +kernel
theorem dX11_pick_44 : decode cX11_pick 44 = .ok (.getfield 10, 3) := by decide +kernel
theorem dX11_pick_47 : decode cX11_pick 47 = .ok (.iload_n 1, 1) := by decide +kernel
theorem dX11_pick_48 : decode cX11_pick 48 = .ok (.invokevirtual 104, 3) := by decide +kernel
theorem dX11_pick_51 : decode cX11_pick 51 = .ok (.getfield 108, 3) := by decide +kernel
theorem dX11_pick_54 : decode cX11_pick 54 = .ok (.aload_n 0, 1) := by decide +kernel
theorem dX11_pick_55 : decode cX11_pick 55 = .ok (.getfield 10, 3) := by decide +kernel
theorem dX11_pick_58 : decode cX11_pick 58 = .ok (.iload_n 2, 1) := by decide +kernel
theorem dX11_pick_59 : decode cX11_pick 59 = .ok (.invokevirtual 104, 3) := by decide +kernel
theorem dX11_pick_62 : decode cX11_pick 62 = .ok (.getfield 108, 3) := by decide +kernel
theorem dX11_pick_65 : decode cX11_pick 65 = .ok (.aload_n 0, 1) := by decide +kernel
theorem dX11_pick_66 : decode cX11_pick 66 = .ok (.getfield 10, 3) := by decide +kernel
theorem dX11_pick_69 : decode cX11_pick 69 = .ok (.iload_n 3, 1) := by decide +kernel
theorem dX11_pick_70 : decode cX11_pick 70 = .ok (.invokevirtual 104, 3) := by decide +kernel
theorem dX11_pick_73 : decode cX11_pick 73 = .ok (.getfield 108, 3) := by decide +kernel
theorem dX11_pick_76 : decode cX11_pick 76 = .ok (.invokevirtual 123, 3) := by decide +kernel
theorem dX11_pick_79 : decode cX11_pick 79 = .ok (.iload 4, 2) := by decide +kernel
theorem dX11_pick_81 : decode cX11_pick 81 = .ok (.invokevirtual 112, 3) := by decide +kernel
theorem dX11_pick_84 : decode cX11_pick 84 = .ok (.astore 5, 2) := by decide +kernel
theorem dX11_pick_86 : decode cX11_pick 86 = .ok (.aload_n 0, 1) := by decide +kernel
theorem dX11_pick_87 : decode cX11_pick 87 = .ok (.new 80, 3) := by decide +kernel
theorem dX11_pick_90 : decode cX11_pick 90 = .ok (.dup, 1) := by decide +kernel
theorem dX11_pick_91 : decode cX11_pick 91 = .ok (.bipush 7, 2) := by decide +kernel
theorem dX11_pick_93 : decode cX11_pick 93 = .ok (.iload 4, 2) := by decide +kernel
theorem dX11_pick_95 : decode cX11_pick 95 = .ok (.bipush (-2), 2) := by decide +kernel
theorem dX11_pick_97 : decode cX11_pick 97 = .ok (.iload_n 1, 1) := by decide +kernel
theorem dX11_pick_98 : decode cX11_pick 98 = .ok (.iload_n 2, 1) := by decide +kernel
theorem dX11_pick_99 : decode cX11_pick 99 = .ok (.iload_n 3, 1) := by decide +kernel
theorem dX11_pick_100 : decode cX11_pick 100 = .ok (.aload 5, 2) := by decide +kernel
theorem dX11_pick_102 : decode cX11_pick 102 = .ok (.invokespecial 87, 3) := by decide +kernel
theorem dX11_pick_105 : decode cX11_pick 105 = .ok (.invokevirtual 90, 3) := by decide +kernel
theorem dX11_pick_108 : decode cX11_pick 108 = .ok (.ireturn, 1) := by decide +kernel
theorem dX11_touch_0 : decode cX11_touch 0 = .ok (.iload_n 2, 1) := by decide +kernel
theorem dX11_touch_1 : decode cX11_touch 1 = .ok (.iconst (-1), 1) := by decide +kernel
theorem dX11_touch_2 : decode cX11_touch 2 = .ok (.if_icmp .ne 7, 3) := by decide +kernel
theorem dX11_touch_5 : decode cX11_touch 5 = .ok (.iconst 1, 1) := by decide +kernel
theorem dX11_touch_6 : decode cX11_touch 6 = .ok (.goto 4, 3) := by decide +kernel
theorem dX11_touch_9 : decode cX11_touch 9 = .ok (.iconst 0, 1) := by decide +kernel
theorem dX11_touch_10 : decode cX11_touch 10 = .ok (.istore 4, 2) := by decide +kernel
theorem dX11_touch_12 : decode cX11_touch 12 = .ok (.aload_n 0, 1) := by decide +kernel
theorem dX11_touch_13 : decode cX11_touch 13 = .ok (.getfield 10, 3) := by decide +kernel
theorem dX11_touch_16 : decode cX11_touch 16 = .ok (.iload_n 1, 1) := by decide +kernel
theorem dX11_touch_17 : decode cX11_touch 17 = .ok (.invokevirtual 97, 3) := by decide +kernel
theorem dX11_touch_20 : decode cX11_touch 20 = .ok (.ifCond .eq 26, 3) := by decide +kernel
theorem dX11_touch_23 : decode cX11_touch 23 = .ok (.iload 4, 2) := by decide +kernel
theorem dX11_touch_25 : decode cX11_touch 25 = .ok (.ifCond .ne 14, 3) := by decide +kernel
theorem dX11_touch_28 : decode cX11_touch 28 = .ok (.aload_n 0, 1) := by decide +kernel
theorem dX11_touch_29 : decode cX11_touch 29 = .ok (.getfield 10, 3) := by decide +kernel
theorem dX11_touch_32 : decode cX11_touch 32 = .ok (.iload_n 2, 1) := by decide +kernel
theorem dX11_touch_33 : decode cX11_touch 33 = .ok (.invokevirtual 97, 3) := by decide +kernel
theorem dX11_touch_36 : decode cX11_touch 36 = .ok (.ifCond .eq 10, 3) := by decide +kernel
theorem dX11_touch_39 : decode cX11_touch 39 = .ok (.iload_n 3, 1) := by decide +kernel
theorem dX11_touch_40 : decode cX11_touch 40 = .ok (.invokestatic 72, 3) := by decide +kernel
theorem dX11_touch_43 : decode cX11_touch 43 = .ok (.ifCond .ne 5, 3) := by decide +kernel
theorem dX11_touch_46 : decode cX11_touch 46 = .ok (.iconst (-1), 1) := by decide +kernel
theorem dX11_touch_47 : decode cX11_touch 47 = .ok (.ireturn, 1) := by decide +kernel
theorem dX11_touch_48 : decode cX11_touch 48 = .ok (.iload 4, 2) := by decide +kernel
theorem dX11_touch_50 : decode cX11_touch 50 = .ok (.ifCond .eq 29, 3) := by decide +kernel
theorem dX11_touch_53 : decode cX11_touch 53 = .ok (.aload_n 0, 1) := by decide +kernel
theorem dX11_touch_54 : decode cX11_touch 54 = .ok (.new 80, 3) := by decide +kernel
theorem dX11_touch_57 : decode cX11_touch 57 = .ok (.dup, 1) := by decide +kernel
theorem dX11_touch_58 : decode cX11_touch 58 = .ok (.bipush 8, 2) := by decide +kernel
theorem dX11_touch_60 : decode cX11_touch 60 = .ok (.iload_n 3, 1) := by decide +kernel
theorem dX11_touch_61 : decode cX11_touch 61 = .ok (.bipush (-2), 2) := by decide +kernel
theorem dX11_touch_63 : decode cX11_touch 63 = .ok (.iload_n 1, 1) := by decide +kernel
theorem dX11_touch_64 : decode cX11_touch 64 = .ok (.bipush (-2), 2) := by decide +kernel
theorem dX11_touch_66 : decode cX11_touch 66 = .ok (.bipush (-2), 2) := by decide +kernel
theorem dX11_touch_68 : decode cX11_touch 68 = .ok (.iload_n 3, 1) := by decide +kernel
theorem dX11_touch_69 : decode cX11_touch 69 = .ok (.invokestatic 100, 3) := by decide +kernel
theorem dX11_touch_72 : decode cX11_touch 72 = .ok (.invokespecial 87, 3) := by decide +kernel
theorem dX11_touch_75 : decode cX11_touch 75 = .ok (.invokevirtual 90, 3) := by decide +kernel
theorem dX11_touch_78 : decode cX11_touch 78 = .ok (.ireturn, 1) := by decide +kernel
theorem dX11_touch_79 : decode cX11_touch 79 = .ok (.aload_n 0, 1) := by decide +kernel
theorem dX11_touch_80 : decode cX11_touch 80 = .ok (.getfield 10, 3) := by decide +kernel
theorem dX11_touch_83 : decode cX11_touch 83 = .ok (.iload_n 2, 1) := by decide +kernel
theorem dX11_touch_84 : decode cX11_touch 84 = .ok (.invokevirtual 104, 3) := by decide +kernel
theorem dX11_touch_87 : decode cX11_touch 87 = .ok (.getfield 108, 3) := by decide +kernel
theorem dX11_touch_90 : decode cX11_touch 90 = .ok (.iload_n 3, 1) := by decide +kernel
theorem dX11_touch_91 : decode cX11_touch 91 = .ok (.invokevirtual 112, 3) := by decide +kernel
theorem dX11_touch_94 : decode cX11_touch 94 = .ok (.astore 5, 2) := by decide +kernel
theorem dX11_touch_96 : decode cX11_touch 96 = .ok (.aload_n 0, 1) := by decide +kernel
theorem dX11_touch_97 : decode cX11_touch 97 = .ok (.new 80, 3) := by decide +kernel
theorem dX11_touch_100 : decode cX11_touch 100 = .ok (.dup, 1) := by decide +kernel
theorem dX11_touch_101 : decode cX11_touch 101 = .ok (.bipush 9, 2) := by decide +kernel
theorem dX11_touch_103 : decode cX11_touch 103 = .ok (.iload_n 3, 1) := by decide +kernel
theorem dX11_touch_104 : decode cX11_touch 104 = .ok (.bipush (-2), 2) := by decide +kernel
theorem dX11_touch_106 : decode cX11_touch 106 = .ok (.iload_n 1, 1) := by decide +kernel
theorem dX11_touch_107 : decode cX11_touch 107 = .ok (.iload_n 2, 1) := by decide +kernel
theorem dX11_touch_108 : decode cX11_touch 108 = .ok (.bipush (-2), 2) := by decide +kernel
theorem dX11_touch_110 : decode cX11_touch 110 = .ok (.aload 5, 2) := by decide +kernel
theorem dX11_touch_112 : decode cX11_touch 112 = .ok (.invokespecial 87, 3) := by decide +kernel
theorem dX11_touch_115 : decode cX11_touch 115 = .ok (.invokevirtual 90, 3) := by decide +kernel
theorem dX11_touch_118 : decode cX11_touch 118 = .ok (.ireturn, 1) := by decide +kernel
theorem dX11_drop_0 : decode cX11_drop 0 = .ok (.aload_n 0, 1) := by decide +kernel
theorem dX11_drop_1 : decode cX11_drop 1 = .ok (.getfield 10, 3) := by decide +kernel
theorem dX11_drop_4 : decode cX11_drop 4 = .ok (.invokevirtual 127, 3) := by decide +kernel
theorem dX11_drop_7 : decode cX11_drop 7 = .ok (.ifCond .ne 6, 3) := by decide +kernel
theorem dX11_drop_10 : decode cX11_drop 10 = .ok (.bipush (-2), 2) := by decide +kernel
theorem dX11_drop_12 : decode cX11_drop 12 = .ok (.ireturn, 1) := by decide +kernel
theorem dX11_drop_13 : decode cX11_drop 13 = .ok (.aload_n 0, 1) := by decide +kernel
theorem dX11_drop_14 : decode cX11_drop 14 = .ok (.invokevirtual 131, 3) := by decide +kernel
theorem dX11_drop_17 : decode cX11_drop 17 = .ok (.aload_n 0, 1) := by decide +kernel
theorem dX11_drop_18 : decode cX11_drop 18 = .ok (.getfield 10, 3) := by decide +kernel
theorem dX11_drop_21 : decode cX11_drop 21 = .ok (.invokevirtual 134, 3) := by decide +kernel
theorem dX11_drop_24 : decode cX11_drop 24 = .ok (.aload_n 0, 1) := by decide +kernel
theorem dX11_drop_25 : decode cX11_drop 25 = .ok (.getfield 10, 3) := by decide +kernel
theorem dX11_drop_28 : decode cX11_drop 28 = .ok (.invokevirtual 127, 3) := by decide +kernel
theorem dX11_drop_31 : decode cX11_drop 31 = .ok (.ireturn, 1) := by decide +kernel
theorem dX11_parts_0 : decode cX11_parts 0 = .ok (.iload_n 1, 1) := by decide +kernel
theorem dX11_parts_1 : decode cX11_parts 1 = .ok (.invokestatic 137, 3) := by decide +kernel
theorem dX11_parts_4 : decode cX11_parts 4 = .ok (.ifCond .eq 12, 3) := by decide +kernel
theorem dX11_parts_7 : decode cX11_parts 7 = .ok (.iload_n 2, 1) := by decide +kernel
theorem dX11_parts_8 : decode cX11_parts 8 = .ok (.iconst 1, 1) := by decide +kernel
theorem dX11_parts_9 : decode cX11_parts 9 = .ok (.iconst 4, 1) := by decide +kernel
theorem dX11_parts_10 : decode cX11_parts 10 = .ok (.invokestatic 115, 3) := by decide +kernel
theorem dX11_parts_13 : decode cX11_parts 13 = .ok (.ifCond .ne 5, 3) := by decide +kernel
theorem dX11_parts_16 : decode cX11_parts 16 = .ok (.iconst (-1), 1) := by decide +kernel
theorem dX11_parts_17 : decode cX11_parts 17 = .ok (.ireturn, 1) := by decide +kernel
theorem dX11_parts_18 : decode cX11_parts 18 = .ok (.aload_n 0, 1) := by decide +kernel
theorem dX11_parts_19 : decode cX11_parts 19 = .ok (.invokevirtual 131, 3) := by decide +kernel
theorem dX11_parts_22 : decode cX11_parts 22 = .ok (.aload_n 0, 1) := by decide +kernel
theorem dX11_parts_23 : decode cX11_parts 23 = .ok (.getfield 19, 3) := by decide +kernel
theorem dX11_parts_26 : decode cX11_parts 26 = .ok (.getfield 140, 3) := by decide +kernel
theorem dX11_parts_29 : decode cX11_parts 29 = .ok (.iload_n 1, 1) := by decide +kernel
theorem dX11_parts_30 : decode cX11_parts 30 = .ok (.iaload, 1) := by decide +kernel
theorem dX11_parts_31 : decode cX11_parts 31 = .ok (.istore_n 3, 1) := by decide +kernel
theorem dX11_parts_32 : decode cX11_parts 32 = .ok (.aload_n 0, 1) := by decide +kernel
theorem dX11_parts_33 : decode cX11_parts 33 = .ok (.getfield 19, 3) := by decide +kernel
theorem dX11_parts_36 : decode cX11_parts 36 = .ok (.getfield 140, 3) := by decide +kernel
theorem dX11_parts_39 : decode cX11_parts 39 = .ok (.iload_n 1, 1) := by decide +kernel
theorem dX11_parts_40 : decode cX11_parts 40 = .ok (.iload_n 2, 1) := by decide +kernel
theorem dX11_parts_41 : decode cX11_parts 41 = .ok (.iastore, 1) := by decide +kernel
theorem dX11_parts_42 : decode cX11_parts 42 = .ok (.iload_n 3, 1) := by decide +kernel
theorem dX11_parts_43 : decode cX11_parts 43 = .ok (.ireturn, 1) := by decide +kernel
theorem dX11_length_0 : decode cX11_length 0 = .ok (.iload_n 1, 1) := by decide +kernel
theorem dX11_length_1 : decode cX11_length 1 = .ok (.invokestatic 137, 3) := by decide +kernel
theorem dX11_length_4 : decode cX11_length 4 = .ok (.ifCond .eq 13, 3) := by decide +kernel
theorem dX11_length_7 : decode cX11_length 7 = .ok (.iload_n 2, 1) := by decide +kernel
theorem dX11_length_8 : decode cX11_length 8 = .ok (.iconst 1, 1) := by decide +kernel
theorem dX11_length_9 : decode cX11_length 9 = .ok (.bipush 8, 2) := by decide +kernel
theorem dX11_length_11 : decode cX11_length 11 = .ok (.invokestatic 115, 3) := by decide +kernel
theorem dX11_length_14 : decode cX11_length 14 = .ok (.ifCond .ne 5, 3) := by decide +kernel
theorem dX11_length_17 : decode cX11_length 17 = .ok (.iconst (-1), 1) := by decide +kernel
theorem dX11_length_18 : decode cX11_length 18 = .ok (.ireturn, 1) := by decide +kernel
theorem dX11_length_19 : decode cX11_length 19 = .ok (.aload_n 0, 1) := by decide +kernel
theorem dX11_length_20 : decode cX11_length 20 = .ok (.invokevirtual 131, 3) := by decide +kernel
theorem dX11_length_23 : decode cX11_length 23 = .ok (.aload_n 0, 1) := by decide +kernel
theorem dX11_length_24 : decode cX11_length 24 = .ok (.getfield 19, 3) := by decide +kernel
theorem dX11_length_27 : decode cX11_length 27 = .ok (.getfield 144, 3) := by decide +kernel
theorem dX11_length_30 : decode cX11_length 30 = .ok (.iload_n 1, 1) := by decide +kernel
theorem dX11_length_31 : decode cX11_length 31 = .ok (.iaload, 1) := by decide +kernel
theorem dX11_length_32 : decode cX11_length 32 = .ok (.istore 4, 2) := by decide +kernel
theorem dX11_length_34 : decode cX11_length 34 = .ok (.aload_n 0, 1) := by decide +kernel
theorem dX11_length_35 : decode cX11_length 35 = .ok (.getfield 19, 3) := by decide +kernel
theorem dX11_length_38 : decode cX11_length 38 = .ok (.getfield 144, 3) := by decide +kernel
theorem dX11_length_41 : decode cX11_length 41 = .ok (.iload_n 1, 1) := by decide +kernel
theorem dX11_length_42 : decode cX11_length 42 = .ok (.iload_n 2, 1) := by decide +kernel
theorem dX11_length_43 : decode cX11_length 43 = .ok (.iastore, 1) := by decide +kernel
theorem dX11_length_44 : decode cX11_length 44 = .ok (.aload_n 0, 1) := by decide +kernel
theorem dX11_length_45 : decode cX11_length 45 = .ok (.getfield 19, 3) := by decide +kernel
theorem dX11_length_48 : decode cX11_length 48 = .ok (.getfield 147, 3) := by decide +kernel
theorem dX11_length_51 : decode cX11_length 51 = .ok (.iload_n 1, 1) := by decide +kernel
theorem dX11_length_52 : decode cX11_length 52 = .ok (.iload_n 3, 1) := by decide +kernel
theorem dX11_length_53 : decode cX11_length 53 = .ok (.bastore, 1) := by decide +kernel
theorem dX11_length_54 : decode cX11_length 54 = .ok (.iload 4, 2) := by decide +kernel
theorem dX11_length_56 : decode cX11_length 56 = .ok (.ireturn, 1) := by decide +kernel
theorem dX11_feed_0 : decode cX11_feed 0 = .ok (.iload_n 1, 1) := by decide +kernel
theorem dX11_feed_1 : decode cX11_feed 1 = .ok (.invokestatic 94, 3) := by decide +kernel
theorem dX11_feed_4 : decode cX11_feed 4 = .ok (.ifCond .ne 5, 3) := by decide +kernel
theorem dX11_feed_7 : decode cX11_feed 7 = .ok (.iconst (-1), 1) := by decide +kernel
theorem dX11_feed_8 : decode cX11_feed 8 = .ok (.ireturn, 1) := by decide +kernel
theorem dX11_feed_9 : decode cX11_feed 9 = .ok (.aload_n 0, 1) := by decide +kernel
theorem dX11_feed_10 : decode cX11_feed 10 = .ok (.getfield 55, 3) := by decide +kernel
theorem dX11_feed_13 : decode cX11_feed 13 = .ok (.getfield 151, 3) := by decide +kernel
theorem dX11_feed_16 : decode cX11_feed 16 = .ok (.iload_n 1, 1) := by decide +kernel
theorem dX11_feed_17 : decode cX11_feed 17 = .ok (.aaload, 1) := by decide +kernel
theorem dX11_feed_18 : decode cX11_feed 18 = .ok (.astore 4, 2) := by decide +kernel
theorem dX11_feed_20 : decode cX11_feed 20 = .ok (.aload 4, 2) := by decide +kernel
theorem dX11_feed_22 : decode cX11_feed 22 = .ok (.invokevirtual 155, 3) := by decide +kernel
theorem dX11_feed_25 : decode cX11_feed 25 = .ok (.ifCond .eq 6, 3) := by decide +kernel
theorem dX11_feed_28 : decode cX11_feed 28 = .ok (.bipush (-2), 2) := by decide +kernel
theorem dX11_feed_30 : decode cX11_feed 30 = .ok (.ireturn, 1) := by decide +kernel
theorem dX11_feed_31 : decode cX11_feed 31 = .ok (.aload 4, 2) := by decide +kernel
theorem dX11_feed_33 : decode cX11_feed 33 = .ok (.lload_n 2, 1) := by decide +kernel
theorem dX11_feed_34 : decode cX11_feed 34 = .ok (.invokevirtual 161, 3) := by decide +kernel
theorem dX11_feed_37 : decode cX11_feed 37 = .ok (.aload 4, 2) := by decide +kernel
theorem dX11_feed_39 : decode cX11_feed 39 = .ok (.invokevirtual 164, 3) := by decide +kernel
theorem dX11_feed_42 : decode cX11_feed 42 = .ok (.ireturn, 1) := by decide +kernel
theorem dX11_place_0 : decode cX11_place 0 = .ok (.iload_n 1, 1) := by decide +kernel
theorem dX11_place_1 : decode cX11_place 1 = .ok (.i2l, 1) := by decide +kernel
theorem dX11_place_2 : decode cX11_place 2 = .ok (.invokestatic 165, 3) := by decide +kernel
theorem dX11_place_5 : decode cX11_place 5 = .ok (.ifCond .ne 5, 3) := by decide +kernel
theorem dX11_place_8 : decode cX11_place 8 = .ok (.iconst (-1), 1) := by decide +kernel
theorem dX11_place_9 : decode cX11_place 9 = .ok (.ireturn, 1) := by decide +kernel
theorem dX11_place_10 : decode cX11_place 10 = .ok (.aload_n 0, 1) := by decide +kernel
theorem dX11_place_11 : decode cX11_place 11 = .ok (.getfield 55, 3) := by decide +kernel
theorem dX11_place_14 : decode cX11_place 14 = .ok (.getfield 169, 3) := by decide +kernel
theorem dX11_place_17 : decode cX11_place 17 = .ok (.iload_n 1, 1) := by decide +kernel
theorem dX11_place_18 : decode cX11_place 18 = .ok (.lload_n 2, 1) := by decide +kernel
theorem dX11_place_19 : decode cX11_place 19 = .ok (.lastore, 1) := by decide +kernel
theorem dX11_place_20 : decode cX11_place 20 = .ok (.iconst 0, 1) := by decide +kernel
theorem dX11_place_21 : decode cX11_place 21 = .ok (.ireturn, 1) := by decide +kernel
theorem dX11_act_0 : decode cX11_act 0 = .ok (.aload_n 0, 1) := by decide +kernel
theorem dX11_act_1 : decode cX11_act 1 = .ok (.getfield 10, 3) := by decide +kernel
theorem dX11_act_4 : decode cX11_act 4 = .ok (.iload_n 1, 1) := by decide +kernel
theorem dX11_act_5 : decode cX11_act 5 = .ok (.invokevirtual 97, 3) := by decide +kernel
theorem dX11_act_8 : decode cX11_act 8 = .ok (.ifCond .ne 5, 3) := by decide +kernel
theorem dX11_act_11 : decode cX11_act 11 = .ok (.iconst (-1), 1) := by decide +kernel
theorem dX11_act_12 : decode cX11_act 12 = .ok (.ireturn, 1) := by decide +kernel
theorem dX11_act_13 : decode cX11_act 13 = .ok (.aload_n 0, 1) := by decide +kernel
theorem dX11_act_14 : decode cX11_act 14 = .ok (.getfield 10, 3) := by decide +kernel
theorem dX11_act_17 : decode cX11_act 17 = .ok (.iload_n 1, 1) := by decide +kernel
theorem dX11_act_18 : decode cX11_act 18 = .ok (.invokevirtual 104, 3) := by decide +kernel
theorem dX11_act_21 : decode cX11_act 21 = .ok (.astore_n 3, 1) := by decide +kernel
theorem dX11_act_22 : decode cX11_act 22 = .ok (.iload_n 2, 1) := by decide +kernel
theorem dX11_act_23 : decode cX11_act 23 = .ok (.tableswitch 101 0 8 #[49, 54, 59, 64, 69, 74, 79, 88, 96], 49) := by decide +kernel
theorem dX11_act_72 : decode cX11_act 72 = .ok (.aload_n 3, 1) := by decide +kernel
theorem dX11_act_73 : decode cX11_act 73 = .ok (.getfield 173, 3) := by decide +kernel
theorem dX11_act_76 : decode cX11_act 76 = .ok (.ireturn, 1) := by decide +kernel
theorem dX11_act_77 : decode cX11_act 77 = .ok (.aload_n 3, 1) := by decide +kernel
theorem dX11_act_78 : decode cX11_act 78 = .ok (.getfield 177, 3) := by decide +kernel
theorem dX11_act_81 : decode cX11_act 81 = .ok (.ireturn, 1) := by decide +kernel
theorem dX11_act_82 : decode cX11_act 82 = .ok (.aload_n 3, 1) := by decide +kernel
theorem dX11_act_83 : decode cX11_act 83 = .ok (.getfield 180, 3) := by decide +kernel
theorem dX11_act_86 : decode cX11_act 86 = .ok (.ireturn, 1) := by decide +kernel
theorem dX11_act_87 : decode cX11_act 87 = .ok (.aload_n 3, 1) := by decide +kernel
theorem dX11_act_88 : decode cX11_act 88 = .ok (.getfield 183, 3) := by decide +kernel
theorem dX11_act_91 : decode cX11_act 91 = .ok (.ireturn, 1) := by decide +kernel
theorem dX11_act_92 : decode cX11_act 92 = .ok (.aload_n 3, 1) := by decide +kernel
theorem dX11_act_93 : decode cX11_act 93 = .ok (.getfield 186, 3) := by decide +kernel
theorem dX11_act_96 : decode cX11_act 96 = .ok (.ireturn, 1) := by decide +kernel
theorem dX11_act_97 : decode cX11_act 97 = .ok (.aload_n 3, 1) := by decide +kernel
theorem dX11_act_98 : decode cX11_act 98 = .ok (.getfield 189, 3) := by decide +kernel
theorem dX11_act_101 : decode cX11_act 101 = .ok (.ireturn, 1) := by decide +kernel
theorem dX11_act_102 : decode cX11_act 102 = .ok (.aload_n 0, 1) := by decide +kernel
theorem dX11_act_103 : decode cX11_act 103 = .ok (.getfield 19, 3) := by decide +kernel
theorem dX11_act_106 : decode cX11_act 106 = .ok (.aload_n 3, 1) := by decide +kernel
theorem dX11_act_107 : decode cX11_act 107 = .ok (.invokevirtual 192, 3) := by decide +kernel
theorem dX11_act_110 : decode cX11_act 110 = .ok (.ireturn, 1) := by decide +kernel
theorem dX11_act_111 : decode cX11_act 111 = .ok (.aload_n 3, 1) := by decide +kernel
theorem dX11_act_112 : decode cX11_act 112 = .ok (.getfield 108, 3) := by decide +kernel
theorem dX11_act_115 : decode cX11_act 115 = .ok (.invokevirtual 195, 3) := by decide +kernel
theorem dX11_act_118 : decode cX11_act 118 = .ok (.ireturn, 1) := by decide +kernel
theorem dX11_act_119 : decode cX11_act 119 = .ok (.aload_n 3, 1) := by decide +kernel
theorem dX11_act_120 : decode cX11_act 120 = .ok (.invokevirtual 198, 3) := by decide +kernel
theorem dX11_act_123 : decode cX11_act 123 = .ok (.ireturn, 1) := by decide +kernel
theorem dX11_act_124 : decode cX11_act 124 = .ok (.iconst (-1), 1) := by decide +kernel
theorem dX11_act_125 : decode cX11_act 125 = .ok (.ireturn, 1) := by decide +kernel
theorem dX11_span_0 : decode cX11_span 0 = .ok (.aload_n 0, 1) := by decide +kernel
theorem dX11_span_1 : decode cX11_span 1 = .ok (.getfield 10, 3) := by decide +kernel
theorem dX11_span_4 : decode cX11_span 4 = .ok (.iload_n 1, 1) := by decide +kernel
theorem dX11_span_5 : decode cX11_span 5 = .ok (.invokevirtual 97, 3) := by decide +kernel
theorem dX11_span_8 : decode cX11_span 8 = .ok (.ifCond .ne 13, 3) := by decide +kernel
theorem dX11_span_11 : decode cX11_span 11 = .ok (.new 201, 3) := by decide +kernel
theorem dX11_span_14 : decode cX11_span 14 = .ok (.dup, 1) := by decide +kernel
theorem dX11_span_15 : decode cX11_span 15 = .ok (.ldc 203, 2) := by decide +kernel
theorem dX11_span_17 : decode cX11_span 17 = .ok (.invokespecial 205, 3) := by decide +kernel
theorem dX11_span_20 : decode cX11_span 20 = .ok (.athrow, 1) := by decide +kernel
theorem dX11_span_21 : decode cX11_span 21 = .ok (.aload_n 0, 1) := by decide +kernel
theorem dX11_span_22 : decode cX11_span 22 = .ok (.getfield 10, 3) := by decide +kernel
theorem dX11_span_25 : decode cX11_span 25 = .ok (.iload_n 1, 1) := by decide +kernel
theorem dX11_span_26 : decode cX11_span 26 = .ok (.invokevirtual 104, 3) := by decide +kernel
theorem dX11_span_29 : decode cX11_span 29 = .ok (.getfield 108, 3) := by decide +kernel
theorem dX11_span_32 : decode cX11_span 32 = .ok (.astore_n 3, 1) := by decide +kernel
theorem dX11_span_33 : decode cX11_span 33 = .ok (.iload_n 2, 1) := by decide +kernel
theorem dX11_span_34 : decode cX11_span 34 = .ok (.ifCond .eq 10, 3) := by decide +kernel
theorem dX11_span_37 : decode cX11_span 37 = .ok (.aload_n 3, 1) := by decide +kernel
theorem dX11_span_38 : decode cX11_span 38 = .ok (.getfield 208, 3) := by decide +kernel
theorem dX11_span_41 : decode cX11_span 41 = .ok (.goto 7, 3) := by decide +kernel
theorem dX11_span_44 : decode cX11_span 44 = .ok (.aload_n 3, 1) := by decide +kernel
theorem dX11_span_45 : decode cX11_span 45 = .ok (.getfield 212, 3) := by decide +kernel
theorem dX11_span_48 : decode cX11_span 48 = .ok (.lreturn, 1) := by decide +kernel
theorem dX11_needs_0 : decode cX11_needs 0 = .ok (.aload_n 0, 1) := by decide +kernel
theorem dX11_needs_1 : decode cX11_needs 1 = .ok (.getfield 10, 3) := by decide +kernel
theorem dX11_needs_4 : decode cX11_needs 4 = .ok (.iload_n 1, 1) := by decide +kernel
theorem dX11_needs_5 : decode cX11_needs 5 = .ok (.invokevirtual 97, 3) := by decide +kernel
theorem dX11_needs_8 : decode cX11_needs 8 = .ok (.ifCond .eq 19, 3) := by decide +kernel
theorem dX11_needs_11 : decode cX11_needs 11 = .ok (.aload_n 0, 1) := by decide +kernel
theorem dX11_needs_12 : decode cX11_needs 12 = .ok (.getfield 10, 3) := by decide +kernel
theorem dX11_needs_15 : decode cX11_needs 15 = .ok (.iload_n 2, 1) := by decide +kernel
theorem dX11_needs_16 : decode cX11_needs 16 = .ok (.invokevirtual 97, 3) := by decide +kernel
theorem dX11_needs_19 : decode cX11_needs 19 = .ok (.ifCond .eq 8, 3) := by decide +kernel
theorem dX11_needs_22 : decode cX11_needs 22 = .ok (.iload_n 1, 1) := by decide +kernel
theorem dX11_needs_23 : decode cX11_needs 23 = .ok (.iload_n 2, 1) := by decide +kernel
theorem dX11_needs_24 : decode cX11_needs 24 = .ok (.if_icmp .lt 5, 3) := by decide +kernel
theorem dX11_needs_27 : decode cX11_needs 27 = .ok (.iconst (-1), 1) := by decide +kernel
theorem dX11_needs_28 : decode cX11_needs 28 = .ok (.ireturn, 1) := by decide +kernel
theorem dX11_needs_29 : decode cX11_needs 29 = .ok (.aload_n 0, 1) := by decide +kernel
theorem dX11_needs_30 : decode cX11_needs 30 = .ok (.getfield 28, 3) := by decide +kernel
theorem dX11_needs_33 : decode cX11_needs 33 = .ok (.iload_n 1, 1) := by decide +kernel
theorem dX11_needs_34 : decode cX11_needs 34 = .ok (.iload_n 2, 1) := by decide +kernel
theorem dX11_needs_35 : decode cX11_needs 35 = .ok (.invokevirtual 215, 3) := by decide +kernel
theorem dX11_needs_38 : decode cX11_needs 38 = .ok (.ireturn, 1) := by decide +kernel
theorem dX11_lay_0 : decode cX11_lay 0 = .ok (.aload_n 0, 1) := by decide +kernel
theorem dX11_lay_1 : decode cX11_lay 1 = .ok (.getfield 10, 3) := by decide +kernel
theorem dX11_lay_4 : decode cX11_lay 4 = .ok (.invokevirtual 127, 3) := by decide +kernel
theorem dX11_lay_7 : decode cX11_lay 7 = .ok (.ifCond .ne 6, 3) := by decide +kernel
theorem dX11_lay_10 : decode cX11_lay 10 = .ok (.bipush (-2), 2) := by decide +kernel
theorem dX11_lay_12 : decode cX11_lay 12 = .ok (.ireturn, 1) := by decide +kernel
theorem dX11_lay_13 : decode cX11_lay 13 = .ok (.aload_n 0, 1) := by decide +kernel
theorem dX11_lay_14 : decode cX11_lay 14 = .ok (.getfield 65, 3) := by decide +kernel
theorem dX11_lay_17 : decode cX11_lay 17 = .ok (.ifCond .ne 22, 3) := by decide +kernel
theorem dX11_lay_20 : decode cX11_lay 20 = .ok (.aload_n 0, 1) := by decide +kernel
theorem dX11_lay_21 : decode cX11_lay 21 = .ok (.getfield 37, 3) := by decide +kernel
theorem dX11_lay_24 : decode cX11_lay 24 = .ok (.invokevirtual 219, 3) := by decide +kernel
theorem dX11_lay_27 : decode cX11_lay 27 = .ok (.aload_n 0, 1) := by decide +kernel
theorem dX11_lay_28 : decode cX11_lay 28 = .ok (.getfield 46, 3) := by decide +kernel
theorem dX11_lay_31 : decode cX11_lay 31 = .ok (.invokevirtual 222, 3) := by decide +kernel
theorem dX11_lay_34 : decode cX11_lay 34 = .ok (.aload_n 0, 1) := by decide +kernel
theorem dX11_lay_35 : decode cX11_lay 35 = .ok (.iconst 1, 1) := by decide +kernel
theorem dX11_lay_36 : decode cX11_lay 36 = .ok (.putfield 65, 3) := by decide +kernel
theorem dX11_lay_39 : decode cX11_lay 39 = .ok (.aload_n 0, 1) := by decide +kernel
theorem dX11_lay_40 : decode cX11_lay 40 = .ok (.getfield 37, 3) := by decide +kernel
theorem dX11_lay_43 : decode cX11_lay 43 = .ok (.getfield 225, 3) := by decide +kernel
theorem dX11_lay_46 : decode cX11_lay 46 = .ok (.ireturn, 1) := by decide +kernel
theorem dX11_tick_0 : decode cX11_tick 0 = .ok (.aload_n 0, 1) := by decide +kernel
theorem dX11_tick_1 : decode cX11_tick 1 = .ok (.getfield 10, 3) := by decide +kernel
theorem dX11_tick_4 : decode cX11_tick 4 = .ok (.iload_n 1, 1) := by decide +kernel
theorem dX11_tick_5 : decode cX11_tick 5 = .ok (.invokevirtual 97, 3) := by decide +kernel
theorem dX11_tick_8 : decode cX11_tick 8 = .ok (.ifCond .eq 13, 3) := by decide +kernel
theorem dX11_tick_11 : decode cX11_tick 11 = .ok (.iload_n 2, 1) := by decide +kernel
theorem dX11_tick_12 : decode cX11_tick 12 = .ok (.iconst 0, 1) := by decide +kernel
theorem dX11_tick_13 : decode cX11_tick 13 = .ok (.bipush 6, 2) := by decide +kernel
theorem dX11_tick_15 : decode cX11_tick 15 = .ok (.invokestatic 115, 3) := by decide +kernel
theorem dX11_tick_18 : decode cX11_tick 18 = .ok (.ifCond .ne 5, 3) := by decide +kernel
theorem dX11_tick_21 : decode cX11_tick 21 = .ok (.iconst (-1), 1) := by decide +kernel
theorem dX11_tick_22 : decode cX11_tick 22 = .ok (.ireturn, 1) := by decide +kernel
theorem dX11_tick_23 : decode cX11_tick 23 = .ok (.aload_n 0, 1) := by decide +kernel
theorem dX11_tick_24 : decode cX11_tick 24 = .ok (.getfield 65, 3) := by decide +kernel
theorem dX11_tick_27 : decode cX11_tick 27 = .ok (.ifCond .ne 6, 3) := by decide +kernel
theorem dX11_tick_30 : decode cX11_tick 30 = .ok (.bipush (-3), 2) := by decide +kernel
theorem dX11_tick_32 : decode cX11_tick 32 = .ok (.ireturn, 1) := by decide +kernel
theorem dX11_tick_33 : decode cX11_tick 33 = .ok (.iload_n 2, 1) := by decide +kernel
theorem dX11_tick_34 : decode cX11_tick 34 = .ok (.tableswitch 127 0 5 #[38, 48, 58, 74, 107, 117], 38) := by decide +kernel
theorem dX11_tick_72 : decode cX11_tick 72 = .ok (.aload_n 0, 1) := by decide +kernel
theorem dX11_tick_73 : decode cX11_tick 73 = .ok (.getfield 37, 3) := by decide +kernel
theorem dX11_tick_76 : decode cX11_tick 76 = .ok (.getfield 228, 3) := by decide +kernel
theorem dX11_tick_79 : decode cX11_tick 79 = .ok (.iload_n 1, 1) := by decide +kernel
theorem dX11_tick_80 : decode cX11_tick 80 = .ok (.iaload, 1) := by decide +kernel
theorem dX11_tick_81 : decode cX11_tick 81 = .ok (.ireturn, 1) := by decide +kernel
theorem dX11_tick_82 : decode cX11_tick 82 = .ok (.aload_n 0, 1) := by decide +kernel
theorem dX11_tick_83 : decode cX11_tick 83 = .ok (.getfield 37, 3) := by decide +kernel
theorem dX11_tick_86 : decode cX11_tick 86 = .ok (.getfield 231, 3) := by decide +kernel
theorem dX11_tick_89 : decode cX11_tick 89 = .ok (.iload_n 1, 1) := by decide +kernel
theorem dX11_tick_90 : decode cX11_tick 90 = .ok (.iaload, 1) := by decide +kernel
theorem dX11_tick_91 : decode cX11_tick 91 = .ok (.ireturn, 1) := by decide +kernel
theorem dX11_tick_92 : decode cX11_tick 92 = .ok (.aload_n 0, 1) := by decide +kernel
theorem dX11_tick_93 : decode cX11_tick 93 = .ok (.getfield 28, 3) := by decide +kernel
theorem dX11_tick_96 : decode cX11_tick 96 = .ok (.iload_n 1, 1) := by decide +kernel
theorem dX11_tick_97 : decode cX11_tick 97 = .ok (.aload_n 0, 1) := by decide +kernel
theorem dX11_tick_98 : decode cX11_tick 98 = .ok (.getfield 37, 3) := by decide +kernel
theorem dX11_tick_101 : decode cX11_tick 101 = .ok (.getfield 228, 3) := by decide +kernel
theorem dX11_tick_104 : decode cX11_tick 104 = .ok (.invokevirtual 234, 3) := by decide +kernel
theorem dX11_tick_107 : decode cX11_tick 107 = .ok (.ireturn, 1) := by decide +kernel
theorem dX11_tick_108 : decode cX11_tick 108 = .ok (.aload_n 0, 1) := by decide +kernel
theorem dX11_tick_109 : decode cX11_tick 109 = .ok (.getfield 37, 3) := by decide +kernel
theorem dX11_tick_112 : decode cX11_tick 112 = .ok (.getfield 228, 3) := by decide +kernel
theorem dX11_tick_115 : decode cX11_tick 115 = .ok (.iload_n 1, 1) := by decide +kernel
theorem dX11_tick_116 : decode cX11_tick 116 = .ok (.iaload, 1) := by decide +kernel
theorem dX11_tick_117 : decode cX11_tick 117 = .ok (.aload_n 0, 1) := by decide +kernel
theorem dX11_tick_118 : decode cX11_tick 118 = .ok (.getfield 28, 3) := by decide +kernel
theorem dX11_tick_121 : decode cX11_tick 121 = .ok (.iload_n 1, 1) := by decide +kernel
theorem dX11_tick_122 : decode cX11_tick 122 = .ok (.aload_n 0, 1) := by decide +kernel
theorem dX11_tick_123 : decode cX11_tick 123 = .ok (.getfield 37, 3) := by decide +kernel
theorem dX11_tick_126 : decode cX11_tick 126 = .ok (.getfield 228, 3) := by decide +kernel
theorem dX11_tick_129 : decode cX11_tick 129 = .ok (.invokevirtual 238, 3) := by decide +kernel
theorem dX11_tick_132 : decode cX11_tick 132 = .ok (.if_icmp .le 7, 3) := by decide +kernel
theorem dX11_tick_135 : decode cX11_tick 135 = .ok (.iconst 1, 1) := by decide +kernel
theorem dX11_tick_136 : decode cX11_tick 136 = .ok (.goto 4, 3) := by decide +kernel
theorem dX11_tick_139 : decode cX11_tick 139 = .ok (.iconst 0, 1) := by decide +kernel
theorem dX11_tick_140 : decode cX11_tick 140 = .ok (.ireturn, 1) := by decide +kernel
theorem dX11_tick_141 : decode cX11_tick 141 = .ok (.aload_n 0, 1) := by decide +kernel
theorem dX11_tick_142 : decode cX11_tick 142 = .ok (.getfield 46, 3) := by decide +kernel
theorem dX11_tick_145 : decode cX11_tick 145 = .ok (.getfield 241, 3) := by decide +kernel
theorem dX11_tick_148 : decode cX11_tick 148 = .ok (.iload_n 1, 1) := by decide +kernel
theorem dX11_tick_149 : decode cX11_tick 149 = .ok (.iaload, 1) := by decide +kernel
theorem dX11_tick_150 : decode cX11_tick 150 = .ok (.ireturn, 1) := by decide +kernel
theorem dX11_tick_151 : decode cX11_tick 151 = .ok (.aload_n 0, 1) := by decide +kernel
theorem dX11_tick_152 : decode cX11_tick 152 = .ok (.getfield 46, 3) := by decide +kernel
theorem dX11_tick_155 : decode cX11_tick 155 = .ok (.getfield 244, 3) := by decide +kernel
theorem dX11_tick_158 : decode cX11_tick 158 = .ok (.iload_n 1, 1) := by decide +kernel
theorem dX11_tick_159 : decode cX11_tick 159 = .ok (.iaload, 1) := by decide +kernel
theorem dX11_tick_160 : decode cX11_tick 160 = .ok (.ireturn, 1) := by decide +kernel
theorem dX11_tick_161 : decode cX11_tick 161 = .ok (.aload_n 0, 1) := by decide +kernel
theorem dX11_tick_162 : decode cX11_tick 162 = .ok (.getfield 46, 3) := by decide +kernel
theorem dX11_tick_165 : decode cX11_tick 165 = .ok (.getfield 247, 3) := by decide +kernel
theorem dX11_tick_168 : decode cX11_tick 168 = .ok (.iload_n 1, 1) := by decide +kernel
theorem dX11_tick_169 : decode cX11_tick 169 = .ok (.iaload, 1) := by decide +kernel
theorem dX11_tick_170 : decode cX11_tick 170 = .ok (.ireturn, 1) := by decide +kernel
theorem dX11_bound_0 : decode cX11_bound 0 = .ok (.iload_n 1, 1) := by decide +kernel
theorem dX11_bound_1 : decode cX11_bound 1 = .ok (.iconst 0, 1) := by decide +kernel
theorem dX11_bound_2 : decode cX11_bound 2 = .ok (.iconst 5, 1) := by decide +kernel
theorem dX11_bound_3 : decode cX11_bound 3 = .ok (.invokestatic 115, 3) := by decide +kernel
theorem dX11_bound_6 : decode cX11_bound 6 = .ok (.ifCond .ne 5, 3) := by decide +kernel
theorem dX11_bound_9 : decode cX11_bound 9 = .ok (.iconst (-1), 1) := by decide +kernel
theorem dX11_bound_10 : decode cX11_bound 10 = .ok (.ireturn, 1) := by decide +kernel
theorem dX11_bound_11 : decode cX11_bound 11 = .ok (.iload_n 1, 1) := by decide +kernel
theorem dX11_bound_12 : decode cX11_bound 12 = .ok (.ifCond .ne 11, 3) := by decide +kernel
theorem dX11_bound_15 : decode cX11_bound 15 = .ok (.aload_n 0, 1) := by decide +kernel
theorem dX11_bound_16 : decode cX11_bound 16 = .ok (.getfield 28, 3) := by decide +kernel
theorem dX11_bound_19 : decode cX11_bound 19 = .ok (.invokevirtual 250, 3) := by decide +kernel
theorem dX11_bound_22 : decode cX11_bound 22 = .ok (.ireturn, 1) := by decide +kernel
theorem dX11_bound_23 : decode cX11_bound 23 = .ok (.iload_n 1, 1) := by decide +kernel
theorem dX11_bound_24 : decode cX11_bound 24 = .ok (.iconst 4, 1) := by decide +kernel
theorem dX11_bound_25 : decode cX11_bound 25 = .ok (.if_icmp .gt 18, 3) := by decide +kernel
theorem dX11_bound_28 : decode cX11_bound 28 = .ok (.aload_n 0, 1) := by decide +kernel
theorem dX11_bound_29 : decode cX11_bound 29 = .ok (.getfield 19, 3) := by decide +kernel
theorem dX11_bound_32 : decode cX11_bound 32 = .ok (.iload_n 1, 1) := by decide +kernel
theorem dX11_bound_33 : decode cX11_bound 33 = .ok (.iconst 1, 1) := by decide +kernel
theorem dX11_bound_34 : decode cX11_bound 34 = .ok (.isub, 1) := by decide +kernel
theorem dX11_bound_35 : decode cX11_bound 35 = .ok (.aload_n 0, 1) := by decide +kernel
theorem dX11_bound_36 : decode cX11_bound 36 = .ok (.getfield 10, 3) := by decide +kernel
theorem dX11_bound_39 : decode cX11_bound 39 = .ok (.invokevirtual 253, 3) := by decide +kernel
theorem dX11_bound_42 : decode cX11_bound 42 = .ok (.ireturn, 1) := by decide +kernel
theorem dX11_bound_43 : decode cX11_bound 43 = .ok (.aload_n 0, 1) := by decide +kernel
theorem dX11_bound_44 : decode cX11_bound 44 = .ok (.getfield 28, 3) := by decide +kernel
theorem dX11_bound_47 : decode cX11_bound 47 = .ok (.invokevirtual 250, 3) := by decide +kernel
theorem dX11_bound_50 : decode cX11_bound 50 = .ok (.istore_n 2, 1) := by decide +kernel
theorem dX11_bound_51 : decode cX11_bound 51 = .ok (.iconst 0, 1) := by decide +kernel
theorem dX11_bound_52 : decode cX11_bound 52 = .ok (.istore_n 3, 1) := by decide +kernel
theorem dX11_bound_53 : decode cX11_bound 53 = .ok (.iload_n 3, 1) := by decide +kernel
theorem dX11_bound_54 : decode cX11_bound 54 = .ok (.iconst 4, 1) := by decide +kernel
theorem dX11_bound_55 : decode cX11_bound 55 = .ok (.if_icmp .ge 26, 3) := by decide +kernel
theorem dX11_bound_58 : decode cX11_bound 58 = .ok (.iload_n 2, 1) := by decide +kernel
theorem dX11_bound_59 : decode cX11_bound 59 = .ok (.aload_n 0, 1) := by decide +kernel
theorem dX11_bound_60 : decode cX11_bound 60 = .ok (.getfield 19, 3) := by decide +kernel
theorem dX11_bound_63 : decode cX11_bound 63 = .ok (.iload_n 3, 1) := by decide +kernel
theorem dX11_bound_64 : decode cX11_bound 64 = .ok (.aload_n 0, 1) := by decide +kernel
theorem dX11_bound_65 : decode cX11_bound 65 = .ok (.getfield 10, 3) := by decide +kernel
theorem dX11_bound_68 : decode cX11_bound 68 = .ok (.invokevirtual 253, 3) := by decide +kernel
theorem dX11_bound_71 : decode cX11_bound 71 = .ok (.invokestatic 257, 3) := by decide +kernel
theorem dX11_bound_74 : decode cX11_bound 74 = .ok (.istore_n 2, 1) := by decide +kernel
theorem dX11_bound_75 : decode cX11_bound 75 = .ok (.iinc 3 1, 3) := by decide +kernel
theorem dX11_bound_78 : decode cX11_bound 78 = .ok (.goto (-25), 3) := by decide +kernel
theorem dX11_bound_81 : decode cX11_bound 81 = .ok (.iload_n 2, 1) := by decide +kernel
theorem dX11_bound_82 : decode cX11_bound 82 = .ok (.ireturn, 1) := by decide +kernel
theorem dX11_registers_0 : decode cX11_registers 0 = .ok (.aload_n 0, 1) := by decide +kernel
theorem dX11_registers_1 : decode cX11_registers 1 = .ok (.getfield 65, 3) := by decide +kernel
theorem dX11_registers_4 : decode cX11_registers 4 = .ok (.ifCond .eq 13, 3) := by decide +kernel
theorem dX11_registers_7 : decode cX11_registers 7 = .ok (.aload_n 0, 1) := by decide +kernel
theorem dX11_registers_8 : decode cX11_registers 8 = .ok (.getfield 46, 3) := by decide +kernel
theorem dX11_registers_11 : decode cX11_registers 11 = .ok (.getfield 262, 3) := by decide +kernel
theorem dX11_registers_14 : decode cX11_registers 14 = .ok (.goto 5, 3) := by decide +kernel
theorem dX11_registers_17 : decode cX11_registers 17 = .ok (.bipush (-3), 2) := by decide +kernel
theorem dX11_registers_19 : decode cX11_registers 19 = .ok (.ireturn, 1) := by decide +kernel
theorem dX11_chooser_0 : decode cX11_chooser 0 = .ok (.iload_n 1, 1) := by decide +kernel
theorem dX11_chooser_1 : decode cX11_chooser 1 = .ok (.invokestatic 137, 3) := by decide +kernel
theorem dX11_chooser_4 : decode cX11_chooser 4 = .ok (.ifCond .eq 20, 3) := by decide +kernel
theorem dX11_chooser_7 : decode cX11_chooser 7 = .ok (.iload_n 2, 1) := by decide +kernel
theorem dX11_chooser_8 : decode cX11_chooser 8 = .ok (.ifCond .lt 16, 3) := by decide +kernel
theorem dX11_chooser_11 : decode cX11_chooser 11 = .ok (.iload_n 2, 1) := by decide +kernel
theorem dX11_chooser_12 : decode cX11_chooser 12 = .ok (.aload_n 0, 1) := by decide +kernel
theorem dX11_chooser_13 : decode cX11_chooser 13 = .ok (.getfield 19, 3) := by decide +kernel
theorem dX11_chooser_16 : decode cX11_chooser 16 = .ok (.getfield 140, 3) := by decide +kernel
theorem dX11_chooser_19 : decode cX11_chooser 19 = .ok (.iload_n 1, 1) := by decide +kernel
theorem dX11_chooser_20 : decode cX11_chooser 20 = .ok (.iaload, 1) := by decide +kernel
theorem dX11_chooser_21 : decode cX11_chooser 21 = .ok (.if_icmp .lt 5, 3) := by decide +kernel
theorem dX11_chooser_24 : decode cX11_chooser 24 = .ok (.iconst (-1), 1) := by decide +kernel
theorem dX11_chooser_25 : decode cX11_chooser 25 = .ok (.ireturn, 1) := by decide +kernel
theorem dX11_chooser_26 : decode cX11_chooser 26 = .ok (.aload_n 0, 1) := by decide +kernel
theorem dX11_chooser_27 : decode cX11_chooser 27 = .ok (.getfield 65, 3) := by decide +kernel
theorem dX11_chooser_30 : decode cX11_chooser 30 = .ok (.ifCond .ne 6, 3) := by decide +kernel
theorem dX11_chooser_33 : decode cX11_chooser 33 = .ok (.bipush (-3), 2) := by decide +kernel
theorem dX11_chooser_35 : decode cX11_chooser 35 = .ok (.ireturn, 1) := by decide +kernel
theorem dX11_chooser_36 : decode cX11_chooser 36 = .ok (.aload_n 0, 1) := by decide +kernel
theorem dX11_chooser_37 : decode cX11_chooser 37 = .ok (.getfield 46, 3) := by decide +kernel
theorem dX11_chooser_40 : decode cX11_chooser 40 = .ok (.iload_n 1, 1) := by decide +kernel
theorem dX11_chooser_41 : decode cX11_chooser 41 = .ok (.iload_n 2, 1) := by decide +kernel
theorem dX11_chooser_42 : decode cX11_chooser 42 = .ok (.iload_n 3, 1) := by decide +kernel
theorem dX11_chooser_43 : decode cX11_chooser 43 = .ok (.invokevirtual 265, 3) := by decide +kernel
theorem dX11_chooser_46 : decode cX11_chooser 46 = .ok (.ireturn, 1) := by decide +kernel
theorem dX11_at_0 : decode cX11_at 0 = .ok (.iload_n 1, 1) := by decide +kernel
theorem dX11_at_1 : decode cX11_at 1 = .ok (.ifCond .lt 7, 3) := by decide +kernel
theorem dX11_at_4 : decode cX11_at 4 = .ok (.iload_n 2, 1) := by decide +kernel
theorem dX11_at_5 : decode cX11_at 5 = .ok (.ifCond .ge 5, 3) := by decide +kernel
theorem dX11_at_8 : decode cX11_at 8 = .ok (.iconst (-1), 1) := by decide +kernel
theorem dX11_at_9 : decode cX11_at 9 = .ok (.ireturn, 1) := by decide +kernel
theorem dX11_at_10 : decode cX11_at 10 = .ok (.aload_n 0, 1) := by decide +kernel
theorem dX11_at_11 : decode cX11_at 11 = .ok (.getfield 65, 3) := by decide +kernel
theorem dX11_at_14 : decode cX11_at 14 = .ok (.ifCond .ne 6, 3) := by decide +kernel
theorem dX11_at_17 : decode cX11_at 17 = .ok (.bipush (-3), 2) := by decide +kernel
theorem dX11_at_19 : decode cX11_at 19 = .ok (.ireturn, 1) := by decide +kernel
theorem dX11_at_20 : decode cX11_at 20 = .ok (.aload_n 0, 1) := by decide +kernel
theorem dX11_at_21 : decode cX11_at 21 = .ok (.getfield 37, 3) := by decide +kernel
theorem dX11_at_24 : decode cX11_at 24 = .ok (.iload_n 1, 1) := by decide +kernel
theorem dX11_at_25 : decode cX11_at 25 = .ok (.iload_n 2, 1) := by decide +kernel
theorem dX11_at_26 : decode cX11_at 26 = .ok (.invokevirtual 269, 3) := by decide +kernel
theorem dX11_at_29 : decode cX11_at 29 = .ok (.ireturn, 1) := by decide +kernel
theorem dX11_run_0 : decode cX11_run 0 = .ok (.aload_n 0, 1) := by decide +kernel
theorem dX11_run_1 : decode cX11_run 1 = .ok (.getfield 10, 3) := by decide +kernel
theorem dX11_run_4 : decode cX11_run 4 = .ok (.invokevirtual 127, 3) := by decide +kernel
theorem dX11_run_7 : decode cX11_run 7 = .ok (.ifCond .ne 6, 3) := by decide +kernel
theorem dX11_run_10 : decode cX11_run 10 = .ok (.bipush (-2), 2) := by decide +kernel
theorem dX11_run_12 : decode cX11_run 12 = .ok (.ireturn, 1) := by decide +kernel
theorem dX11_run_13 : decode cX11_run 13 = .ok (.iload_n 1, 1) := by decide +kernel
theorem dX11_run_14 : decode cX11_run 14 = .ok (.ifCond .eq 13, 3) := by decide +kernel
theorem dX11_run_17 : decode cX11_run 17 = .ok (.aload_n 0, 1) := by decide +kernel
theorem dX11_run_18 : decode cX11_run 18 = .ok (.getfield 65, 3) := by decide +kernel
theorem dX11_run_21 : decode cX11_run 21 = .ok (.ifCond .ne 6, 3) := by decide +kernel
theorem dX11_run_24 : decode cX11_run 24 = .ok (.bipush (-3), 2) := by decide +kernel
theorem dX11_run_26 : decode cX11_run 26 = .ok (.ireturn, 1) := by decide +kernel
theorem dX11_run_27 : decode cX11_run 27 = .ok (.iload_n 1, 1) := by decide +kernel
theorem dX11_run_28 : decode cX11_run 28 = .ok (.ifCond .eq 17, 3) := by decide +kernel
theorem dX11_run_31 : decode cX11_run 31 = .ok (.aload_n 0, 1) := by decide +kernel
theorem dX11_run_32 : decode cX11_run 32 = .ok (.getfield 55, 3) := by decide +kernel
theorem dX11_run_35 : decode cX11_run 35 = .ok (.aload_n 0, 1) := by decide +kernel
theorem dX11_run_36 : decode cX11_run 36 = .ok (.getfield 37, 3) := by decide +kernel
theorem dX11_run_39 : decode cX11_run 39 = .ok (.invokevirtual 272, 3) := by decide +kernel
theorem dX11_run_42 : decode cX11_run 42 = .ok (.goto 10, 3) := by decide +kernel
theorem dX11_run_45 : decode cX11_run 45 = .ok (.aload_n 0, 1) := by decide +kernel
theorem dX11_run_46 : decode cX11_run 46 = .ok (.getfield 55, 3) := by decide +kernel
theorem dX11_run_49 : decode cX11_run 49 = .ok (.invokevirtual 276, 3) := by decide +kernel
theorem dX11_run_52 : decode cX11_run 52 = .ok (.aload_n 0, 1) := by decide +kernel
theorem dX11_run_53 : decode cX11_run 53 = .ok (.iconst 1, 1) := by decide +kernel
theorem dX11_run_54 : decode cX11_run 54 = .ok (.putfield 69, 3) := by decide +kernel
theorem dX11_run_57 : decode cX11_run 57 = .ok (.aload_n 0, 1) := by decide +kernel
theorem dX11_run_58 : decode cX11_run 58 = .ok (.getfield 55, 3) := by decide +kernel
theorem dX11_run_61 : decode cX11_run 61 = .ok (.getfield 279, 3) := by decide +kernel
theorem dX11_run_64 : decode cX11_run 64 = .ok (.ireturn, 1) := by decide +kernel
theorem dX11_told_0 : decode cX11_told 0 = .ok (.iload_n 1, 1) := by decide +kernel
theorem dX11_told_1 : decode cX11_told 1 = .ok (.iconst 0, 1) := by decide +kernel
theorem dX11_told_2 : decode cX11_told 2 = .ok (.iconst 4, 1) := by decide +kernel
theorem dX11_told_3 : decode cX11_told 3 = .ok (.invokestatic 115, 3) := by decide +kernel
theorem dX11_told_6 : decode cX11_told 6 = .ok (.ifCond .ne 5, 3) := by decide +kernel
theorem dX11_told_9 : decode cX11_told 9 = .ok (.iconst (-1), 1) := by decide +kernel
theorem dX11_told_10 : decode cX11_told 10 = .ok (.ireturn, 1) := by decide +kernel
theorem dX11_told_11 : decode cX11_told 11 = .ok (.aload_n 0, 1) := by decide +kernel
theorem dX11_told_12 : decode cX11_told 12 = .ok (.getfield 69, 3) := by decide +kernel
theorem dX11_told_15 : decode cX11_told 15 = .ok (.ifCond .ne 6, 3) := by decide +kernel
theorem dX11_told_18 : decode cX11_told 18 = .ok (.bipush (-3), 2) := by decide +kernel
theorem dX11_told_20 : decode cX11_told 20 = .ok (.ireturn, 1) := by decide +kernel
theorem dX11_told_21 : decode cX11_told 21 = .ok (.iload_n 1, 1) := by decide +kernel
theorem dX11_told_22 : decode cX11_told 22 = .ok (.tableswitch 62 0 3 #[30, 38, 46, 54], 30) := by decide +kernel
theorem dX11_told_52 : decode cX11_told 52 = .ok (.aload_n 0, 1) := by decide +kernel
theorem dX11_told_53 : decode cX11_told 53 = .ok (.getfield 55, 3) := by decide +kernel
theorem dX11_told_56 : decode cX11_told 56 = .ok (.getfield 279, 3) := by decide +kernel
theorem dX11_told_59 : decode cX11_told 59 = .ok (.ireturn, 1) := by decide +kernel
theorem dX11_told_60 : decode cX11_told 60 = .ok (.aload_n 0, 1) := by decide +kernel
theorem dX11_told_61 : decode cX11_told 61 = .ok (.getfield 55, 3) := by decide +kernel
theorem dX11_told_64 : decode cX11_told 64 = .ok (.getfield 282, 3) := by decide +kernel
theorem dX11_told_67 : decode cX11_told 67 = .ok (.ireturn, 1) := by decide +kernel
theorem dX11_told_68 : decode cX11_told 68 = .ok (.aload_n 0, 1) := by decide +kernel
theorem dX11_told_69 : decode cX11_told 69 = .ok (.getfield 55, 3) := by decide +kernel
theorem dX11_told_72 : decode cX11_told 72 = .ok (.getfield 285, 3) := by decide +kernel
theorem dX11_told_75 : decode cX11_told 75 = .ok (.ireturn, 1) := by decide +kernel
theorem dX11_told_76 : decode cX11_told 76 = .ok (.aload_n 0, 1) := by decide +kernel
theorem dX11_told_77 : decode cX11_told 77 = .ok (.getfield 55, 3) := by decide +kernel
theorem dX11_told_80 : decode cX11_told 80 = .ok (.getfield 288, 3) := by decide +kernel
theorem dX11_told_83 : decode cX11_told 83 = .ok (.ireturn, 1) := by decide +kernel
theorem dX11_told_84 : decode cX11_told 84 = .ok (.aload_n 0, 1) := by decide +kernel
theorem dX11_told_85 : decode cX11_told 85 = .ok (.getfield 55, 3) := by decide +kernel
theorem dX11_told_88 : decode cX11_told 88 = .ok (.getfield 291, 3) := by decide +kernel
theorem dX11_told_91 : decode cX11_told 91 = .ok (.invokestatic 294, 3) := by decide +kernel
theorem dX11_told_94 : decode cX11_told 94 = .ok (.ireturn, 1) := by decide +kernel
theorem dX11_out_0 : decode cX11_out 0 = .ok (.iload_n 1, 1) := by decide +kernel
theorem dX11_out_1 : decode cX11_out 1 = .ok (.invokestatic 94, 3) := by decide +kernel
theorem dX11_out_4 : decode cX11_out 4 = .ok (.ifCond .eq 7, 3) := by decide +kernel
theorem dX11_out_7 : decode cX11_out 7 = .ok (.iload_n 2, 1) := by decide +kernel
theorem dX11_out_8 : decode cX11_out 8 = .ok (.ifCond .ge 14, 3) := by decide +kernel
theorem dX11_out_11 : decode cX11_out 11 = .ok (.new 201, 3) := by decide +kernel
theorem dX11_out_14 : decode cX11_out 14 = .ok (.dup, 1) := by decide +kernel
theorem dX11_out_15 : decode cX11_out 15 = .ok (.ldc_w 297, 3) := by decide +kernel
theorem dX11_out_18 : decode cX11_out 18 = .ok (.invokespecial 205, 3) := by decide +kernel
theorem dX11_out_21 : decode cX11_out 21 = .ok (.athrow, 1) := by decide +kernel
theorem dX11_out_22 : decode cX11_out 22 = .ok (.aload_n 0, 1) := by decide +kernel
theorem dX11_out_23 : decode cX11_out 23 = .ok (.getfield 69, 3) := by decide +kernel
theorem dX11_out_26 : decode cX11_out 26 = .ok (.ifCond .ne 14, 3) := by decide +kernel
theorem dX11_out_29 : decode cX11_out 29 = .ok (.new 299, 3) := by decide +kernel
theorem dX11_out_32 : decode cX11_out 32 = .ok (.dup, 1) := by decide +kernel
theorem dX11_out_33 : decode cX11_out 33 = .ok (.ldc_w 301, 3) := by decide +kernel
theorem dX11_out_36 : decode cX11_out 36 = .ok (.invokespecial 303, 3) := by decide +kernel
theorem dX11_out_39 : decode cX11_out 39 = .ok (.athrow, 1) := by decide +kernel
theorem dX11_out_40 : decode cX11_out 40 = .ok (.aload_n 0, 1) := by decide +kernel
theorem dX11_out_41 : decode cX11_out 41 = .ok (.getfield 55, 3) := by decide +kernel
theorem dX11_out_44 : decode cX11_out 44 = .ok (.getfield 291, 3) := by decide +kernel
theorem dX11_out_47 : decode cX11_out 47 = .ok (.iload_n 1, 1) := by decide +kernel
theorem dX11_out_48 : decode cX11_out 48 = .ok (.aaload, 1) := by decide +kernel
theorem dX11_out_49 : decode cX11_out 49 = .ok (.astore_n 3, 1) := by decide +kernel
theorem dX11_out_50 : decode cX11_out 50 = .ok (.iload_n 2, 1) := by decide +kernel
theorem dX11_out_51 : decode cX11_out 51 = .ok (.aload_n 3, 1) := by decide +kernel
theorem dX11_out_52 : decode cX11_out 52 = .ok (.invokevirtual 164, 3) := by decide +kernel
theorem dX11_out_55 : decode cX11_out 55 = .ok (.if_icmp .lt 14, 3) := by decide +kernel
theorem dX11_out_58 : decode cX11_out 58 = .ok (.new 201, 3) := by decide +kernel
theorem dX11_out_61 : decode cX11_out 61 = .ok (.dup, 1) := by decide +kernel
theorem dX11_out_62 : decode cX11_out 62 = .ok (.ldc_w 304, 3) := by decide +kernel
theorem dX11_out_65 : decode cX11_out 65 = .ok (.invokespecial 205, 3) := by decide +kernel
theorem dX11_out_68 : decode cX11_out 68 = .ok (.athrow, 1) := by decide +kernel
theorem dX11_out_69 : decode cX11_out 69 = .ok (.aload_n 3, 1) := by decide +kernel
theorem dX11_out_70 : decode cX11_out 70 = .ok (.iload_n 2, 1) := by decide +kernel
theorem dX11_out_71 : decode cX11_out 71 = .ok (.invokevirtual 306, 3) := by decide +kernel
theorem dX11_out_74 : decode cX11_out 74 = .ok (.lreturn, 1) := by decide +kernel
theorem dX11_outs_0 : decode cX11_outs 0 = .ok (.iload_n 1, 1) := by decide +kernel
theorem dX11_outs_1 : decode cX11_outs 1 = .ok (.invokestatic 94, 3) := by decide +kernel
theorem dX11_outs_4 : decode cX11_outs 4 = .ok (.ifCond .ne 5, 3) := by decide +kernel
theorem dX11_outs_7 : decode cX11_outs 7 = .ok (.iconst (-1), 1) := by decide +kernel
theorem dX11_outs_8 : decode cX11_outs 8 = .ok (.ireturn, 1) := by decide +kernel
theorem dX11_outs_9 : decode cX11_outs 9 = .ok (.aload_n 0, 1) := by decide +kernel
theorem dX11_outs_10 : decode cX11_outs 10 = .ok (.getfield 69, 3) := by decide +kernel
theorem dX11_outs_13 : decode cX11_outs 13 = .ok (.ifCond .eq 18, 3) := by decide +kernel
theorem dX11_outs_16 : decode cX11_outs 16 = .ok (.aload_n 0, 1) := by decide +kernel
theorem dX11_outs_17 : decode cX11_outs 17 = .ok (.getfield 55, 3) := by decide +kernel
theorem dX11_outs_20 : decode cX11_outs 20 = .ok (.getfield 291, 3) := by decide +kernel
theorem dX11_outs_23 : decode cX11_outs 23 = .ok (.iload_n 1, 1) := by decide +kernel
theorem dX11_outs_24 : decode cX11_outs 24 = .ok (.aaload, 1) := by decide +kernel
theorem dX11_outs_25 : decode cX11_outs 25 = .ok (.invokevirtual 164, 3) := by decide +kernel
theorem dX11_outs_28 : decode cX11_outs 28 = .ok (.goto 5, 3) := by decide +kernel
theorem dX11_outs_31 : decode cX11_outs 31 = .ok (.bipush (-3), 2) := by decide +kernel
theorem dX11_outs_33 : decode cX11_outs 33 = .ok (.ireturn, 1) := by decide +kernel
theorem dX11_row_0 : decode cX11_row 0 = .ok (.iload_n 1, 1) := by decide +kernel
theorem dX11_row_1 : decode cX11_row 1 = .ok (.i2l, 1) := by decide +kernel
theorem dX11_row_2 : decode cX11_row 2 = .ok (.invokestatic 165, 3) := by decide +kernel
theorem dX11_row_5 : decode cX11_row 5 = .ok (.ifCond .ne 14, 3) := by decide +kernel
theorem dX11_row_8 : decode cX11_row 8 = .ok (.new 201, 3) := by decide +kernel
theorem dX11_row_11 : decode cX11_row 11 = .ok (.dup, 1) := by decide +kernel
theorem dX11_row_12 : decode cX11_row 12 = .ok (.ldc_w 309, 3) := by decide +kernel
theorem dX11_row_15 : decode cX11_row 15 = .ok (.invokespecial 205, 3) := by decide +kernel
theorem dX11_row_18 : decode cX11_row 18 = .ok (.athrow, 1) := by decide +kernel
theorem dX11_row_19 : decode cX11_row 19 = .ok (.aload_n 0, 1) := by decide +kernel
theorem dX11_row_20 : decode cX11_row 20 = .ok (.getfield 69, 3) := by decide +kernel
theorem dX11_row_23 : decode cX11_row 23 = .ok (.ifCond .ne 14, 3) := by decide +kernel
theorem dX11_row_26 : decode cX11_row 26 = .ok (.new 299, 3) := by decide +kernel
theorem dX11_row_29 : decode cX11_row 29 = .ok (.dup, 1) := by decide +kernel
theorem dX11_row_30 : decode cX11_row 30 = .ok (.ldc_w 301, 3) := by decide +kernel
theorem dX11_row_33 : decode cX11_row 33 = .ok (.invokespecial 303, 3) := by decide +kernel
theorem dX11_row_36 : decode cX11_row 36 = .ok (.athrow, 1) := by decide +kernel
theorem dX11_row_37 : decode cX11_row 37 = .ok (.aload_n 0, 1) := by decide +kernel
theorem dX11_row_38 : decode cX11_row 38 = .ok (.getfield 55, 3) := by decide +kernel
theorem dX11_row_41 : decode cX11_row 41 = .ok (.getfield 311, 3) := by decide +kernel
theorem dX11_row_44 : decode cX11_row 44 = .ok (.iload_n 1, 1) := by decide +kernel
theorem dX11_row_45 : decode cX11_row 45 = .ok (.laload, 1) := by decide +kernel
theorem dX11_row_46 : decode cX11_row 46 = .ok (.lreturn, 1) := by decide +kernel
theorem dX11_count_0 : decode cX11_count 0 = .ok (.iload_n 1, 1) := by decide +kernel
theorem dX11_count_1 : decode cX11_count 1 = .ok (.tableswitch 54 0 2 #[27, 35, 43], 27) := by decide +kernel
theorem dX11_count_28 : decode cX11_count 28 = .ok (.aload_n 0, 1) := by decide +kernel
theorem dX11_count_29 : decode cX11_count 29 = .ok (.getfield 10, 3) := by decide +kernel
theorem dX11_count_32 : decode cX11_count 32 = .ok (.invokevirtual 127, 3) := by decide +kernel
theorem dX11_count_35 : decode cX11_count 35 = .ok (.ireturn, 1) := by decide +kernel
theorem dX11_count_36 : decode cX11_count 36 = .ok (.aload_n 0, 1) := by decide +kernel
theorem dX11_count_37 : decode cX11_count 37 = .ok (.getfield 10, 3) := by decide +kernel
theorem dX11_count_40 : decode cX11_count 40 = .ok (.invokevirtual 314, 3) := by decide +kernel
theorem dX11_count_43 : decode cX11_count 43 = .ok (.ireturn, 1) := by decide +kernel
theorem dX11_count_44 : decode cX11_count 44 = .ok (.aload_n 0, 1) := by decide +kernel
theorem dX11_count_45 : decode cX11_count 45 = .ok (.getfield 55, 3) := by decide +kernel
theorem dX11_count_48 : decode cX11_count 48 = .ok (.getfield 151, 3) := by decide +kernel
theorem dX11_count_51 : decode cX11_count 51 = .ok (.invokestatic 294, 3) := by decide +kernel
theorem dX11_count_54 : decode cX11_count 54 = .ok (.ireturn, 1) := by decide +kernel
theorem dX11_count_55 : decode cX11_count 55 = .ok (.iload_n 1, 1) := by decide +kernel
theorem dX11_count_56 : decode cX11_count 56 = .ok (.iconst 3, 1) := by decide +kernel
theorem dX11_count_57 : decode cX11_count 57 = .ok (.isub, 1) := by decide +kernel
theorem dX11_count_58 : decode cX11_count 58 = .ok (.invokestatic 137, 3) := by decide +kernel
theorem dX11_count_61 : decode cX11_count 61 = .ok (.ifCond .eq 17, 3) := by decide +kernel
theorem dX11_count_64 : decode cX11_count 64 = .ok (.aload_n 0, 1) := by decide +kernel
theorem dX11_count_65 : decode cX11_count 65 = .ok (.getfield 19, 3) := by decide +kernel
theorem dX11_count_68 : decode cX11_count 68 = .ok (.getfield 140, 3) := by decide +kernel
theorem dX11_count_71 : decode cX11_count 71 = .ok (.iload_n 1, 1) := by decide +kernel
theorem dX11_count_72 : decode cX11_count 72 = .ok (.iconst 3, 1) := by decide +kernel
theorem dX11_count_73 : decode cX11_count 73 = .ok (.isub, 1) := by decide +kernel
theorem dX11_count_74 : decode cX11_count 74 = .ok (.iaload, 1) := by decide +kernel
theorem dX11_count_75 : decode cX11_count 75 = .ok (.goto 4, 3) := by decide +kernel
theorem dX11_count_78 : decode cX11_count 78 = .ok (.iconst (-1), 1) := by decide +kernel
theorem dX11_count_79 : decode cX11_count 79 = .ok (.ireturn, 1) := by decide +kernel
theorem dX11_keep_0 : decode cX11_keep 0 = .ok (.iload_n 1, 1) := by decide +kernel
theorem dX11_keep_1 : decode cX11_keep 1 = .ok (.invokestatic 317, 3) := by decide +kernel
theorem dX11_keep_4 : decode cX11_keep 4 = .ok (.ifCond .ne 5, 3) := by decide +kernel
theorem dX11_keep_7 : decode cX11_keep 7 = .ok (.iconst (-1), 1) := by decide +kernel
theorem dX11_keep_8 : decode cX11_keep 8 = .ok (.ireturn, 1) := by decide +kernel
theorem dX11_keep_9 : decode cX11_keep 9 = .ok (.iload_n 2, 1) := by decide +kernel
theorem dX11_keep_10 : decode cX11_keep 10 = .ok (.tableswitch 85 0 4 #[34, 43, 85, 50, 56], 34) := by decide +kernel
theorem dX11_keep_44 : decode cX11_keep 44 = .ok (.aload_n 0, 1) := by decide +kernel
theorem dX11_keep_45 : decode cX11_keep 45 = .ok (.getfield 61, 3) := by decide +kernel
theorem dX11_keep_48 : decode cX11_keep 48 = .ok (.iload_n 1, 1) := by decide +kernel
theorem dX11_keep_49 : decode cX11_keep 49 = .ok (.aconst_null, 1) := by decide +kernel
theorem dX11_keep_50 : decode cX11_keep 50 = .ok (.aastore, 1) := by decide +kernel
theorem dX11_keep_51 : decode cX11_keep 51 = .ok (.iconst 0, 1) := by decide +kernel
theorem dX11_keep_52 : decode cX11_keep 52 = .ok (.ireturn, 1) := by decide +kernel
theorem dX11_keep_53 : decode cX11_keep 53 = .ok (.aload_n 0, 1) := by decide +kernel
theorem dX11_keep_54 : decode cX11_keep 54 = .ok (.iload_n 1, 1) := by decide +kernel
theorem dX11_keep_55 : decode cX11_keep 55 = .ok (.iload_n 3, 1) := by decide +kernel
theorem dX11_keep_56 : decode cX11_keep 56 = .ok (.invokevirtual 320, 3) := by decide +kernel
theorem dX11_keep_59 : decode cX11_keep 59 = .ok (.ireturn, 1) := by decide +kernel
theorem dX11_keep_60 : decode cX11_keep 60 = .ok (.aload_n 0, 1) := by decide +kernel
theorem dX11_keep_61 : decode cX11_keep 61 = .ok (.iload_n 1, 1) := by decide +kernel
theorem dX11_keep_62 : decode cX11_keep 62 = .ok (.invokevirtual 323, 3) := by decide +kernel
theorem dX11_keep_65 : decode cX11_keep 65 = .ok (.ireturn, 1) := by decide +kernel
theorem dX11_keep_66 : decode cX11_keep 66 = .ok (.aload_n 0, 1) := by decide +kernel
theorem dX11_keep_67 : decode cX11_keep 67 = .ok (.getfield 61, 3) := by decide +kernel
theorem dX11_keep_70 : decode cX11_keep 70 = .ok (.iload_n 1, 1) := by decide +kernel
theorem dX11_keep_71 : decode cX11_keep 71 = .ok (.new 327, 3) := by decide +kernel
theorem dX11_keep_74 : decode cX11_keep 74 = .ok (.dup, 1) := by decide +kernel
theorem dX11_keep_75 : decode cX11_keep 75 = .ok (.iconst 4, 1) := by decide +kernel
theorem dX11_keep_76 : decode cX11_keep 76 = .ok (.aload_n 0, 1) := by decide +kernel
theorem dX11_keep_77 : decode cX11_keep 77 = .ok (.getfield 55, 3) := by decide +kernel
theorem dX11_keep_80 : decode cX11_keep 80 = .ok (.getfield 169, 3) := by decide +kernel
theorem dX11_keep_83 : decode cX11_keep 83 = .ok (.invokevirtual 329, 3) := by decide +kernel
theorem dX11_keep_86 : decode cX11_keep 86 = .ok (.checkcast 330, 3) := by decide +kernel
theorem dX11_keep_89 : decode cX11_keep 89 = .ok (.invokespecial 334, 3) := by decide +kernel
theorem dX11_keep_92 : decode cX11_keep 92 = .ok (.aastore, 1) := by decide +kernel
theorem dX11_keep_93 : decode cX11_keep 93 = .ok (.iconst 0, 1) := by decide +kernel
theorem dX11_keep_94 : decode cX11_keep 94 = .ok (.ireturn, 1) := by decide +kernel
theorem dX11_keep_95 : decode cX11_keep 95 = .ok (.iconst (-1), 1) := by decide +kernel
theorem dX11_keep_96 : decode cX11_keep 96 = .ok (.ireturn, 1) := by decide +kernel
theorem dX11_make_0 : decode cX11_make 0 = .ok (.iload_n 1, 1) := by decide +kernel
theorem dX11_make_1 : decode cX11_make 1 = .ok (.invokestatic 317, 3) := by decide +kernel
theorem dX11_make_4 : decode cX11_make 4 = .ok (.ifCond .eq 18, 3) := by decide +kernel
theorem dX11_make_7 : decode cX11_make 7 = .ok (.iload_n 2, 1) := by decide +kernel
theorem dX11_make_8 : decode cX11_make 8 = .ok (.iconst 3, 1) := by decide +kernel
theorem dX11_make_9 : decode cX11_make 9 = .ok (.iconst 4, 1) := by decide +kernel
theorem dX11_make_10 : decode cX11_make 10 = .ok (.invokestatic 115, 3) := by decide +kernel
theorem dX11_make_13 : decode cX11_make 13 = .ok (.ifCond .eq 9, 3) := by decide +kernel
theorem dX11_make_16 : decode cX11_make 16 = .ok (.iload_n 3, 1) := by decide +kernel
theorem dX11_make_17 : decode cX11_make 17 = .ok (.bipush 60, 2) := by decide +kernel
theorem dX11_make_19 : decode cX11_make 19 = .ok (.if_icmp .le 5, 3) := by decide +kernel
theorem dX11_make_22 : decode cX11_make 22 = .ok (.iconst (-1), 1) := by decide +kernel
theorem dX11_make_23 : decode cX11_make 23 = .ok (.ireturn, 1) := by decide +kernel
theorem dX11_make_24 : decode cX11_make 24 = .ok (.iload_n 3, 1) := by decide +kernel
theorem dX11_make_25 : decode cX11_make 25 = .ok (.ifCond .ge 6, 3) := by decide +kernel
theorem dX11_make_28 : decode cX11_make 28 = .ok (.bipush (-14), 2) := by decide +kernel
theorem dX11_make_30 : decode cX11_make 30 = .ok (.ireturn, 1) := by decide +kernel
theorem dX11_make_31 : decode cX11_make 31 = .ok (.aload_n 0, 1) := by decide +kernel
theorem dX11_make_32 : decode cX11_make 32 = .ok (.getfield 61, 3) := by decide +kernel
theorem dX11_make_35 : decode cX11_make 35 = .ok (.iload_n 1, 1) := by decide +kernel
theorem dX11_make_36 : decode cX11_make 36 = .ok (.new 327, 3) := by decide +kernel
theorem dX11_make_39 : decode cX11_make 39 = .ok (.dup, 1) := by decide +kernel
theorem dX11_make_40 : decode cX11_make 40 = .ok (.iload_n 2, 1) := by decide +kernel
theorem dX11_make_41 : decode cX11_make 41 = .ok (.iload_n 3, 1) := by decide +kernel
theorem dX11_make_42 : decode cX11_make 42 = .ok (.newarray .long, 2) := by decide +kernel
theorem dX11_make_44 : decode cX11_make 44 = .ok (.invokespecial 334, 3) := by decide +kernel
theorem dX11_make_47 : decode cX11_make 47 = .ok (.aastore, 1) := by decide +kernel
theorem dX11_make_48 : decode cX11_make 48 = .ok (.iconst 0, 1) := by decide +kernel
theorem dX11_make_49 : decode cX11_make 49 = .ok (.ireturn, 1) := by decide +kernel
theorem dX11_element_0 : decode cX11_element 0 = .ok (.iload_n 1, 1) := by decide +kernel
theorem dX11_element_1 : decode cX11_element 1 = .ok (.invokestatic 317, 3) := by decide +kernel
theorem dX11_element_4 : decode cX11_element 4 = .ok (.ifCond .ne 14, 3) := by decide +kernel
theorem dX11_element_7 : decode cX11_element 7 = .ok (.new 201, 3) := by decide +kernel
theorem dX11_element_10 : decode cX11_element 10 = .ok (.dup, 1) := by decide +kernel
theorem dX11_element_11 : decode cX11_element 11 = .ok (.ldc_w 337, 3) := by decide +kernel
theorem dX11_element_14 : decode cX11_element 14 = .ok (.invokespecial 205, 3) := by decide +kernel
theorem dX11_element_17 : decode cX11_element 17 = .ok (.athrow, 1) := by decide +kernel
theorem dX11_element_18 : decode cX11_element 18 = .ok (.aload_n 0, 1) := by decide +kernel
theorem dX11_element_19 : decode cX11_element 19 = .ok (.getfield 61, 3) := by decide +kernel
theorem dX11_element_22 : decode cX11_element 22 = .ok (.iload_n 1, 1) := by decide +kernel
theorem dX11_element_23 : decode cX11_element 23 = .ok (.aaload, 1) := by decide +kernel
theorem dX11_element_24 : decode cX11_element 24 = .ok (.astore 4, 2) := by decide +kernel
theorem dX11_element_26 : decode cX11_element 26 = .ok (.aload 4, 2) := by decide +kernel
theorem dX11_element_28 : decode cX11_element 28 = .ok (.instanceof 327, 3) := by decide +kernel
theorem dX11_element_31 : decode cX11_element 31 = .ok (.ifCond .eq 25, 3) := by decide +kernel
theorem dX11_element_34 : decode cX11_element 34 = .ok (.aload 4, 2) := by decide +kernel
theorem dX11_element_36 : decode cX11_element 36 = .ok (.checkcast 327, 3) := by decide +kernel
theorem dX11_element_39 : decode cX11_element 39 = .ok (.astore_n 3, 1) := by decide +kernel
theorem dX11_element_40 : decode cX11_element 40 = .ok (.aload_n 3, 1) := by decide +kernel
theorem dX11_element_41 : decode cX11_element 41 = .ok (.iload_n 2, 1) := by decide +kernel
theorem dX11_element_42 : decode cX11_element 42 = .ok (.iconst 1, 1) := by decide +kernel
theorem dX11_element_43 : decode cX11_element 43 = .ok (.invokevirtual 339, 3) := by decide +kernel
theorem dX11_element_46 : decode cX11_element 46 = .ok (.ifCond .eq 10, 3) := by decide +kernel
theorem dX11_element_49 : decode cX11_element 49 = .ok (.aload_n 3, 1) := by decide +kernel
theorem dX11_element_50 : decode cX11_element 50 = .ok (.getfield 343, 3) := by decide +kernel
theorem dX11_element_53 : decode cX11_element 53 = .ok (.iload_n 2, 1) := by decide +kernel
theorem dX11_element_54 : decode cX11_element 54 = .ok (.laload, 1) := by decide +kernel
theorem dX11_element_55 : decode cX11_element 55 = .ok (.lreturn, 1) := by decide +kernel
theorem dX11_element_56 : decode cX11_element 56 = .ok (.new 299, 3) := by decide +kernel
theorem dX11_element_59 : decode cX11_element 59 = .ok (.dup, 1) := by decide +kernel
theorem dX11_element_60 : decode cX11_element 60 = .ok (.ldc_w 346, 3) := by decide +kernel
theorem dX11_element_63 : decode cX11_element 63 = .ok (.invokespecial 303, 3) := by decide +kernel
theorem dX11_element_66 : decode cX11_element 66 = .ok (.athrow, 1) := by decide +kernel
theorem dX11_copy_0 : decode cX11_copy 0 = .ok (.iload_n 1, 1) := by decide +kernel
theorem dX11_copy_1 : decode cX11_copy 1 = .ok (.invokestatic 317, 3) := by decide +kernel
theorem dX11_copy_4 : decode cX11_copy 4 = .ok (.ifCond .eq 10, 3) := by decide +kernel
theorem dX11_copy_7 : decode cX11_copy 7 = .ok (.iload_n 3, 1) := by decide +kernel
theorem dX11_copy_8 : decode cX11_copy 8 = .ok (.invokestatic 317, 3) := by decide +kernel
theorem dX11_copy_11 : decode cX11_copy 11 = .ok (.ifCond .ne 5, 3) := by decide +kernel
theorem dX11_copy_14 : decode cX11_copy 14 = .ok (.iconst (-1), 1) := by decide +kernel
theorem dX11_copy_15 : decode cX11_copy 15 = .ok (.ireturn, 1) := by decide +kernel
theorem dX11_copy_16 : decode cX11_copy 16 = .ok (.aload_n 0, 1) := by decide +kernel
theorem dX11_copy_17 : decode cX11_copy 17 = .ok (.getfield 61, 3) := by decide +kernel
theorem dX11_copy_20 : decode cX11_copy 20 = .ok (.iload_n 1, 1) := by decide +kernel
theorem dX11_copy_21 : decode cX11_copy 21 = .ok (.aaload, 1) := by decide +kernel
theorem dX11_copy_22 : decode cX11_copy 22 = .ok (.ifnull 12, 3) := by decide +kernel
theorem dX11_copy_25 : decode cX11_copy 25 = .ok (.aload_n 0, 1) := by decide +kernel
theorem dX11_copy_26 : decode cX11_copy 26 = .ok (.getfield 61, 3) := by decide +kernel
theorem dX11_copy_29 : decode cX11_copy 29 = .ok (.iload_n 3, 1) := by decide +kernel
theorem dX11_copy_30 : decode cX11_copy 30 = .ok (.aaload, 1) := by decide +kernel
theorem dX11_copy_31 : decode cX11_copy 31 = .ok (.ifnonnull 6, 3) := by decide +kernel
theorem dX11_copy_34 : decode cX11_copy 34 = .ok (.bipush (-11), 2) := by decide +kernel
theorem dX11_copy_36 : decode cX11_copy 36 = .ok (.ireturn, 1) := by decide +kernel
theorem dX11_copy_37 : decode cX11_copy 37 = .ok (.aload_n 0, 1) := by decide +kernel
theorem dX11_copy_38 : decode cX11_copy 38 = .ok (.getfield 61, 3) := by decide +kernel
theorem dX11_copy_41 : decode cX11_copy 41 = .ok (.iload_n 1, 1) := by decide +kernel
theorem dX11_copy_42 : decode cX11_copy 42 = .ok (.aaload, 1) := by decide +kernel
theorem dX11_copy_43 : decode cX11_copy 43 = .ok (.astore 8, 2) := by decide +kernel
theorem dX11_copy_45 : decode cX11_copy 45 = .ok (.aload 8, 2) := by decide +kernel
theorem dX11_copy_47 : decode cX11_copy 47 = .ok (.instanceof 327, 3) := by decide +kernel
theorem dX11_copy_50 : decode cX11_copy 50 = .ok (.ifCond .eq 59, 3) := by decide +kernel
theorem dX11_copy_53 : decode cX11_copy 53 = .ok (.aload 8, 2) := by decide +kernel
theorem dX11_copy_55 : decode cX11_copy 55 = .ok (.checkcast 327, 3) := by decide +kernel
theorem dX11_copy_58 : decode cX11_copy 58 = .ok (.astore 6, 2) := by decide +kernel
theorem dX11_copy_60 : decode cX11_copy 60 = .ok (.aload_n 0, 1) := by decide +kernel
theorem dX11_copy_61 : decode cX11_copy 61 = .ok (.getfield 61, 3) := by decide +kernel
theorem dX11_copy_64 : decode cX11_copy 64 = .ok (.iload_n 3, 1) := by decide +kernel
theorem dX11_copy_65 : decode cX11_copy 65 = .ok (.aaload, 1) := by decide +kernel
theorem dX11_copy_66 : decode cX11_copy 66 = .ok (.astore 8, 2) := by decide +kernel
theorem dX11_copy_68 : decode cX11_copy 68 = .ok (.aload 8, 2) := by decide +kernel
theorem dX11_copy_70 : decode cX11_copy 70 = .ok (.instanceof 327, 3) := by decide +kernel
theorem dX11_copy_73 : decode cX11_copy 73 = .ok (.ifCond .eq 36, 3) := by decide +kernel
theorem dX11_copy_76 : decode cX11_copy 76 = .ok (.aload 8, 2) := by decide +kernel
theorem dX11_copy_78 : decode cX11_copy 78 = .ok (.checkcast 327, 3) := by decide +kernel
theorem dX11_copy_81 : decode cX11_copy 81 = .ok (.astore 7, 2) := by decide +kernel
theorem dX11_copy_83 : decode cX11_copy 83 = .ok (.aload 6, 2) := by decide +kernel
theorem dX11_copy_85 : decode cX11_copy 85 = .ok (.getfield 348, 3) := by decide +kernel
theorem dX11_copy_88 : decode cX11_copy 88 = .ok (.aload 7, 2) := by decide +kernel
theorem dX11_copy_90 : decode cX11_copy 90 = .ok (.getfield 348, 3) := by decide +kernel
theorem dX11_copy_93 : decode cX11_copy 93 = .ok (.if_icmp .ne 16, 3) := by decide +kernel
theorem dX11_copy_96 : decode cX11_copy 96 = .ok (.aload 6, 2) := by decide +kernel
theorem dX11_copy_98 : decode cX11_copy 98 = .ok (.iload_n 2, 1) := by decide +kernel
theorem dX11_copy_99 : decode cX11_copy 99 = .ok (.aload 7, 2) := by decide +kernel
theorem dX11_copy_101 : decode cX11_copy 101 = .ok (.iload 4, 2) := by decide +kernel
theorem dX11_copy_103 : decode cX11_copy 103 = .ok (.iload 5, 2) := by decide +kernel
theorem dX11_copy_105 : decode cX11_copy 105 = .ok (.invokestatic 351, 3) := by decide +kernel
theorem dX11_copy_108 : decode cX11_copy 108 = .ok (.ireturn, 1) := by decide +kernel
theorem dX11_copy_109 : decode cX11_copy 109 = .ok (.bipush (-12), 2) := by decide +kernel
theorem dX11_copy_111 : decode cX11_copy 111 = .ok (.ireturn, 1) := by decide +kernel
theorem dX11_weight_0 : decode cX11_weight 0 = .ok (.iload_n 1, 1) := by decide +kernel
theorem dX11_weight_1 : decode cX11_weight 1 = .ok (.invokestatic 317, 3) := by decide +kernel
theorem dX11_weight_4 : decode cX11_weight 4 = .ok (.ifCond .ne 5, 3) := by decide +kernel
theorem dX11_weight_7 : decode cX11_weight 7 = .ok (.iconst (-1), 1) := by decide +kernel
theorem dX11_weight_8 : decode cX11_weight 8 = .ok (.ireturn, 1) := by decide +kernel
theorem dX11_weight_9 : decode cX11_weight 9 = .ok (.aload_n 0, 1) := by decide +kernel
theorem dX11_weight_10 : decode cX11_weight 10 = .ok (.getfield 61, 3) := by decide +kernel
theorem dX11_weight_13 : decode cX11_weight 13 = .ok (.iload_n 1, 1) := by decide +kernel
theorem dX11_weight_14 : decode cX11_weight 14 = .ok (.aaload, 1) := by decide +kernel
theorem dX11_weight_15 : decode cX11_weight 15 = .ok (.astore_n 3, 1) := by decide +kernel
theorem dX11_weight_16 : decode cX11_weight 16 = .ok (.aload_n 3, 1) := by decide +kernel
theorem dX11_weight_17 : decode cX11_weight 17 = .ok (.instanceof 80, 3) := by decide +kernel
theorem dX11_weight_20 : decode cX11_weight 20 = .ok (.ifCond .eq 13, 3) := by decide +kernel
theorem dX11_weight_23 : decode cX11_weight 23 = .ok (.aload_n 3, 1) := by decide +kernel
theorem dX11_weight_24 : decode cX11_weight 24 = .ok (.checkcast 80, 3) := by decide +kernel
theorem dX11_weight_27 : decode cX11_weight 27 = .ok (.astore_n 2, 1) := by decide +kernel
theorem dX11_weight_28 : decode cX11_weight 28 = .ok (.aload_n 2, 1) := by decide +kernel
theorem dX11_weight_29 : decode cX11_weight 29 = .ok (.invokevirtual 355, 3) := by decide +kernel
theorem dX11_weight_32 : decode cX11_weight 32 = .ok (.ireturn, 1) := by decide +kernel
theorem dX11_weight_33 : decode cX11_weight 33 = .ok (.aload_n 0, 1) := by decide +kernel
theorem dX11_weight_34 : decode cX11_weight 34 = .ok (.getfield 61, 3) := by decide +kernel
theorem dX11_weight_37 : decode cX11_weight 37 = .ok (.iload_n 1, 1) := by decide +kernel
theorem dX11_weight_38 : decode cX11_weight 38 = .ok (.aaload, 1) := by decide +kernel
theorem dX11_weight_39 : decode cX11_weight 39 = .ok (.ifnonnull 8, 3) := by decide +kernel
theorem dX11_weight_42 : decode cX11_weight 42 = .ok (.bipush (-11), 2) := by decide +kernel
theorem dX11_weight_44 : decode cX11_weight 44 = .ok (.goto 5, 3) := by decide +kernel
theorem dX11_weight_47 : decode cX11_weight 47 = .ok (.bipush (-12), 2) := by decide +kernel
theorem dX11_weight_49 : decode cX11_weight 49 = .ok (.ireturn, 1) := by decide +kernel
theorem dX11_toss_0 : decode cX11_toss 0 = .ok (.iload_n 1, 1) := by decide +kernel
theorem dX11_toss_1 : decode cX11_toss 1 = .ok (.invokestatic 317, 3) := by decide +kernel
theorem dX11_toss_4 : decode cX11_toss 4 = .ok (.ifCond .ne 5, 3) := by decide +kernel
theorem dX11_toss_7 : decode cX11_toss 7 = .ok (.iconst (-1), 1) := by decide +kernel
theorem dX11_toss_8 : decode cX11_toss 8 = .ok (.ireturn, 1) := by decide +kernel
theorem dX11_toss_9 : decode cX11_toss 9 = .ok (.aload_n 0, 1) := by decide +kernel
theorem dX11_toss_10 : decode cX11_toss 10 = .ok (.getfield 61, 3) := by decide +kernel
theorem dX11_toss_13 : decode cX11_toss 13 = .ok (.iload_n 1, 1) := by decide +kernel
theorem dX11_toss_14 : decode cX11_toss 14 = .ok (.aaload, 1) := by decide +kernel
theorem dX11_toss_15 : decode cX11_toss 15 = .ok (.astore_n 3, 1) := by decide +kernel
theorem dX11_toss_16 : decode cX11_toss 16 = .ok (.aload_n 3, 1) := by decide +kernel
theorem dX11_toss_17 : decode cX11_toss 17 = .ok (.instanceof 80, 3) := by decide +kernel
theorem dX11_toss_20 : decode cX11_toss 20 = .ok (.ifCond .eq 13, 3) := by decide +kernel
theorem dX11_toss_23 : decode cX11_toss 23 = .ok (.aload_n 3, 1) := by decide +kernel
theorem dX11_toss_24 : decode cX11_toss 24 = .ok (.checkcast 80, 3) := by decide +kernel
theorem dX11_toss_27 : decode cX11_toss 27 = .ok (.astore_n 2, 1) := by decide +kernel
theorem dX11_toss_28 : decode cX11_toss 28 = .ok (.aload_n 2, 1) := by decide +kernel
theorem dX11_toss_29 : decode cX11_toss 29 = .ok (.invokestatic 358, 3) := by decide +kernel
theorem dX11_toss_32 : decode cX11_toss 32 = .ok (.ireturn, 1) := by decide +kernel
theorem dX11_toss_33 : decode cX11_toss 33 = .ok (.aload_n 0, 1) := by decide +kernel
theorem dX11_toss_34 : decode cX11_toss 34 = .ok (.getfield 61, 3) := by decide +kernel
theorem dX11_toss_37 : decode cX11_toss 37 = .ok (.iload_n 1, 1) := by decide +kernel
theorem dX11_toss_38 : decode cX11_toss 38 = .ok (.aaload, 1) := by decide +kernel
theorem dX11_toss_39 : decode cX11_toss 39 = .ok (.ifnonnull 8, 3) := by decide +kernel
theorem dX11_toss_42 : decode cX11_toss 42 = .ok (.bipush (-11), 2) := by decide +kernel
theorem dX11_toss_44 : decode cX11_toss 44 = .ok (.goto 5, 3) := by decide +kernel
theorem dX11_toss_47 : decode cX11_toss 47 = .ok (.bipush (-12), 2) := by decide +kernel
theorem dX11_toss_49 : decode cX11_toss 49 = .ok (.ireturn, 1) := by decide +kernel
theorem dX11_append_0 : decode cX11_append 0 = .ok (.aload_n 0, 1) := by decide +kernel
theorem dX11_append_1 : decode cX11_append 1 = .ok (.getfield 10, 3) := by decide +kernel
theorem dX11_append_4 : decode cX11_append 4 = .ok (.invokevirtual 361, 3) := by decide +kernel
theorem dX11_append_7 : decode cX11_append 7 = .ok (.ifCond .eq 6, 3) := by decide +kernel
theorem dX11_append_10 : decode cX11_append 10 = .ok (.bipush (-2), 2) := by decide +kernel
theorem dX11_append_12 : decode cX11_append 12 = .ok (.ireturn, 1) := by decide +kernel
theorem dX11_append_13 : decode cX11_append 13 = .ok (.aload_n 0, 1) := by decide +kernel
theorem dX11_append_14 : decode cX11_append 14 = .ok (.invokevirtual 131, 3) := by decide +kernel
theorem dX11_append_17 : decode cX11_append 17 = .ok (.aload_n 0, 1) := by decide +kernel
theorem dX11_append_18 : decode cX11_append 18 = .ok (.getfield 10, 3) := by decide +kernel
theorem dX11_append_21 : decode cX11_append 21 = .ok (.aload_n 1, 1) := by decide +kernel
theorem dX11_append_22 : decode cX11_append 22 = .ok (.invokevirtual 362, 3) := by decide +kernel
theorem dX11_append_25 : decode cX11_append 25 = .ok (.aload_n 0, 1) := by decide +kernel
theorem dX11_append_26 : decode cX11_append 26 = .ok (.getfield 10, 3) := by decide +kernel
theorem dX11_append_29 : decode cX11_append 29 = .ok (.invokevirtual 127, 3) := by decide +kernel
theorem dX11_append_32 : decode cX11_append 32 = .ok (.iconst 1, 1) := by decide +kernel
theorem dX11_append_33 : decode cX11_append 33 = .ok (.isub, 1) := by decide +kernel
theorem dX11_append_34 : decode cX11_append 34 = .ok (.ireturn, 1) := by decide +kernel
theorem dX11_forget_0 : decode cX11_forget 0 = .ok (.aload_n 0, 1) := by decide +kernel
theorem dX11_forget_1 : decode cX11_forget 1 = .ok (.iconst 0, 1) := by decide +kernel
theorem dX11_forget_2 : decode cX11_forget 2 = .ok (.putfield 65, 3) := by decide +kernel
theorem dX11_forget_5 : decode cX11_forget 5 = .ok (.aload_n 0, 1) := by decide +kernel
theorem dX11_forget_6 : decode cX11_forget 6 = .ok (.iconst 0, 1) := by decide +kernel
theorem dX11_forget_7 : decode cX11_forget 7 = .ok (.putfield 69, 3) := by decide +kernel
theorem dX11_forget_10 : decode cX11_forget 10 = .ok (.return_, 1) := by decide +kernel
theorem dX11_keepAct_0 : decode cX11_keepAct 0 = .ok (.aload_n 0, 1) := by decide +kernel
theorem dX11_keepAct_1 : decode cX11_keepAct 1 = .ok (.getfield 10, 3) := by decide +kernel
theorem dX11_keepAct_4 : decode cX11_keepAct 4 = .ok (.iload_n 2, 1) := by decide +kernel
theorem dX11_keepAct_5 : decode cX11_keepAct 5 = .ok (.invokevirtual 97, 3) := by decide +kernel
theorem dX11_keepAct_8 : decode cX11_keepAct 8 = .ok (.ifCond .ne 5, 3) := by decide +kernel
theorem dX11_keepAct_11 : decode cX11_keepAct 11 = .ok (.iconst (-1), 1) := by decide +kernel
theorem dX11_keepAct_12 : decode cX11_keepAct 12 = .ok (.ireturn, 1) := by decide +kernel
theorem dX11_keepAct_13 : decode cX11_keepAct 13 = .ok (.aload_n 0, 1) := by decide +kernel
theorem dX11_keepAct_14 : decode cX11_keepAct 14 = .ok (.getfield 61, 3) := by decide +kernel
theorem dX11_keepAct_17 : decode cX11_keepAct 17 = .ok (.iload_n 1, 1) := by decide +kernel
theorem dX11_keepAct_18 : decode cX11_keepAct 18 = .ok (.aload_n 0, 1) := by decide +kernel
theorem dX11_keepAct_19 : decode cX11_keepAct 19 = .ok (.getfield 10, 3) := by decide +kernel
theorem dX11_keepAct_22 : decode cX11_keepAct 22 = .ok (.iload_n 2, 1) := by decide +kernel
theorem dX11_keepAct_23 : decode cX11_keepAct 23 = .ok (.invokevirtual 104, 3) := by decide +kernel
theorem dX11_keepAct_26 : decode cX11_keepAct 26 = .ok (.aastore, 1) := by decide +kernel
theorem dX11_keepAct_27 : decode cX11_keepAct 27 = .ok (.iconst 0, 1) := by decide +kernel
theorem dX11_keepAct_28 : decode cX11_keepAct 28 = .ok (.ireturn, 1) := by decide +kernel
theorem dX11_keepTicks_0 : decode cX11_keepTicks 0 = .ok (.aload_n 0, 1) := by decide +kernel
theorem dX11_keepTicks_1 : decode cX11_keepTicks 1 = .ok (.getfield 65, 3) := by decide +kernel
theorem dX11_keepTicks_4 : decode cX11_keepTicks 4 = .ok (.ifCond .ne 6, 3) := by decide +kernel
theorem dX11_keepTicks_7 : decode cX11_keepTicks 7 = .ok (.bipush (-3), 2) := by decide +kernel
theorem dX11_keepTicks_9 : decode cX11_keepTicks 9 = .ok (.ireturn, 1) := by decide +kernel
theorem dX11_keepTicks_10 : decode cX11_keepTicks 10 = .ok (.aload_n 0, 1) := by decide +kernel
theorem dX11_keepTicks_11 : decode cX11_keepTicks 11 = .ok (.getfield 10, 3) := by decide +kernel
theorem dX11_keepTicks_14 : decode cX11_keepTicks 14 = .ok (.invokevirtual 127, 3) := by decide +kernel
theorem dX11_keepTicks_17 : decode cX11_keepTicks 17 = .ok (.newarray .long, 2) := by decide +kernel
theorem dX11_keepTicks_19 : decode cX11_keepTicks 19 = .ok (.astore_n 2, 1) := by decide +kernel
theorem dX11_keepTicks_20 : decode cX11_keepTicks 20 = .ok (.iconst 0, 1) := by decide +kernel
theorem dX11_keepTicks_21 : decode cX11_keepTicks 21 = .ok (.istore_n 3, 1) := by decide +kernel
theorem dX11_keepTicks_22 : decode cX11_keepTicks 22 = .ok (.iload_n 3, 1) := by decide +kernel
theorem dX11_keepTicks_23 : decode cX11_keepTicks 23 = .ok (.aload_n 2, 1) := by decide +kernel
theorem dX11_keepTicks_24 : decode cX11_keepTicks 24 = .ok (.arraylength, 1) := by decide +kernel
theorem dX11_keepTicks_25 : decode cX11_keepTicks 25 = .ok (.if_icmp .ge 22, 3) := by decide +kernel
theorem dX11_keepTicks_28 : decode cX11_keepTicks 28 = .ok (.aload_n 2, 1) := by decide +kernel
theorem dX11_keepTicks_29 : decode cX11_keepTicks 29 = .ok (.iload_n 3, 1) := by decide +kernel
theorem dX11_keepTicks_30 : decode cX11_keepTicks 30 = .ok (.aload_n 0, 1) := by decide +kernel
theorem dX11_keepTicks_31 : decode cX11_keepTicks 31 = .ok (.getfield 37, 3) := by decide +kernel
theorem dX11_keepTicks_34 : decode cX11_keepTicks 34 = .ok (.getfield 228, 3) := by decide +kernel
theorem dX11_keepTicks_37 : decode cX11_keepTicks 37 = .ok (.iload_n 3, 1) := by decide +kernel
theorem dX11_keepTicks_38 : decode cX11_keepTicks 38 = .ok (.iaload, 1) := by decide +kernel
theorem dX11_keepTicks_39 : decode cX11_keepTicks 39 = .ok (.i2l, 1) := by decide +kernel
theorem dX11_keepTicks_40 : decode cX11_keepTicks 40 = .ok (.lastore, 1) := by decide +kernel
theorem dX11_keepTicks_41 : decode cX11_keepTicks 41 = .ok (.iinc 3 1, 3) := by decide +kernel
theorem dX11_keepTicks_44 : decode cX11_keepTicks 44 = .ok (.goto (-22), 3) := by decide +kernel
theorem dX11_keepTicks_47 : decode cX11_keepTicks 47 = .ok (.aload_n 0, 1) := by decide +kernel
theorem dX11_keepTicks_48 : decode cX11_keepTicks 48 = .ok (.getfield 61, 3) := by decide +kernel
theorem dX11_keepTicks_51 : decode cX11_keepTicks 51 = .ok (.iload_n 1, 1) := by decide +kernel
theorem dX11_keepTicks_52 : decode cX11_keepTicks 52 = .ok (.new 327, 3) := by decide +kernel
theorem dX11_keepTicks_55 : decode cX11_keepTicks 55 = .ok (.dup, 1) := by decide +kernel
theorem dX11_keepTicks_56 : decode cX11_keepTicks 56 = .ok (.iconst 3, 1) := by decide +kernel
theorem dX11_keepTicks_57 : decode cX11_keepTicks 57 = .ok (.aload_n 2, 1) := by decide +kernel
theorem dX11_keepTicks_58 : decode cX11_keepTicks 58 = .ok (.invokespecial 334, 3) := by decide +kernel
theorem dX11_keepTicks_61 : decode cX11_keepTicks 61 = .ok (.aastore, 1) := by decide +kernel
theorem dX11_keepTicks_62 : decode cX11_keepTicks 62 = .ok (.iconst 0, 1) := by decide +kernel
theorem dX11_keepTicks_63 : decode cX11_keepTicks 63 = .ok (.ireturn, 1) := by decide +kernel
theorem dX11_copyCells_0 : decode cX11_copyCells 0 = .ok (.aload_n 0, 1) := by decide +kernel
theorem dX11_copyCells_1 : decode cX11_copyCells 1 = .ok (.iload_n 1, 1) := by decide +kernel
theorem dX11_copyCells_2 : decode cX11_copyCells 2 = .ok (.iload 4, 2) := by decide +kernel
theorem dX11_copyCells_4 : decode cX11_copyCells 4 = .ok (.invokevirtual 339, 3) := by decide +kernel
theorem dX11_copyCells_7 : decode cX11_copyCells 7 = .ok (.ifCond .eq 13, 3) := by decide +kernel
theorem dX11_copyCells_10 : decode cX11_copyCells 10 = .ok (.aload_n 2, 1) := by decide +kernel
theorem dX11_copyCells_11 : decode cX11_copyCells 11 = .ok (.iload_n 3, 1) := by decide +kernel
theorem dX11_copyCells_12 : decode cX11_copyCells 12 = .ok (.iload 4, 2) := by decide +kernel
theorem dX11_copyCells_14 : decode cX11_copyCells 14 = .ok (.invokevirtual 339, 3) := by decide +kernel
theorem dX11_copyCells_17 : decode cX11_copyCells 17 = .ok (.ifCond .ne 6, 3) := by decide +kernel
theorem dX11_copyCells_20 : decode cX11_copyCells 20 = .ok (.bipush (-13), 2) := by decide +kernel
theorem dX11_copyCells_22 : decode cX11_copyCells 22 = .ok (.ireturn, 1) := by decide +kernel
theorem dX11_copyCells_23 : decode cX11_copyCells 23 = .ok (.aload_n 0, 1) := by decide +kernel
theorem dX11_copyCells_24 : decode cX11_copyCells 24 = .ok (.getfield 343, 3) := by decide +kernel
theorem dX11_copyCells_27 : decode cX11_copyCells 27 = .ok (.iload_n 1, 1) := by decide +kernel
theorem dX11_copyCells_28 : decode cX11_copyCells 28 = .ok (.aload_n 2, 1) := by decide +kernel
theorem dX11_copyCells_29 : decode cX11_copyCells 29 = .ok (.getfield 343, 3) := by decide +kernel
theorem dX11_copyCells_32 : decode cX11_copyCells 32 = .ok (.iload_n 3, 1) := by decide +kernel
theorem dX11_copyCells_33 : decode cX11_copyCells 33 = .ok (.iload 4, 2) := by decide +kernel
theorem dX11_copyCells_35 : decode cX11_copyCells 35 = .ok (.invokestatic 366, 3) := by decide +kernel
theorem dX11_copyCells_38 : decode cX11_copyCells 38 = .ok (.iload 4, 2) := by decide +kernel
theorem dX11_copyCells_40 : decode cX11_copyCells 40 = .ok (.ireturn, 1) := by decide +kernel
theorem dX11_caughtFailure_0 : decode cX11_caughtFailure 0 = .ok (.aload_n 0, 1) := by decide +kernel
theorem dX11_caughtFailure_1 : decode cX11_caughtFailure 1 = .ok (.invokevirtual 372, 3) := by decide +kernel
theorem dX11_caughtFailure_4 : decode cX11_caughtFailure 4 = .ok (.bipush (-15), 2) := by decide +kernel
theorem dX11_caughtFailure_6 : decode cX11_caughtFailure 6 = .ok (.ireturn, 1) := by decide +kernel
theorem dX11_caughtFailure_7 : decode cX11_caughtFailure 7 = .ok (.astore_n 1, 1) := by decide +kernel
theorem dX11_caughtFailure_8 : decode cX11_caughtFailure 8 = .ok (.iconst 1, 1) := by decide +kernel
theorem dX11_caughtFailure_9 : decode cX11_caughtFailure 9 = .ok (.ireturn, 1) := by decide +kernel
theorem dX11_caughtFailure_10 : decode cX11_caughtFailure 10 = .ok (.astore_n 1, 1) := by decide +kernel
theorem dX11_caughtFailure_11 : decode cX11_caughtFailure 11 = .ok (.iconst 2, 1) := by decide +kernel
theorem dX11_caughtFailure_12 : decode cX11_caughtFailure 12 = .ok (.ireturn, 1) := by decide +kernel
theorem dX11_caughtFailure_13 : decode cX11_caughtFailure 13 = .ok (.astore_n 1, 1) := by decide +kernel
theorem dX11_caughtFailure_14 : decode cX11_caughtFailure 14 = .ok (.iconst 3, 1) := by decide +kernel
theorem dX11_caughtFailure_15 : decode cX11_caughtFailure 15 = .ok (.ireturn, 1) := by decide +kernel
theorem dX11_total_0 : decode cX11_total 0 = .ok (.iconst 0, 1) := by decide +kernel
theorem dX11_total_1 : decode cX11_total 1 = .ok (.istore_n 1, 1) := by decide +kernel
theorem dX11_total_2 : decode cX11_total 2 = .ok (.aload_n 0, 1) := by decide +kernel
theorem dX11_total_3 : decode cX11_total 3 = .ok (.astore_n 2, 1) := by decide +kernel
theorem dX11_total_4 : decode cX11_total 4 = .ok (.aload_n 2, 1) := by decide +kernel
theorem dX11_total_5 : decode cX11_total 5 = .ok (.arraylength, 1) := by decide +kernel
theorem dX11_total_6 : decode cX11_total 6 = .ok (.istore_n 3, 1) := by decide +kernel
theorem dX11_total_7 : decode cX11_total 7 = .ok (.iconst 0, 1) := by decide +kernel
theorem dX11_total_8 : decode cX11_total 8 = .ok (.istore 4, 2) := by decide +kernel
theorem dX11_total_10 : decode cX11_total 10 = .ok (.iload 4, 2) := by decide +kernel
theorem dX11_total_12 : decode cX11_total 12 = .ok (.iload_n 3, 1) := by decide +kernel
theorem dX11_total_13 : decode cX11_total 13 = .ok (.if_icmp .ge 23, 3) := by decide +kernel
theorem dX11_total_16 : decode cX11_total 16 = .ok (.aload_n 2, 1) := by decide +kernel
theorem dX11_total_17 : decode cX11_total 17 = .ok (.iload 4, 2) := by decide +kernel
theorem dX11_total_19 : decode cX11_total 19 = .ok (.aaload, 1) := by decide +kernel
theorem dX11_total_20 : decode cX11_total 20 = .ok (.astore 5, 2) := by decide +kernel
theorem dX11_total_22 : decode cX11_total 22 = .ok (.iload_n 1, 1) := by decide +kernel
theorem dX11_total_23 : decode cX11_total 23 = .ok (.aload 5, 2) := by decide +kernel
theorem dX11_total_25 : decode cX11_total 25 = .ok (.invokevirtual 164, 3) := by decide +kernel
theorem dX11_total_28 : decode cX11_total 28 = .ok (.iadd, 1) := by decide +kernel
theorem dX11_total_29 : decode cX11_total 29 = .ok (.istore_n 1, 1) := by decide +kernel
theorem dX11_total_30 : decode cX11_total 30 = .ok (.iinc 4 1, 3) := by decide +kernel
theorem dX11_total_33 : decode cX11_total 33 = .ok (.goto (-23), 3) := by decide +kernel
theorem dX11_total_36 : decode cX11_total 36 = .ok (.iload_n 1, 1) := by decide +kernel
theorem dX11_total_37 : decode cX11_total 37 = .ok (.ireturn, 1) := by decide +kernel
theorem dX11_cut_0 : decode cX11_cut 0 = .ok (.bipush 64, 2) := by decide +kernel
theorem dX11_cut_2 : decode cX11_cut 2 = .ok (.iload_n 2, 1) := by decide +kernel
theorem dX11_cut_3 : decode cX11_cut 3 = .ok (.isub, 1) := by decide +kernel
theorem dX11_cut_4 : decode cX11_cut 4 = .ok (.istore_n 3, 1) := by decide +kernel
theorem dX11_cut_5 : decode cX11_cut 5 = .ok (.lload_n 0, 1) := by decide +kernel
theorem dX11_cut_6 : decode cX11_cut 6 = .ok (.iload_n 3, 1) := by decide +kernel
theorem dX11_cut_7 : decode cX11_cut 7 = .ok (.lshl, 1) := by decide +kernel
theorem dX11_cut_8 : decode cX11_cut 8 = .ok (.iload_n 3, 1) := by decide +kernel
theorem dX11_cut_9 : decode cX11_cut 9 = .ok (.lshr, 1) := by decide +kernel
theorem dX11_cut_10 : decode cX11_cut 10 = .ok (.lreturn, 1) := by decide +kernel
theorem dX11_within_0 : decode cX11_within 0 = .ok (.iload_n 0, 1) := by decide +kernel
theorem dX11_within_1 : decode cX11_within 1 = .ok (.iload_n 1, 1) := by decide +kernel
theorem dX11_within_2 : decode cX11_within 2 = .ok (.if_icmp .lt 12, 3) := by decide +kernel
theorem dX11_within_5 : decode cX11_within 5 = .ok (.iload_n 0, 1) := by decide +kernel
theorem dX11_within_6 : decode cX11_within 6 = .ok (.iload_n 2, 1) := by decide +kernel
theorem dX11_within_7 : decode cX11_within 7 = .ok (.if_icmp .gt 7, 3) := by decide +kernel
theorem dX11_within_10 : decode cX11_within 10 = .ok (.iconst 1, 1) := by decide +kernel
theorem dX11_within_11 : decode cX11_within 11 = .ok (.goto 4, 3) := by decide +kernel
theorem dX11_within_14 : decode cX11_within 14 = .ok (.iconst 0, 1) := by decide +kernel
theorem dX11_within_15 : decode cX11_within 15 = .ok (.ireturn, 1) := by decide +kernel
theorem dX11_isWidth_0 : decode cX11_isWidth 0 = .ok (.iload_n 0, 1) := by decide +kernel
theorem dX11_isWidth_1 : decode cX11_isWidth 1 = .ok (.iconst 1, 1) := by decide +kernel
theorem dX11_isWidth_2 : decode cX11_isWidth 2 = .ok (.bipush 32, 2) := by decide +kernel
theorem dX11_isWidth_4 : decode cX11_isWidth 4 = .ok (.invokestatic 115, 3) := by decide +kernel
theorem dX11_isWidth_7 : decode cX11_isWidth 7 = .ok (.ireturn, 1) := by decide +kernel
theorem dX11_isPort_0 : decode cX11_isPort 0 = .ok (.iload_n 0, 1) := by decide +kernel
theorem dX11_isPort_1 : decode cX11_isPort 1 = .ok (.iconst 0, 1) := by decide +kernel
theorem dX11_isPort_2 : decode cX11_isPort 2 = .ok (.iconst 3, 1) := by decide +kernel
theorem dX11_isPort_3 : decode cX11_isPort 3 = .ok (.invokestatic 115, 3) := by decide +kernel
theorem dX11_isPort_6 : decode cX11_isPort 6 = .ok (.ireturn, 1) := by decide +kernel
theorem dX11_isKind_0 : decode cX11_isKind 0 = .ok (.iload_n 0, 1) := by decide +kernel
theorem dX11_isKind_1 : decode cX11_isKind 1 = .ok (.iconst 0, 1) := by decide +kernel
theorem dX11_isKind_2 : decode cX11_isKind 2 = .ok (.iconst 3, 1) := by decide +kernel
theorem dX11_isKind_3 : decode cX11_isKind 3 = .ok (.invokestatic 115, 3) := by decide +kernel
theorem dX11_isKind_6 : decode cX11_isKind 6 = .ok (.ireturn, 1) := by decide +kernel
theorem dX11_isPlace_0 : decode cX11_isPlace 0 = .ok (.lload_n 0, 1) := by decide +kernel
theorem dX11_isPlace_1 : decode cX11_isPlace 1 = .ok (.lconst 0, 1) := by decide +kernel
theorem dX11_isPlace_2 : decode cX11_isPlace 2 = .ok (.lcmp, 1) := by decide +kernel
theorem dX11_isPlace_3 : decode cX11_isPlace 3 = .ok (.ifCond .lt 15, 3) := by decide +kernel
theorem dX11_isPlace_6 : decode cX11_isPlace 6 = .ok (.lload_n 0, 1) := by decide +kernel
theorem dX11_isPlace_7 : decode cX11_isPlace 7 = .ok (.ldc2_w 377, 3) := by decide +kernel
theorem dX11_isPlace_10 : decode cX11_isPlace 10 = .ok (.lcmp, 1) := by decide +kernel
theorem dX11_isPlace_11 : decode cX11_isPlace 11 = .ok (.ifCond .ge 7, 3) := by decide +kernel
theorem dX11_isPlace_14 : decode cX11_isPlace 14 = .ok (.iconst 1, 1) := by decide +kernel
theorem dX11_isPlace_15 : decode cX11_isPlace 15 = .ok (.goto 4, 3) := by decide +kernel
theorem dX11_isPlace_18 : decode cX11_isPlace 18 = .ok (.iconst 0, 1) := by decide +kernel
theorem dX11_isPlace_19 : decode cX11_isPlace 19 = .ok (.ireturn, 1) := by decide +kernel
theorem dX11_isShelf_0 : decode cX11_isShelf 0 = .ok (.iload_n 0, 1) := by decide +kernel
theorem dX11_isShelf_1 : decode cX11_isShelf 1 = .ok (.iconst 0, 1) := by decide +kernel
theorem dX11_isShelf_2 : decode cX11_isShelf 2 = .ok (.bipush 7, 2) := by decide +kernel
theorem dX11_isShelf_4 : decode cX11_isShelf 4 = .ok (.invokestatic 115, 3) := by decide +kernel
theorem dX11_isShelf_7 : decode cX11_isShelf 7 = .ok (.ireturn, 1) := by decide +kernel
theorem dX12_init_0 : decode cX12_init 0 = .ok (.aload_n 0, 1) := by decide +kernel
theorem dX12_init_1 : decode cX12_init 1 = .ok (.invokespecial 1, 3) := by decide +kernel
theorem dX12_init_4 : decode cX12_init 4 = .ok (.aload_n 0, 1) := by decide +kernel
theorem dX12_init_5 : decode cX12_init 5 = .ok (.bipush 16, 2) := by decide +kernel
theorem dX12_init_7 : decode cX12_init 7 = .ok (.newarray .int, 2) := by decide +kernel
theorem dX12_init_9 : decode cX12_init 9 = .ok (.putfield 7, 3) := by decide +kernel
theorem dX12_init_12 : decode cX12_init 12 = .ok (.aload_n 0, 1) := by decide +kernel
theorem dX12_init_13 : decode cX12_init 13 = .ok (.bipush 16, 2) := by decide +kernel
theorem dX12_init_15 : decode cX12_init 15 = .ok (.newarray .int, 2) := by decide +kernel
theorem dX12_init_17 : decode cX12_init 17 = .ok (.putfield 13, 3) := by decide +kernel
theorem dX12_init_20 : decode cX12_init 20 = .ok (.aload_n 0, 1) := by decide +kernel
theorem dX12_init_21 : decode cX12_init 21 = .ok (.bipush 48, 2) := by decide +kernel
theorem dX12_init_23 : decode cX12_init 23 = .ok (.newarray .int, 2) := by decide +kernel
theorem dX12_init_25 : decode cX12_init 25 = .ok (.putfield 16, 3) := by decide +kernel
theorem dX12_init_28 : decode cX12_init 28 = .ok (.aload_n 0, 1) := by decide +kernel
theorem dX12_init_29 : decode cX12_init 29 = .ok (.bipush 16, 2) := by decide +kernel
theorem dX12_init_31 : decode cX12_init 31 = .ok (.newarray .int, 2) := by decide +kernel
theorem dX12_init_33 : decode cX12_init 33 = .ok (.putfield 19, 3) := by decide +kernel
theorem dX12_init_36 : decode cX12_init 36 = .ok (.aload_n 0, 1) := by decide +kernel
theorem dX12_init_37 : decode cX12_init 37 = .ok (.bipush 16, 2) := by decide +kernel
theorem dX12_init_39 : decode cX12_init 39 = .ok (.newarray .long, 2) := by decide +kernel
theorem dX12_init_41 : decode cX12_init 41 = .ok (.putfield 22, 3) := by decide +kernel
theorem dX12_init_44 : decode cX12_init 44 = .ok (.aload_n 0, 1) := by decide +kernel
theorem dX12_init_45 : decode cX12_init 45 = .ok (.iconst 4, 1) := by decide +kernel
theorem dX12_init_46 : decode cX12_init 46 = .ok (.newarray .int, 2) := by decide +kernel
theorem dX12_init_48 : decode cX12_init 48 = .ok (.dup, 1) := by decide +kernel
theorem dX12_init_49 : decode cX12_init 49 = .ok (.iconst 0, 1) := by decide +kernel
theorem dX12_init_50 : decode cX12_init 50 = .ok (.iconst 1, 1) := by decide +kernel
theorem dX12_init_51 : decode cX12_init 51 = .ok (.iastore, 1) := by decide +kernel
theorem dX12_init_52 : decode cX12_init 52 = .ok (.dup, 1) := by decide +kernel
theorem dX12_init_53 : decode cX12_init 53 = .ok (.iconst 1, 1) := by decide +kernel
theorem dX12_init_54 : decode cX12_init 54 = .ok (.iconst 1, 1) := by decide +kernel
theorem dX12_init_55 : decode cX12_init 55 = .ok (.iastore, 1) := by decide +kernel
theorem dX12_init_56 : decode cX12_init 56 = .ok (.dup, 1) := by decide +kernel
theorem dX12_init_57 : decode cX12_init 57 = .ok (.iconst 2, 1) := by decide +kernel
theorem dX12_init_58 : decode cX12_init 58 = .ok (.iconst 1, 1) := by decide +kernel
theorem dX12_init_59 : decode cX12_init 59 = .ok (.iastore, 1) := by decide +kernel
theorem dX12_init_60 : decode cX12_init 60 = .ok (.dup, 1) := by decide +kernel
theorem dX12_init_61 : decode cX12_init 61 = .ok (.iconst 3, 1) := by decide +kernel
theorem dX12_init_62 : decode cX12_init 62 = .ok (.iconst 1, 1) := by decide +kernel
theorem dX12_init_63 : decode cX12_init 63 = .ok (.iastore, 1) := by decide +kernel
theorem dX12_init_64 : decode cX12_init 64 = .ok (.putfield 26, 3) := by decide +kernel
theorem dX12_init_67 : decode cX12_init 67 = .ok (.aload_n 0, 1) := by decide +kernel
theorem dX12_init_68 : decode cX12_init 68 = .ok (.iconst 4, 1) := by decide +kernel
theorem dX12_init_69 : decode cX12_init 69 = .ok (.newarray .int, 2) := by decide +kernel
theorem dX12_init_71 : decode cX12_init 71 = .ok (.dup, 1) := by decide +kernel
theorem dX12_init_72 : decode cX12_init 72 = .ok (.iconst 0, 1) := by decide +kernel
theorem dX12_init_73 : decode cX12_init 73 = .ok (.iconst 1, 1) := by decide +kernel
theorem dX12_init_74 : decode cX12_init 74 = .ok (.iastore, 1) := by decide +kernel
theorem dX12_init_75 : decode cX12_init 75 = .ok (.dup, 1) := by decide +kernel
theorem dX12_init_76 : decode cX12_init 76 = .ok (.iconst 1, 1) := by decide +kernel
theorem dX12_init_77 : decode cX12_init 77 = .ok (.iconst 2, 1) := by decide +kernel
theorem dX12_init_78 : decode cX12_init 78 = .ok (.iastore, 1) := by decide +kernel
theorem dX12_init_79 : decode cX12_init 79 = .ok (.dup, 1) := by decide +kernel
theorem dX12_init_80 : decode cX12_init 80 = .ok (.iconst 2, 1) := by decide +kernel
theorem dX12_init_81 : decode cX12_init 81 = .ok (.iconst 4, 1) := by decide +kernel
theorem dX12_init_82 : decode cX12_init 82 = .ok (.iastore, 1) := by decide +kernel
theorem dX12_init_83 : decode cX12_init 83 = .ok (.dup, 1) := by decide +kernel
theorem dX12_init_84 : decode cX12_init 84 = .ok (.iconst 3, 1) := by decide +kernel
theorem dX12_init_85 : decode cX12_init 85 = .ok (.iconst 1, 1) := by decide +kernel
theorem dX12_init_86 : decode cX12_init 86 = .ok (.iastore, 1) := by decide +kernel
theorem dX12_init_87 : decode cX12_init 87 = .ok (.putfield 29, 3) := by decide +kernel
theorem dX12_init_90 : decode cX12_init 90 = .ok (.aload_n 0, 1) := by decide +kernel
theorem dX12_init_91 : decode cX12_init 91 = .ok (.iconst 4, 1) := by decide +kernel
theorem dX12_init_92 : decode cX12_init 92 = .ok (.newarray .boolean, 2) := by decide +kernel
theorem dX12_init_94 : decode cX12_init 94 = .ok (.putfield 32, 3) := by decide +kernel
theorem dX12_init_97 : decode cX12_init 97 = .ok (.aload_n 0, 1) := by decide +kernel
theorem dX12_init_98 : decode cX12_init 98 = .ok (.iconst 4, 1) := by decide +kernel
theorem dX12_init_99 : decode cX12_init 99 = .ok (.newarray .int, 2) := by decide +kernel
theorem dX12_init_101 : decode cX12_init 101 = .ok (.putfield 36, 3) := by decide +kernel
theorem dX12_init_104 : decode cX12_init 104 = .ok (.aload_n 0, 1) := by decide +kernel
theorem dX12_init_105 : decode cX12_init 105 = .ok (.bipush 80, 2) := by decide +kernel
theorem dX12_init_107 : decode cX12_init 107 = .ok (.newarray .long, 2) := by decide +kernel
theorem dX12_init_109 : decode cX12_init 109 = .ok (.putfield 39, 3) := by decide +kernel
theorem dX12_init_112 : decode cX12_init 112 = .ok (.aload_n 0, 1) := by decide +kernel
theorem dX12_init_113 : decode cX12_init 113 = .ok (.bipush 16, 2) := by decide +kernel
theorem dX12_init_115 : decode cX12_init 115 = .ok (.newarray .long, 2) := by decide +kernel
theorem dX12_init_117 : decode cX12_init 117 = .ok (.putfield 42, 3) := by decide +kernel
theorem dX12_init_120 : decode cX12_init 120 = .ok (.aload_n 0, 1) := by decide +kernel
theorem dX12_init_121 : decode cX12_init 121 = .ok (.bipush 16, 2) := by decide +kernel
theorem dX12_init_123 : decode cX12_init 123 = .ok (.newarray .int, 2) := by decide +kernel
theorem dX12_init_125 : decode cX12_init 125 = .ok (.putfield 45, 3) := by decide +kernel
theorem dX12_init_128 : decode cX12_init 128 = .ok (.aload_n 0, 1) := by decide +kernel
theorem dX12_init_129 : decode cX12_init 129 = .ok (.bipush 16, 2) := by decide +kernel
theorem dX12_init_131 : decode cX12_init 131 = .ok (.newarray .int, 2) := by decide +kernel
theorem dX12_init_133 : decode cX12_init 133 = .ok (.putfield 48, 3) := by decide +kernel
theorem dX12_init_136 : decode cX12_init 136 = .ok (.aload_n 0, 1) := by decide +kernel
theorem dX12_init_137 : decode cX12_init 137 = .ok (.bipush 16, 2) := by decide +kernel
theorem dX12_init_139 : decode cX12_init 139 = .ok (.newarray .int, 2) := by decide +kernel
theorem dX12_init_141 : decode cX12_init 141 = .ok (.putfield 51, 3) := by decide +kernel
theorem dX12_init_144 : decode cX12_init 144 = .ok (.aload_n 0, 1) := by decide +kernel
theorem dX12_init_145 : decode cX12_init 145 = .ok (.iconst 4, 1) := by decide +kernel
theorem dX12_init_146 : decode cX12_init 146 = .ok (.newarray .int, 2) := by decide +kernel
theorem dX12_init_148 : decode cX12_init 148 = .ok (.putfield 54, 3) := by decide +kernel
theorem dX12_init_151 : decode cX12_init 151 = .ok (.aload_n 0, 1) := by decide +kernel
theorem dX12_init_152 : decode cX12_init 152 = .ok (.bipush 64, 2) := by decide +kernel
theorem dX12_init_154 : decode cX12_init 154 = .ok (.newarray .long, 2) := by decide +kernel
theorem dX12_init_156 : decode cX12_init 156 = .ok (.putfield 57, 3) := by decide +kernel
theorem dX12_init_159 : decode cX12_init 159 = .ok (.aload_n 0, 1) := by decide +kernel
theorem dX12_init_160 : decode cX12_init 160 = .ok (.bipush 16, 2) := by decide +kernel
theorem dX12_init_162 : decode cX12_init 162 = .ok (.newarray .long, 2) := by decide +kernel
theorem dX12_init_164 : decode cX12_init 164 = .ok (.putfield 60, 3) := by decide +kernel
theorem dX12_init_167 : decode cX12_init 167 = .ok (.aload_n 0, 1) := by decide +kernel
theorem dX12_init_168 : decode cX12_init 168 = .ok (.bipush 16, 2) := by decide +kernel
theorem dX12_init_170 : decode cX12_init 170 = .ok (.newarray .long, 2) := by decide +kernel
theorem dX12_init_172 : decode cX12_init 172 = .ok (.putfield 63, 3) := by decide +kernel
theorem dX12_init_175 : decode cX12_init 175 = .ok (.aload_n 0, 1) := by decide +kernel
theorem dX12_init_176 : decode cX12_init 176 = .ok (.bipush 16, 2) := by decide +kernel
theorem dX12_init_178 : decode cX12_init 178 = .ok (.newarray .long, 2) := by decide +kernel
theorem dX12_init_180 : decode cX12_init 180 = .ok (.putfield 66, 3) := by decide +kernel
theorem dX12_init_183 : decode cX12_init 183 = .ok (.aload_n 0, 1) := by decide +kernel
theorem dX12_init_184 : decode cX12_init 184 = .ok (.bipush 16, 2) := by decide +kernel
theorem dX12_init_186 : decode cX12_init 186 = .ok (.newarray .int, 2) := by decide +kernel
theorem dX12_init_188 : decode cX12_init 188 = .ok (.putfield 69, 3) := by decide +kernel
theorem dX12_init_191 : decode cX12_init 191 = .ok (.aload_n 0, 1) := by decide +kernel
theorem dX12_init_192 : decode cX12_init 192 = .ok (.bipush 16, 2) := by decide +kernel
theorem dX12_init_194 : decode cX12_init 194 = .ok (.newarray .int, 2) := by decide +kernel
theorem dX12_init_196 : decode cX12_init 196 = .ok (.putfield 72, 3) := by decide +kernel
theorem dX12_init_199 : decode cX12_init 199 = .ok (.aload_n 0, 1) := by decide +kernel
theorem dX12_init_200 : decode cX12_init 200 = .ok (.bipush 16, 2) := by decide +kernel
theorem dX12_init_202 : decode cX12_init 202 = .ok (.newarray .long, 2) := by decide +kernel
theorem dX12_init_204 : decode cX12_init 204 = .ok (.putfield 75, 3) := by decide +kernel
theorem dX12_init_207 : decode cX12_init 207 = .ok (.aload_n 0, 1) := by decide +kernel
theorem dX12_init_208 : decode cX12_init 208 = .ok (.iconst 4, 1) := by decide +kernel
theorem dX12_init_209 : decode cX12_init 209 = .ok (.newarray .int, 2) := by decide +kernel
theorem dX12_init_211 : decode cX12_init 211 = .ok (.putfield 78, 3) := by decide +kernel
theorem dX12_init_214 : decode cX12_init 214 = .ok (.aload_n 0, 1) := by decide +kernel
theorem dX12_init_215 : decode cX12_init 215 = .ok (.bipush 8, 2) := by decide +kernel
theorem dX12_init_217 : decode cX12_init 217 = .ok (.newarray .int, 2) := by decide +kernel
theorem dX12_init_219 : decode cX12_init 219 = .ok (.putfield 81, 3) := by decide +kernel
theorem dX12_init_222 : decode cX12_init 222 = .ok (.aload_n 0, 1) := by decide +kernel
theorem dX12_init_223 : decode cX12_init 223 = .ok (.bipush 8, 2) := by decide +kernel
theorem dX12_init_225 : decode cX12_init 225 = .ok (.newarray .int, 2) := by decide +kernel
theorem dX12_init_227 : decode cX12_init 227 = .ok (.putfield 84, 3) := by decide +kernel
theorem dX12_init_230 : decode cX12_init 230 = .ok (.aload_n 0, 1) := by decide +kernel
theorem dX12_init_231 : decode cX12_init 231 = .ok (.bipush 8, 2) := by decide +kernel
theorem dX12_init_233 : decode cX12_init 233 = .ok (.newarray .int, 2) := by decide +kernel
theorem dX12_init_235 : decode cX12_init 235 = .ok (.putfield 87, 3) := by decide +kernel
theorem dX12_init_238 : decode cX12_init 238 = .ok (.aload_n 0, 1) := by decide +kernel
theorem dX12_init_239 : decode cX12_init 239 = .ok (.bipush 8, 2) := by decide +kernel
theorem dX12_init_241 : decode cX12_init 241 = .ok (.newarray .int, 2) := by decide +kernel
theorem dX12_init_243 : decode cX12_init 243 = .ok (.putfield 90, 3) := by decide +kernel
theorem dX12_init_246 : decode cX12_init 246 = .ok (.aload_n 0, 1) := by decide +kernel
theorem dX12_init_247 : decode cX12_init 247 = .ok (.sipush 480, 3) := by decide +kernel
theorem dX12_init_250 : decode cX12_init 250 = .ok (.newarray .long, 2) := by decide +kernel
theorem dX12_init_252 : decode cX12_init 252 = .ok (.putfield 93, 3) := by decide +kernel
theorem dX12_init_255 : decode cX12_init 255 = .ok (.aload_n 0, 1) := by decide +kernel
theorem dX12_init_256 : decode cX12_init 256 = .ok (.bipush 60, 2) := by decide +kernel
theorem dX12_init_258 : decode cX12_init 258 = .ok (.newarray .long, 2) := by decide +kernel
theorem dX12_init_260 : decode cX12_init 260 = .ok (.putfield 96, 3) := by decide +kernel
theorem dX12_init_263 : decode cX12_init 263 = .ok (.return_, 1) := by decide +kernel
theorem dX12_thrown_0 : decode cX12_thrown 0 = .ok (.aload_n 0, 1) := by decide +kernel
theorem dX12_thrown_1 : decode cX12_thrown 1 = .ok (.getfield 99, 3) := by decide +kernel
theorem dX12_thrown_4 : decode cX12_thrown 4 = .ok (.ireturn, 1) := by decide +kernel
theorem dX12_isIn_0 : decode cX12_isIn 0 = .ok (.lload_n 0, 1) := by decide +kernel
theorem dX12_isIn_1 : decode cX12_isIn 1 = .ok (.lload_n 2, 1) := by decide +kernel
theorem dX12_isIn_2 : decode cX12_isIn 2 = .ok (.lcmp, 1) := by decide +kernel
theorem dX12_isIn_3 : decode cX12_isIn 3 = .ok (.ifCond .lt 14, 3) := by decide +kernel
theorem dX12_isIn_6 : decode cX12_isIn 6 = .ok (.lload_n 0, 1) := by decide +kernel
theorem dX12_isIn_7 : decode cX12_isIn 7 = .ok (.lload 4, 2) := by decide +kernel
theorem dX12_isIn_9 : decode cX12_isIn 9 = .ok (.lcmp, 1) := by decide +kernel
theorem dX12_isIn_10 : decode cX12_isIn 10 = .ok (.ifCond .gt 7, 3) := by decide +kernel
theorem dX12_isIn_13 : decode cX12_isIn 13 = .ok (.iconst 1, 1) := by decide +kernel
theorem dX12_isIn_14 : decode cX12_isIn 14 = .ok (.goto 4, 3) := by decide +kernel
theorem dX12_isIn_17 : decode cX12_isIn 17 = .ok (.iconst 0, 1) := by decide +kernel
theorem dX12_isIn_18 : decode cX12_isIn 18 = .ok (.ireturn, 1) := by decide +kernel
theorem dX12_isAct_0 : decode cX12_isAct 0 = .ok (.iload_n 1, 1) := by decide +kernel
theorem dX12_isAct_1 : decode cX12_isAct 1 = .ok (.ifCond .lt 15, 3) := by decide +kernel
theorem dX12_isAct_4 : decode cX12_isAct 4 = .ok (.iload_n 1, 1) := by decide +kernel
theorem dX12_isAct_5 : decode cX12_isAct 5 = .ok (.aload_n 0, 1) := by decide +kernel
theorem dX12_isAct_6 : decode cX12_isAct 6 = .ok (.getfield 103, 3) := by decide +kernel
theorem dX12_isAct_9 : decode cX12_isAct 9 = .ok (.if_icmp .ge 7, 3) := by decide +kernel
theorem dX12_isAct_12 : decode cX12_isAct 12 = .ok (.iconst 1, 1) := by decide +kernel
theorem dX12_isAct_13 : decode cX12_isAct 13 = .ok (.goto 4, 3) := by decide +kernel
theorem dX12_isAct_16 : decode cX12_isAct 16 = .ok (.iconst 0, 1) := by decide +kernel
theorem dX12_isAct_17 : decode cX12_isAct 17 = .ok (.ireturn, 1) := by decide +kernel
theorem dX12_cut_0 : decode cX12_cut 0 = .ok (.lload_n 0, 1) := by decide +kernel
theorem dX12_cut_1 : decode cX12_cut 1 = .ok (.bipush 64, 2) := by decide +kernel
theorem dX12_cut_3 : decode cX12_cut 3 = .ok (.iload_n 2, 1) := by decide +kernel
theorem dX12_cut_4 : decode cX12_cut 4 = .ok (.isub, 1) := by decide +kernel
theorem dX12_cut_5 : decode cX12_cut 5 = .ok (.lshl, 1) := by decide +kernel
theorem dX12_cut_6 : decode cX12_cut 6 = .ok (.bipush 64, 2) := by decide +kernel
theorem dX12_cut_8 : decode cX12_cut 8 = .ok (.iload_n 2, 1) := by decide +kernel
theorem dX12_cut_9 : decode cX12_cut 9 = .ok (.isub, 1) := by decide +kernel
theorem dX12_cut_10 : decode cX12_cut 10 = .ok (.lshr, 1) := by decide +kernel
theorem dX12_cut_11 : decode cX12_cut 11 = .ok (.lreturn, 1) := by decide +kernel
theorem dX12_changed_0 : decode cX12_changed 0 = .ok (.aload_n 0, 1) := by decide +kernel
theorem dX12_changed_1 : decode cX12_changed 1 = .ok (.iconst 0, 1) := by decide +kernel
theorem dX12_changed_2 : decode cX12_changed 2 = .ok (.putfield 106, 3) := by decide +kernel
theorem dX12_changed_5 : decode cX12_changed 5 = .ok (.aload_n 0, 1) := by decide +kernel
theorem dX12_changed_6 : decode cX12_changed 6 = .ok (.iconst 0, 1) := by decide +kernel
theorem dX12_changed_7 : decode cX12_changed 7 = .ok (.putfield 110, 3) := by decide +kernel
theorem dX12_changed_10 : decode cX12_changed 10 = .ok (.return_, 1) := by decide +kernel
theorem dX12_added_0 : decode cX12_added 0 = .ok (.aload_n 0, 1) := by decide +kernel
theorem dX12_added_1 : decode cX12_added 1 = .ok (.getfield 103, 3) := by decide +kernel
theorem dX12_added_4 : decode cX12_added 4 = .ok (.bipush 16, 2) := by decide +kernel
theorem dX12_added_6 : decode cX12_added 6 = .ok (.if_icmp .ne 6, 3) := by decide +kernel
theorem dX12_added_9 : decode cX12_added 9 = .ok (.bipush (-2), 2) := by decide +kernel
theorem dX12_added_11 : decode cX12_added 11 = .ok (.ireturn, 1) := by decide +kernel
theorem dX12_added_12 : decode cX12_added 12 = .ok (.aload_n 0, 1) := by decide +kernel
theorem dX12_added_13 : decode cX12_added 13 = .ok (.getfield 7, 3) := by decide +kernel
theorem dX12_added_16 : decode cX12_added 16 = .ok (.aload_n 0, 1) := by decide +kernel
theorem dX12_added_17 : decode cX12_added 17 = .ok (.getfield 103, 3) := by decide +kernel
theorem dX12_added_20 : decode cX12_added 20 = .ok (.iload_n 1, 1) := by decide +kernel
theorem dX12_added_21 : decode cX12_added 21 = .ok (.iastore, 1) := by decide +kernel
theorem dX12_added_22 : decode cX12_added 22 = .ok (.aload_n 0, 1) := by decide +kernel
theorem dX12_added_23 : decode cX12_added 23 = .ok (.getfield 13, 3) := by decide +kernel
theorem dX12_added_26 : decode cX12_added 26 = .ok (.aload_n 0, 1) := by decide +kernel
theorem dX12_added_27 : decode cX12_added 27 = .ok (.getfield 103, 3) := by decide +kernel
theorem dX12_added_30 : decode cX12_added 30 = .ok (.iload_n 2, 1) := by decide +kernel
theorem dX12_added_31 : decode cX12_added 31 = .ok (.iastore, 1) := by decide +kernel
theorem dX12_added_32 : decode cX12_added 32 = .ok (.aload_n 0, 1) := by decide +kernel
theorem dX12_added_33 : decode cX12_added 33 = .ok (.getfield 16, 3) := by decide +kernel
theorem dX12_added_36 : decode cX12_added 36 = .ok (.iconst 3, 1) := by decide +kernel
theorem dX12_added_37 : decode cX12_added 37 = .ok (.aload_n 0, 1) := by decide +kernel
theorem dX12_added_38 : decode cX12_added 38 = .ok (.getfield 103, 3) := by decide +kernel
theorem dX12_added_41 : decode cX12_added 41 = .ok (.imul, 1) := by decide +kernel
theorem dX12_added_42 : decode cX12_added 42 = .ok (.iload_n 3, 1) := by decide +kernel
theorem dX12_added_43 : decode cX12_added 43 = .ok (.iastore, 1) := by decide +kernel
theorem dX12_added_44 : decode cX12_added 44 = .ok (.aload_n 0, 1) := by decide +kernel
theorem dX12_added_45 : decode cX12_added 45 = .ok (.getfield 16, 3) := by decide +kernel
theorem dX12_added_48 : decode cX12_added 48 = .ok (.iconst 3, 1) := by decide +kernel
theorem dX12_added_49 : decode cX12_added 49 = .ok (.aload_n 0, 1) := by decide +kernel
theorem dX12_added_50 : decode cX12_added 50 = .ok (.getfield 103, 3) := by decide +kernel
theorem dX12_added_53 : decode cX12_added 53 = .ok (.imul, 1) := by decide +kernel
theorem dX12_added_54 : decode cX12_added 54 = .ok (.iconst 1, 1) := by decide +kernel
theorem dX12_added_55 : decode cX12_added 55 = .ok (.iadd, 1) := by decide +kernel
theorem dX12_added_56 : decode cX12_added 56 = .ok (.iload 4, 2) := by decide +kernel
theorem dX12_added_58 : decode cX12_added 58 = .ok (.iastore, 1) := by decide +kernel
theorem dX12_added_59 : decode cX12_added 59 = .ok (.aload_n 0, 1) := by decide +kernel
theorem dX12_added_60 : decode cX12_added 60 = .ok (.getfield 16, 3) := by decide +kernel
theorem dX12_added_63 : decode cX12_added 63 = .ok (.iconst 3, 1) := by decide +kernel
theorem dX12_added_64 : decode cX12_added 64 = .ok (.aload_n 0, 1) := by decide +kernel
theorem dX12_added_65 : decode cX12_added 65 = .ok (.getfield 103, 3) := by decide +kernel
theorem dX12_added_68 : decode cX12_added 68 = .ok (.imul, 1) := by decide +kernel
theorem dX12_added_69 : decode cX12_added 69 = .ok (.iconst 2, 1) := by decide +kernel
theorem dX12_added_70 : decode cX12_added 70 = .ok (.iadd, 1) := by decide +kernel
theorem dX12_added_71 : decode cX12_added 71 = .ok (.iload 5, 2) := by decide +kernel
theorem dX12_added_73 : decode cX12_added 73 = .ok (.iastore, 1) := by decide +kernel
theorem dX12_added_74 : decode cX12_added 74 = .ok (.aload_n 0, 1) := by decide +kernel
theorem dX12_added_75 : decode cX12_added 75 = .ok (.getfield 19, 3) := by decide +kernel
theorem dX12_added_78 : decode cX12_added 78 = .ok (.aload_n 0, 1) := by decide +kernel
theorem dX12_added_79 : decode cX12_added 79 = .ok (.getfield 103, 3) := by decide +kernel
theorem dX12_added_82 : decode cX12_added 82 = .ok (.bipush (-2), 2) := by decide +kernel
theorem dX12_added_84 : decode cX12_added 84 = .ok (.iastore, 1) := by decide +kernel
theorem dX12_added_85 : decode cX12_added 85 = .ok (.aload_n 0, 1) := by decide +kernel
theorem dX12_added_86 : decode cX12_added 86 = .ok (.dup, 1) := by decide +kernel
theorem dX12_added_87 : decode cX12_added 87 = .ok (.getfield 103, 3) := by decide +kernel
theorem dX12_added_90 : decode cX12_added 90 = .ok (.iconst 1, 1) := by decide +kernel
theorem dX12_added_91 : decode cX12_added 91 = .ok (.iadd, 1) := by decide +kernel
theorem dX12_added_92 : decode cX12_added 92 = .ok (.putfield 103, 3) := by decide +kernel
theorem dX12_added_95 : decode cX12_added 95 = .ok (.aload_n 0, 1) := by decide +kernel
theorem dX12_added_96 : decode cX12_added 96 = .ok (.invokevirtual 113, 3) := by decide +kernel
theorem dX12_added_99 : decode cX12_added 99 = .ok (.aload_n 0, 1) := by decide +kernel
theorem dX12_added_100 : decode cX12_added 100 = .ok (.getfield 103, 3) := by decide +kernel
theorem dX12_added_103 : decode cX12_added 103 = .ok (.iconst 1, 1) := by decide +kernel
theorem dX12_added_104 : decode cX12_added 104 = .ok (.isub, 1) := by decide +kernel
theorem dX12_added_105 : decode cX12_added 105 = .ok (.ireturn, 1) := by decide +kernel
theorem dX12_constant_0 : decode cX12_constant 0 = .ok (.aload_n 0, 1) := by decide +kernel
theorem dX12_constant_1 : decode cX12_constant 1 = .ok (.iconst 0, 1) := by decide +kernel
theorem dX12_constant_2 : decode cX12_constant 2 = .ok (.putfield 99, 3) := by decide +kernel
theorem dX12_constant_5 : decode cX12_constant 5 = .ok (.iload_n 3, 1) := by decide +kernel
theorem dX12_constant_6 : decode cX12_constant 6 = .ok (.i2l, 1) := by decide +kernel
theorem dX12_constant_7 : decode cX12_constant 7 = .ok (.lconst 1, 1) := by decide +kernel
theorem dX12_constant_8 : decode cX12_constant 8 = .ok (.ldc2_w 116, 3) := by decide +kernel
theorem dX12_constant_11 : decode cX12_constant 11 = .ok (.invokestatic 118, 3) := by decide +kernel
theorem dX12_constant_14 : decode cX12_constant 14 = .ok (.ifCond .ne 5, 3) := by decide +kernel
theorem dX12_constant_17 : decode cX12_constant 17 = .ok (.iconst (-1), 1) := by decide +kernel
theorem dX12_constant_18 : decode cX12_constant 18 = .ok (.ireturn, 1) := by decide +kernel
theorem dX12_constant_19 : decode cX12_constant 19 = .ok (.aload_n 0, 1) := by decide +kernel
theorem dX12_constant_20 : decode cX12_constant 20 = .ok (.iconst 0, 1) := by decide +kernel
theorem dX12_constant_21 : decode cX12_constant 21 = .ok (.iload_n 3, 1) := by decide +kernel
theorem dX12_constant_22 : decode cX12_constant 22 = .ok (.iconst (-1), 1) := by decide +kernel
theorem dX12_constant_23 : decode cX12_constant 23 = .ok (.iconst (-1), 1) := by decide +kernel
theorem dX12_constant_24 : decode cX12_constant 24 = .ok (.iconst (-1), 1) := by decide +kernel
theorem dX12_constant_25 : decode cX12_constant 25 = .ok (.invokevirtual 122, 3) := by decide +kernel
theorem dX12_constant_28 : decode cX12_constant 28 = .ok (.istore 4, 2) := by decide +kernel
theorem dX12_constant_30 : decode cX12_constant 30 = .ok (.iload 4, 2) := by decide +kernel
theorem dX12_constant_32 : decode cX12_constant 32 = .ok (.ifCond .lt 15, 3) := by decide +kernel
theorem dX12_constant_35 : decode cX12_constant 35 = .ok (.aload_n 0, 1) := by decide +kernel
theorem dX12_constant_36 : decode cX12_constant 36 = .ok (.getfield 22, 3) := by decide +kernel
theorem dX12_constant_39 : decode cX12_constant 39 = .ok (.iload 4, 2) := by decide +kernel
theorem dX12_constant_41 : decode cX12_constant 41 = .ok (.lload_n 1, 1) := by decide +kernel
theorem dX12_constant_42 : decode cX12_constant 42 = .ok (.iload_n 3, 1) := by decide +kernel
theorem dX12_constant_43 : decode cX12_constant 43 = .ok (.invokestatic 126, 3) := by decide +kernel
theorem dX12_constant_46 : decode cX12_constant 46 = .ok (.lastore, 1) := by decide +kernel
theorem dX12_constant_47 : decode cX12_constant 47 = .ok (.iload 4, 2) := by decide +kernel
theorem dX12_constant_49 : decode cX12_constant 49 = .ok (.ireturn, 1) := by decide +kernel
theorem dX12_port_0 : decode cX12_port 0 = .ok (.aload_n 0, 1) := by decide +kernel
theorem dX12_port_1 : decode cX12_port 1 = .ok (.iconst 0, 1) := by decide +kernel
theorem dX12_port_2 : decode cX12_port 2 = .ok (.putfield 99, 3) := by decide +kernel
theorem dX12_port_5 : decode cX12_port 5 = .ok (.iload_n 1, 1) := by decide +kernel
theorem dX12_port_6 : decode cX12_port 6 = .ok (.i2l, 1) := by decide +kernel
theorem dX12_port_7 : decode cX12_port 7 = .ok (.lconst 0, 1) := by decide +kernel
theorem dX12_port_8 : decode cX12_port 8 = .ok (.ldc2_w 130, 3) := by decide +kernel
theorem dX12_port_11 : decode cX12_port 11 = .ok (.invokestatic 118, 3) := by decide +kernel
theorem dX12_port_14 : decode cX12_port 14 = .ok (.ifCond .eq 28, 3) := by decide +kernel
theorem dX12_port_17 : decode cX12_port 17 = .ok (.iload_n 2, 1) := by decide +kernel
theorem dX12_port_18 : decode cX12_port 18 = .ok (.iconst (-1), 1) := by decide +kernel
theorem dX12_port_19 : decode cX12_port 19 = .ok (.if_icmp .eq 11, 3) := by decide +kernel
theorem dX12_port_22 : decode cX12_port 22 = .ok (.aload_n 0, 1) := by decide +kernel
theorem dX12_port_23 : decode cX12_port 23 = .ok (.iload_n 2, 1) := by decide +kernel
theorem dX12_port_24 : decode cX12_port 24 = .ok (.invokevirtual 132, 3) := by decide +kernel
theorem dX12_port_27 : decode cX12_port 27 = .ok (.ifCond .eq 15, 3) := by decide +kernel
theorem dX12_port_30 : decode cX12_port 30 = .ok (.iload_n 3, 1) := by decide +kernel
theorem dX12_port_31 : decode cX12_port 31 = .ok (.i2l, 1) := by decide +kernel
theorem dX12_port_32 : decode cX12_port 32 = .ok (.lconst 1, 1) := by decide +kernel
theorem dX12_port_33 : decode cX12_port 33 = .ok (.ldc2_w 116, 3) := by decide +kernel
theorem dX12_port_36 : decode cX12_port 36 = .ok (.invokestatic 118, 3) := by decide +kernel
theorem dX12_port_39 : decode cX12_port 39 = .ok (.ifCond .ne 5, 3) := by decide +kernel
theorem dX12_port_42 : decode cX12_port 42 = .ok (.iconst (-1), 1) := by decide +kernel
theorem dX12_port_43 : decode cX12_port 43 = .ok (.ireturn, 1) := by decide +kernel
theorem dX12_port_44 : decode cX12_port 44 = .ok (.aload_n 0, 1) := by decide +kernel
theorem dX12_port_45 : decode cX12_port 45 = .ok (.iload_n 2, 1) := by decide +kernel
theorem dX12_port_46 : decode cX12_port 46 = .ok (.ifCond .ge 7, 3) := by decide +kernel
theorem dX12_port_49 : decode cX12_port 49 = .ok (.iconst 1, 1) := by decide +kernel
theorem dX12_port_50 : decode cX12_port 50 = .ok (.goto 5, 3) := by decide +kernel
theorem dX12_port_53 : decode cX12_port 53 = .ok (.bipush 10, 2) := by decide +kernel
theorem dX12_port_55 : decode cX12_port 55 = .ok (.iload_n 3, 1) := by decide +kernel
theorem dX12_port_56 : decode cX12_port 56 = .ok (.iload_n 2, 1) := by decide +kernel
theorem dX12_port_57 : decode cX12_port 57 = .ok (.iconst (-1), 1) := by decide +kernel
theorem dX12_port_58 : decode cX12_port 58 = .ok (.iconst (-1), 1) := by decide +kernel
theorem dX12_port_59 : decode cX12_port 59 = .ok (.invokevirtual 122, 3) := by decide +kernel
theorem dX12_port_62 : decode cX12_port 62 = .ok (.istore 4, 2) := by decide +kernel
theorem dX12_port_64 : decode cX12_port 64 = .ok (.iload 4, 2) := by decide +kernel
theorem dX12_port_66 : decode cX12_port 66 = .ok (.ifCond .lt 11, 3) := by decide +kernel
theorem dX12_port_69 : decode cX12_port 69 = .ok (.aload_n 0, 1) := by decide +kernel
theorem dX12_port_70 : decode cX12_port 70 = .ok (.getfield 19, 3) := by decide +kernel
theorem dX12_port_73 : decode cX12_port 73 = .ok (.iload 4, 2) := by decide +kernel
theorem dX12_port_75 : decode cX12_port 75 = .ok (.iload_n 1, 1) := by decide +kernel
theorem dX12_port_76 : decode cX12_port 76 = .ok (.iastore, 1) := by decide +kernel
theorem dX12_port_77 : decode cX12_port 77 = .ok (.iload 4, 2) := by decide +kernel
theorem dX12_port_79 : decode cX12_port 79 = .ok (.ireturn, 1) := by decide +kernel
theorem dX12_reckon_0 : decode cX12_reckon 0 = .ok (.aload_n 0, 1) := by decide +kernel
theorem dX12_reckon_1 : decode cX12_reckon 1 = .ok (.iconst 0, 1) := by decide +kernel
theorem dX12_reckon_2 : decode cX12_reckon 2 = .ok (.putfield 99, 3) := by decide +kernel
theorem dX12_reckon_5 : decode cX12_reckon 5 = .ok (.iload_n 1, 1) := by decide +kernel
theorem dX12_reckon_6 : decode cX12_reckon 6 = .ok (.i2l, 1) := by decide +kernel
theorem dX12_reckon_7 : decode cX12_reckon 7 = .ok (.ldc2_w 136, 3) := by decide +kernel
theorem dX12_reckon_10 : decode cX12_reckon 10 = .ok (.ldc2_w 138, 3) := by decide +kernel
theorem dX12_reckon_13 : decode cX12_reckon 13 = .ok (.invokestatic 118, 3) := by decide +kernel
theorem dX12_reckon_16 : decode cX12_reckon 16 = .ok (.ifCond .eq 32, 3) := by decide +kernel
theorem dX12_reckon_19 : decode cX12_reckon 19 = .ok (.aload_n 0, 1) := by decide +kernel
theorem dX12_reckon_20 : decode cX12_reckon 20 = .ok (.iload_n 2, 1) := by decide +kernel
theorem dX12_reckon_21 : decode cX12_reckon 21 = .ok (.invokevirtual 132, 3) := by decide +kernel
theorem dX12_reckon_24 : decode cX12_reckon 24 = .ok (.ifCond .eq 24, 3) := by decide +kernel
theorem dX12_reckon_27 : decode cX12_reckon 27 = .ok (.aload_n 0, 1) := by decide +kernel
theorem dX12_reckon_28 : decode cX12_reckon 28 = .ok (.iload_n 3, 1) := by decide +kernel
theorem dX12_reckon_29 : decode cX12_reckon 29 = .ok (.invokevirtual 132, 3) := by decide +kernel
theorem dX12_reckon_32 : decode cX12_reckon 32 = .ok (.ifCond .eq 16, 3) := by decide +kernel
theorem dX12_reckon_35 : decode cX12_reckon 35 = .ok (.iload 4, 2) := by decide +kernel
theorem dX12_reckon_37 : decode cX12_reckon 37 = .ok (.i2l, 1) := by decide +kernel
theorem dX12_reckon_38 : decode cX12_reckon 38 = .ok (.lconst 1, 1) := by decide +kernel
theorem dX12_reckon_39 : decode cX12_reckon 39 = .ok (.ldc2_w 116, 3) := by decide +kernel
theorem dX12_reckon_42 : decode cX12_reckon 42 = .ok (.invokestatic 118, 3) := by decide +kernel
theorem dX12_reckon_45 : decode cX12_reckon 45 = .ok (.ifCond .ne 7, 3) := by decide +kernel
theorem dX12_reckon_48 : decode cX12_reckon 48 = .ok (.iconst (-1), 1) := by decide +kernel
theorem dX12_reckon_49 : decode cX12_reckon 49 = .ok (.goto 13, 3) := by decide +kernel
theorem dX12_reckon_52 : decode cX12_reckon 52 = .ok (.aload_n 0, 1) := by decide +kernel
theorem dX12_reckon_53 : decode cX12_reckon 53 = .ok (.iload_n 1, 1) := by decide +kernel
theorem dX12_reckon_54 : decode cX12_reckon 54 = .ok (.iload 4, 2) := by decide +kernel
theorem dX12_reckon_56 : decode cX12_reckon 56 = .ok (.iload_n 2, 1) := by decide +kernel
theorem dX12_reckon_57 : decode cX12_reckon 57 = .ok (.iload_n 3, 1) := by decide +kernel
theorem dX12_reckon_58 : decode cX12_reckon 58 = .ok (.iconst (-1), 1) := by decide +kernel
theorem dX12_reckon_59 : decode cX12_reckon 59 = .ok (.invokevirtual 122, 3) := by decide +kernel
theorem dX12_reckon_62 : decode cX12_reckon 62 = .ok (.ireturn, 1) := by decide +kernel
theorem dX12_pick_0 : decode cX12_pick 0 = .ok (.aload_n 0, 1) := by decide +kernel
theorem dX12_pick_1 : decode cX12_pick 1 = .ok (.iconst 0, 1) := by decide +kernel
theorem dX12_pick_2 : decode cX12_pick 2 = .ok (.putfield 99, 3) := by decide +kernel
theorem dX12_pick_5 : decode cX12_pick 5 = .ok (.aload_n 0, 1) := by decide +kernel
theorem dX12_pick_6 : decode cX12_pick 6 = .ok (.iload_n 1, 1) := by decide +kernel
theorem dX12_pick_7 : decode cX12_pick 7 = .ok (.invokevirtual 132, 3) := by decide +kernel
theorem dX12_pick_10 : decode cX12_pick 10 = .ok (.ifCond .eq 32, 3) := by decide +kernel
theorem dX12_pick_13 : decode cX12_pick 13 = .ok (.aload_n 0, 1) := by decide +kernel
theorem dX12_pick_14 : decode cX12_pick 14 = .ok (.iload_n 2, 1) := by decide +kernel
theorem dX12_pick_15 : decode cX12_pick 15 = .ok (.invokevirtual 132, 3) := by decide +kernel
theorem dX12_pick_18 : decode cX12_pick 18 = .ok (.ifCond .eq 24, 3) := by decide +kernel
theorem dX12_pick_21 : decode cX12_pick 21 = .ok (.aload_n 0, 1) := by decide +kernel
theorem dX12_pick_22 : decode cX12_pick 22 = .ok (.iload_n 3, 1) := by decide +kernel
theorem dX12_pick_23 : decode cX12_pick 23 = .ok (.invokevirtual 132, 3) := by decide +kernel
theorem dX12_pick_26 : decode cX12_pick 26 = .ok (.ifCond .eq 16, 3) := by decide +kernel
theorem dX12_pick_29 : decode cX12_pick 29 = .ok (.iload 4, 2) := by decide +kernel
theorem dX12_pick_31 : decode cX12_pick 31 = .ok (.i2l, 1) := by decide +kernel
theorem dX12_pick_32 : decode cX12_pick 32 = .ok (.lconst 1, 1) := by decide +kernel
theorem dX12_pick_33 : decode cX12_pick 33 = .ok (.ldc2_w 116, 3) := by decide +kernel
theorem dX12_pick_36 : decode cX12_pick 36 = .ok (.invokestatic 118, 3) := by decide +kernel
theorem dX12_pick_39 : decode cX12_pick 39 = .ok (.ifCond .ne 7, 3) := by decide +kernel
theorem dX12_pick_42 : decode cX12_pick 42 = .ok (.iconst (-1), 1) := by decide +kernel
theorem dX12_pick_43 : decode cX12_pick 43 = .ok (.goto 14, 3) := by decide +kernel
theorem dX12_pick_46 : decode cX12_pick 46 = .ok (.aload_n 0, 1) := by decide +kernel
theorem dX12_pick_47 : decode cX12_pick 47 = .ok (.bipush 7, 2) := by decide +kernel
theorem dX12_pick_49 : decode cX12_pick 49 = .ok (.iload 4, 2) := by decide +kernel
theorem dX12_pick_51 : decode cX12_pick 51 = .ok (.iload_n 1, 1) := by decide +kernel
theorem dX12_pick_52 : decode cX12_pick 52 = .ok (.iload_n 2, 1) := by decide +kernel
theorem dX12_pick_53 : decode cX12_pick 53 = .ok (.iload_n 3, 1) := by decide +kernel
theorem dX12_pick_54 : decode cX12_pick 54 = .ok (.invokevirtual 122, 3) := by decide +kernel
theorem dX12_pick_57 : decode cX12_pick 57 = .ok (.ireturn, 1) := by decide +kernel
theorem dX12_touch_0 : decode cX12_touch 0 = .ok (.aload_n 0, 1) := by decide +kernel
theorem dX12_touch_1 : decode cX12_touch 1 = .ok (.iconst 0, 1) := by decide +kernel
theorem dX12_touch_2 : decode cX12_touch 2 = .ok (.putfield 99, 3) := by decide +kernel
theorem dX12_touch_5 : decode cX12_touch 5 = .ok (.aload_n 0, 1) := by decide +kernel
theorem dX12_touch_6 : decode cX12_touch 6 = .ok (.iload_n 1, 1) := by decide +kernel
theorem dX12_touch_7 : decode cX12_touch 7 = .ok (.invokevirtual 132, 3) := by decide +kernel
theorem dX12_touch_10 : decode cX12_touch 10 = .ok (.ifCond .eq 28, 3) := by decide +kernel
theorem dX12_touch_13 : decode cX12_touch 13 = .ok (.iload_n 2, 1) := by decide +kernel
theorem dX12_touch_14 : decode cX12_touch 14 = .ok (.iconst (-1), 1) := by decide +kernel
theorem dX12_touch_15 : decode cX12_touch 15 = .ok (.if_icmp .eq 11, 3) := by decide +kernel
theorem dX12_touch_18 : decode cX12_touch 18 = .ok (.aload_n 0, 1) := by decide +kernel
theorem dX12_touch_19 : decode cX12_touch 19 = .ok (.iload_n 2, 1) := by decide +kernel
theorem dX12_touch_20 : decode cX12_touch 20 = .ok (.invokevirtual 132, 3) := by decide +kernel
theorem dX12_touch_23 : decode cX12_touch 23 = .ok (.ifCond .eq 15, 3) := by decide +kernel
theorem dX12_touch_26 : decode cX12_touch 26 = .ok (.iload_n 3, 1) := by decide +kernel
theorem dX12_touch_27 : decode cX12_touch 27 = .ok (.i2l, 1) := by decide +kernel
theorem dX12_touch_28 : decode cX12_touch 28 = .ok (.lconst 1, 1) := by decide +kernel
theorem dX12_touch_29 : decode cX12_touch 29 = .ok (.ldc2_w 116, 3) := by decide +kernel
theorem dX12_touch_32 : decode cX12_touch 32 = .ok (.invokestatic 118, 3) := by decide +kernel
theorem dX12_touch_35 : decode cX12_touch 35 = .ok (.ifCond .ne 7, 3) := by decide +kernel
theorem dX12_touch_38 : decode cX12_touch 38 = .ok (.iconst (-1), 1) := by decide +kernel
theorem dX12_touch_39 : decode cX12_touch 39 = .ok (.goto 22, 3) := by decide +kernel
theorem dX12_touch_42 : decode cX12_touch 42 = .ok (.aload_n 0, 1) := by decide +kernel
theorem dX12_touch_43 : decode cX12_touch 43 = .ok (.iload_n 2, 1) := by decide +kernel
theorem dX12_touch_44 : decode cX12_touch 44 = .ok (.ifCond .ge 8, 3) := by decide +kernel
theorem dX12_touch_47 : decode cX12_touch 47 = .ok (.bipush 8, 2) := by decide +kernel
theorem dX12_touch_49 : decode cX12_touch 49 = .ok (.goto 5, 3) := by decide +kernel
theorem dX12_touch_52 : decode cX12_touch 52 = .ok (.bipush 9, 2) := by decide +kernel
theorem dX12_touch_54 : decode cX12_touch 54 = .ok (.iload_n 3, 1) := by decide +kernel
theorem dX12_touch_55 : decode cX12_touch 55 = .ok (.iload_n 1, 1) := by decide +kernel
theorem dX12_touch_56 : decode cX12_touch 56 = .ok (.iload_n 2, 1) := by decide +kernel
theorem dX12_touch_57 : decode cX12_touch 57 = .ok (.iconst (-1), 1) := by decide +kernel
theorem dX12_touch_58 : decode cX12_touch 58 = .ok (.invokevirtual 122, 3) := by decide +kernel
theorem dX12_touch_61 : decode cX12_touch 61 = .ok (.ireturn, 1) := by decide +kernel
theorem dX12_drop_0 : decode cX12_drop 0 = .ok (.aload_n 0, 1) := by decide +kernel
theorem dX12_drop_1 : decode cX12_drop 1 = .ok (.iconst 0, 1) := by decide +kernel
theorem dX12_drop_2 : decode cX12_drop 2 = .ok (.putfield 99, 3) := by decide +kernel
theorem dX12_drop_5 : decode cX12_drop 5 = .ok (.aload_n 0, 1) := by decide +kernel
theorem dX12_drop_6 : decode cX12_drop 6 = .ok (.getfield 103, 3) := by decide +kernel
theorem dX12_drop_9 : decode cX12_drop 9 = .ok (.ifCond .ne 6, 3) := by decide +kernel
theorem dX12_drop_12 : decode cX12_drop 12 = .ok (.bipush (-2), 2) := by decide +kernel
theorem dX12_drop_14 : decode cX12_drop 14 = .ok (.ireturn, 1) := by decide +kernel
theorem dX12_drop_15 : decode cX12_drop 15 = .ok (.aload_n 0, 1) := by decide +kernel
theorem dX12_drop_16 : decode cX12_drop 16 = .ok (.dup, 1) := by decide +kernel
theorem dX12_drop_17 : decode cX12_drop 17 = .ok (.getfield 103, 3) := by decide +kernel
theorem dX12_drop_20 : decode cX12_drop 20 = .ok (.iconst 1, 1) := by decide +kernel
theorem dX12_drop_21 : decode cX12_drop 21 = .ok (.isub, 1) := by decide +kernel
theorem dX12_drop_22 : decode cX12_drop 22 = .ok (.putfield 103, 3) := by decide +kernel
theorem dX12_drop_25 : decode cX12_drop 25 = .ok (.aload_n 0, 1) := by decide +kernel
theorem dX12_drop_26 : decode cX12_drop 26 = .ok (.invokevirtual 113, 3) := by decide +kernel
theorem dX12_drop_29 : decode cX12_drop 29 = .ok (.aload_n 0, 1) := by decide +kernel
theorem dX12_drop_30 : decode cX12_drop 30 = .ok (.getfield 103, 3) := by decide +kernel
theorem dX12_drop_33 : decode cX12_drop 33 = .ok (.ireturn, 1) := by decide +kernel
theorem dX12_parts_0 : decode cX12_parts 0 = .ok (.aload_n 0, 1) := by decide +kernel
theorem dX12_parts_1 : decode cX12_parts 1 = .ok (.iconst 0, 1) := by decide +kernel
theorem dX12_parts_2 : decode cX12_parts 2 = .ok (.putfield 99, 3) := by decide +kernel
theorem dX12_parts_5 : decode cX12_parts 5 = .ok (.iload_n 1, 1) := by decide +kernel
theorem dX12_parts_6 : decode cX12_parts 6 = .ok (.i2l, 1) := by decide +kernel
theorem dX12_parts_7 : decode cX12_parts 7 = .ok (.lconst 0, 1) := by decide +kernel
theorem dX12_parts_8 : decode cX12_parts 8 = .ok (.ldc2_w 130, 3) := by decide +kernel
theorem dX12_parts_11 : decode cX12_parts 11 = .ok (.invokestatic 118, 3) := by decide +kernel
theorem dX12_parts_14 : decode cX12_parts 14 = .ok (.ifCond .eq 15, 3) := by decide +kernel
theorem dX12_parts_17 : decode cX12_parts 17 = .ok (.iload_n 2, 1) := by decide +kernel
theorem dX12_parts_18 : decode cX12_parts 18 = .ok (.i2l, 1) := by decide +kernel
theorem dX12_parts_19 : decode cX12_parts 19 = .ok (.lconst 1, 1) := by decide +kernel
theorem dX12_parts_20 : decode cX12_parts 20 = .ok (.ldc2_w 140, 3) := by decide +kernel
theorem dX12_parts_23 : decode cX12_parts 23 = .ok (.invokestatic 118, 3) := by decide +kernel
theorem dX12_parts_26 : decode cX12_parts 26 = .ok (.ifCond .ne 5, 3) := by decide +kernel
theorem dX12_parts_29 : decode cX12_parts 29 = .ok (.iconst (-1), 1) := by decide +kernel
theorem dX12_parts_30 : decode cX12_parts 30 = .ok (.ireturn, 1) := by decide +kernel
theorem dX12_parts_31 : decode cX12_parts 31 = .ok (.aload_n 0, 1) := by decide +kernel
theorem dX12_parts_32 : decode cX12_parts 32 = .ok (.getfield 26, 3) := by decide +kernel
theorem dX12_parts_35 : decode cX12_parts 35 = .ok (.iload_n 1, 1) := by decide +kernel
theorem dX12_parts_36 : decode cX12_parts 36 = .ok (.iaload, 1) := by decide +kernel
theorem dX12_parts_37 : decode cX12_parts 37 = .ok (.istore_n 3, 1) := by decide +kernel
theorem dX12_parts_38 : decode cX12_parts 38 = .ok (.aload_n 0, 1) := by decide +kernel
theorem dX12_parts_39 : decode cX12_parts 39 = .ok (.getfield 26, 3) := by decide +kernel
theorem dX12_parts_42 : decode cX12_parts 42 = .ok (.iload_n 1, 1) := by decide +kernel
theorem dX12_parts_43 : decode cX12_parts 43 = .ok (.iload_n 2, 1) := by decide +kernel
theorem dX12_parts_44 : decode cX12_parts 44 = .ok (.iastore, 1) := by decide +kernel
theorem dX12_parts_45 : decode cX12_parts 45 = .ok (.aload_n 0, 1) := by decide +kernel
theorem dX12_parts_46 : decode cX12_parts 46 = .ok (.invokevirtual 113, 3) := by decide +kernel
theorem dX12_parts_49 : decode cX12_parts 49 = .ok (.iload_n 3, 1) := by decide +kernel
theorem dX12_parts_50 : decode cX12_parts 50 = .ok (.ireturn, 1) := by decide +kernel
theorem dX12_length_0 : decode cX12_length 0 = .ok (.aload_n 0, 1) := by decide +kernel
theorem dX12_length_1 : decode cX12_length 1 = .ok (.iconst 0, 1) := by decide +kernel
theorem dX12_length_2 : decode cX12_length 2 = .ok (.putfield 99, 3) := by decide +kernel
theorem dX12_length_5 : decode cX12_length 5 = .ok (.iload_n 1, 1) := by decide +kernel
theorem dX12_length_6 : decode cX12_length 6 = .ok (.i2l, 1) := by decide +kernel
theorem dX12_length_7 : decode cX12_length 7 = .ok (.lconst 0, 1) := by decide +kernel
theorem dX12_length_8 : decode cX12_length 8 = .ok (.ldc2_w 130, 3) := by decide +kernel
theorem dX12_length_11 : decode cX12_length 11 = .ok (.invokestatic 118, 3) := by decide +kernel
theorem dX12_length_14 : decode cX12_length 14 = .ok (.ifCond .eq 15, 3) := by decide +kernel
theorem dX12_length_17 : decode cX12_length 17 = .ok (.iload_n 2, 1) := by decide +kernel
theorem dX12_length_18 : decode cX12_length 18 = .ok (.i2l, 1) := by decide +kernel
theorem dX12_length_19 : decode cX12_length 19 = .ok (.lconst 1, 1) := by decide +kernel
theorem dX12_length_20 : decode cX12_length 20 = .ok (.ldc2_w 142, 3) := by decide +kernel
theorem dX12_length_23 : decode cX12_length 23 = .ok (.invokestatic 118, 3) := by decide +kernel
theorem dX12_length_26 : decode cX12_length 26 = .ok (.ifCond .ne 5, 3) := by decide +kernel
theorem dX12_length_29 : decode cX12_length 29 = .ok (.iconst (-1), 1) := by decide +kernel
theorem dX12_length_30 : decode cX12_length 30 = .ok (.ireturn, 1) := by decide +kernel
theorem dX12_length_31 : decode cX12_length 31 = .ok (.aload_n 0, 1) := by decide +kernel
theorem dX12_length_32 : decode cX12_length 32 = .ok (.getfield 29, 3) := by decide +kernel
theorem dX12_length_35 : decode cX12_length 35 = .ok (.iload_n 1, 1) := by decide +kernel
theorem dX12_length_36 : decode cX12_length 36 = .ok (.iaload, 1) := by decide +kernel
theorem dX12_length_37 : decode cX12_length 37 = .ok (.istore 4, 2) := by decide +kernel
theorem dX12_length_39 : decode cX12_length 39 = .ok (.aload_n 0, 1) := by decide +kernel
theorem dX12_length_40 : decode cX12_length 40 = .ok (.getfield 29, 3) := by decide +kernel
theorem dX12_length_43 : decode cX12_length 43 = .ok (.iload_n 1, 1) := by decide +kernel
theorem dX12_length_44 : decode cX12_length 44 = .ok (.iload_n 2, 1) := by decide +kernel
theorem dX12_length_45 : decode cX12_length 45 = .ok (.iastore, 1) := by decide +kernel
theorem dX12_length_46 : decode cX12_length 46 = .ok (.aload_n 0, 1) := by decide +kernel
theorem dX12_length_47 : decode cX12_length 47 = .ok (.getfield 32, 3) := by decide +kernel
theorem dX12_length_50 : decode cX12_length 50 = .ok (.iload_n 1, 1) := by decide +kernel
theorem dX12_length_51 : decode cX12_length 51 = .ok (.iload_n 3, 1) := by decide +kernel
theorem dX12_length_52 : decode cX12_length 52 = .ok (.bastore, 1) := by decide +kernel
theorem dX12_length_53 : decode cX12_length 53 = .ok (.aload_n 0, 1) := by decide +kernel
theorem dX12_length_54 : decode cX12_length 54 = .ok (.invokevirtual 113, 3) := by decide +kernel
theorem dX12_length_57 : decode cX12_length 57 = .ok (.iload 4, 2) := by decide +kernel
theorem dX12_length_59 : decode cX12_length 59 = .ok (.ireturn, 1) := by decide +kernel
theorem dX12_feed_0 : decode cX12_feed 0 = .ok (.aload_n 0, 1) := by decide +kernel
theorem dX12_feed_1 : decode cX12_feed 1 = .ok (.iconst 0, 1) := by decide +kernel
theorem dX12_feed_2 : decode cX12_feed 2 = .ok (.putfield 99, 3) := by decide +kernel
theorem dX12_feed_5 : decode cX12_feed 5 = .ok (.iload_n 1, 1) := by decide +kernel
theorem dX12_feed_6 : decode cX12_feed 6 = .ok (.i2l, 1) := by decide +kernel
theorem dX12_feed_7 : decode cX12_feed 7 = .ok (.lconst 0, 1) := by decide +kernel
theorem dX12_feed_8 : decode cX12_feed 8 = .ok (.ldc2_w 130, 3) := by decide +kernel
theorem dX12_feed_11 : decode cX12_feed 11 = .ok (.invokestatic 118, 3) := by decide +kernel
theorem dX12_feed_14 : decode cX12_feed 14 = .ok (.ifCond .ne 5, 3) := by decide +kernel
theorem dX12_feed_17 : decode cX12_feed 17 = .ok (.iconst (-1), 1) := by decide +kernel
theorem dX12_feed_18 : decode cX12_feed 18 = .ok (.ireturn, 1) := by decide +kernel
theorem dX12_feed_19 : decode cX12_feed 19 = .ok (.aload_n 0, 1) := by decide +kernel
theorem dX12_feed_20 : decode cX12_feed 20 = .ok (.getfield 36, 3) := by decide +kernel
theorem dX12_feed_23 : decode cX12_feed 23 = .ok (.iload_n 1, 1) := by decide +kernel
theorem dX12_feed_24 : decode cX12_feed 24 = .ok (.iaload, 1) := by decide +kernel
theorem dX12_feed_25 : decode cX12_feed 25 = .ok (.bipush 20, 2) := by decide +kernel
theorem dX12_feed_27 : decode cX12_feed 27 = .ok (.if_icmp .ne 6, 3) := by decide +kernel
theorem dX12_feed_30 : decode cX12_feed 30 = .ok (.bipush (-2), 2) := by decide +kernel
theorem dX12_feed_32 : decode cX12_feed 32 = .ok (.ireturn, 1) := by decide +kernel
theorem dX12_feed_33 : decode cX12_feed 33 = .ok (.aload_n 0, 1) := by decide +kernel
theorem dX12_feed_34 : decode cX12_feed 34 = .ok (.getfield 39, 3) := by decide +kernel
theorem dX12_feed_37 : decode cX12_feed 37 = .ok (.bipush 20, 2) := by decide +kernel
theorem dX12_feed_39 : decode cX12_feed 39 = .ok (.iload_n 1, 1) := by decide +kernel
theorem dX12_feed_40 : decode cX12_feed 40 = .ok (.imul, 1) := by decide +kernel
theorem dX12_feed_41 : decode cX12_feed 41 = .ok (.aload_n 0, 1) := by decide +kernel
theorem dX12_feed_42 : decode cX12_feed 42 = .ok (.getfield 36, 3) := by decide +kernel
theorem dX12_feed_45 : decode cX12_feed 45 = .ok (.iload_n 1, 1) := by decide +kernel
theorem dX12_feed_46 : decode cX12_feed 46 = .ok (.iaload, 1) := by decide +kernel
theorem dX12_feed_47 : decode cX12_feed 47 = .ok (.iadd, 1) := by decide +kernel
theorem dX12_feed_48 : decode cX12_feed 48 = .ok (.lload_n 2, 1) := by decide +kernel
theorem dX12_feed_49 : decode cX12_feed 49 = .ok (.lastore, 1) := by decide +kernel
theorem dX12_feed_50 : decode cX12_feed 50 = .ok (.aload_n 0, 1) := by decide +kernel
theorem dX12_feed_51 : decode cX12_feed 51 = .ok (.getfield 36, 3) := by decide +kernel
theorem dX12_feed_54 : decode cX12_feed 54 = .ok (.iload_n 1, 1) := by decide +kernel
theorem dX12_feed_55 : decode cX12_feed 55 = .ok (.dup2, 1) := by decide +kernel
theorem dX12_feed_56 : decode cX12_feed 56 = .ok (.iaload, 1) := by decide +kernel
theorem dX12_feed_57 : decode cX12_feed 57 = .ok (.iconst 1, 1) := by decide +kernel
theorem dX12_feed_58 : decode cX12_feed 58 = .ok (.iadd, 1) := by decide +kernel
theorem dX12_feed_59 : decode cX12_feed 59 = .ok (.iastore, 1) := by decide +kernel
theorem dX12_feed_60 : decode cX12_feed 60 = .ok (.aload_n 0, 1) := by decide +kernel
theorem dX12_feed_61 : decode cX12_feed 61 = .ok (.getfield 36, 3) := by decide +kernel
theorem dX12_feed_64 : decode cX12_feed 64 = .ok (.iload_n 1, 1) := by decide +kernel
theorem dX12_feed_65 : decode cX12_feed 65 = .ok (.iaload, 1) := by decide +kernel
theorem dX12_feed_66 : decode cX12_feed 66 = .ok (.ireturn, 1) := by decide +kernel
theorem dX12_place_0 : decode cX12_place 0 = .ok (.aload_n 0, 1) := by decide +kernel
theorem dX12_place_1 : decode cX12_place 1 = .ok (.iconst 0, 1) := by decide +kernel
theorem dX12_place_2 : decode cX12_place 2 = .ok (.putfield 99, 3) := by decide +kernel
theorem dX12_place_5 : decode cX12_place 5 = .ok (.iload_n 1, 1) := by decide +kernel
theorem dX12_place_6 : decode cX12_place 6 = .ok (.i2l, 1) := by decide +kernel
theorem dX12_place_7 : decode cX12_place 7 = .ok (.lconst 0, 1) := by decide +kernel
theorem dX12_place_8 : decode cX12_place 8 = .ok (.ldc2_w 144, 3) := by decide +kernel
theorem dX12_place_11 : decode cX12_place 11 = .ok (.invokestatic 118, 3) := by decide +kernel
theorem dX12_place_14 : decode cX12_place 14 = .ok (.ifCond .ne 5, 3) := by decide +kernel
theorem dX12_place_17 : decode cX12_place 17 = .ok (.iconst (-1), 1) := by decide +kernel
theorem dX12_place_18 : decode cX12_place 18 = .ok (.ireturn, 1) := by decide +kernel
theorem dX12_place_19 : decode cX12_place 19 = .ok (.aload_n 0, 1) := by decide +kernel
theorem dX12_place_20 : decode cX12_place 20 = .ok (.getfield 42, 3) := by decide +kernel
theorem dX12_place_23 : decode cX12_place 23 = .ok (.iload_n 1, 1) := by decide +kernel
theorem dX12_place_24 : decode cX12_place 24 = .ok (.lload_n 2, 1) := by decide +kernel
theorem dX12_place_25 : decode cX12_place 25 = .ok (.lastore, 1) := by decide +kernel
theorem dX12_place_26 : decode cX12_place 26 = .ok (.iconst 0, 1) := by decide +kernel
theorem dX12_place_27 : decode cX12_place 27 = .ok (.ireturn, 1) := by decide +kernel
theorem dX12_kindOf_0 : decode cX12_kindOf 0 = .ok (.aload_n 0, 1) := by decide +kernel
theorem dX12_kindOf_1 : decode cX12_kindOf 1 = .ok (.getfield 7, 3) := by decide +kernel
theorem dX12_kindOf_4 : decode cX12_kindOf 4 = .ok (.iload_n 1, 1) := by decide +kernel
theorem dX12_kindOf_5 : decode cX12_kindOf 5 = .ok (.iaload, 1) := by decide +kernel
theorem dX12_kindOf_6 : decode cX12_kindOf 6 = .ok (.tableswitch 54 2 9 #[46, 46, 48, 50, 46, 54, 52, 52], 46) := by decide +kernel
theorem dX12_kindOf_52 : decode cX12_kindOf 52 = .ok (.iconst 0, 1) := by decide +kernel
theorem dX12_kindOf_53 : decode cX12_kindOf 53 = .ok (.ireturn, 1) := by decide +kernel
theorem dX12_kindOf_54 : decode cX12_kindOf 54 = .ok (.iconst 1, 1) := by decide +kernel
theorem dX12_kindOf_55 : decode cX12_kindOf 55 = .ok (.ireturn, 1) := by decide +kernel
theorem dX12_kindOf_56 : decode cX12_kindOf 56 = .ok (.iconst 2, 1) := by decide +kernel
theorem dX12_kindOf_57 : decode cX12_kindOf 57 = .ok (.ireturn, 1) := by decide +kernel
theorem dX12_kindOf_58 : decode cX12_kindOf 58 = .ok (.iconst 3, 1) := by decide +kernel
theorem dX12_kindOf_59 : decode cX12_kindOf 59 = .ok (.ireturn, 1) := by decide +kernel
theorem dX12_kindOf_60 : decode cX12_kindOf 60 = .ok (.bipush (-2), 2) := by decide +kernel
theorem dX12_kindOf_62 : decode cX12_kindOf 62 = .ok (.ireturn, 1) := by decide +kernel
theorem dX12_lengthOf_0 : decode cX12_lengthOf 0 = .ok (.aload_n 0, 1) := by decide +kernel
theorem dX12_lengthOf_1 : decode cX12_lengthOf 1 = .ok (.iload_n 1, 1) := by decide +kernel
theorem dX12_lengthOf_2 : decode cX12_lengthOf 2 = .ok (.invokevirtual 146, 3) := by decide +kernel
theorem dX12_lengthOf_5 : decode cX12_lengthOf 5 = .ok (.istore_n 2, 1) := by decide +kernel
theorem dX12_lengthOf_6 : decode cX12_lengthOf 6 = .ok (.iload_n 2, 1) := by decide +kernel
theorem dX12_lengthOf_7 : decode cX12_lengthOf 7 = .ok (.ifCond .lt 12, 3) := by decide +kernel
theorem dX12_lengthOf_10 : decode cX12_lengthOf 10 = .ok (.aload_n 0, 1) := by decide +kernel
theorem dX12_lengthOf_11 : decode cX12_lengthOf 11 = .ok (.getfield 29, 3) := by decide +kernel
theorem dX12_lengthOf_14 : decode cX12_lengthOf 14 = .ok (.iload_n 2, 1) := by decide +kernel
theorem dX12_lengthOf_15 : decode cX12_lengthOf 15 = .ok (.iaload, 1) := by decide +kernel
theorem dX12_lengthOf_16 : decode cX12_lengthOf 16 = .ok (.goto 17, 3) := by decide +kernel
theorem dX12_lengthOf_19 : decode cX12_lengthOf 19 = .ok (.aload_n 0, 1) := by decide +kernel
theorem dX12_lengthOf_20 : decode cX12_lengthOf 20 = .ok (.getfield 7, 3) := by decide +kernel
theorem dX12_lengthOf_23 : decode cX12_lengthOf 23 = .ok (.iload_n 1, 1) := by decide +kernel
theorem dX12_lengthOf_24 : decode cX12_lengthOf 24 = .ok (.iaload, 1) := by decide +kernel
theorem dX12_lengthOf_25 : decode cX12_lengthOf 25 = .ok (.ifCond .ne 7, 3) := by decide +kernel
theorem dX12_lengthOf_28 : decode cX12_lengthOf 28 = .ok (.iconst 0, 1) := by decide +kernel
theorem dX12_lengthOf_29 : decode cX12_lengthOf 29 = .ok (.goto 4, 3) := by decide +kernel
theorem dX12_lengthOf_32 : decode cX12_lengthOf 32 = .ok (.iconst 1, 1) := by decide +kernel
theorem dX12_lengthOf_33 : decode cX12_lengthOf 33 = .ok (.ireturn, 1) := by decide +kernel
theorem dX12_fills_0 : decode cX12_fills 0 = .ok (.aload_n 0, 1) := by decide +kernel
theorem dX12_fills_1 : decode cX12_fills 1 = .ok (.iload_n 1, 1) := by decide +kernel
theorem dX12_fills_2 : decode cX12_fills 2 = .ok (.invokevirtual 146, 3) := by decide +kernel
theorem dX12_fills_5 : decode cX12_fills 5 = .ok (.istore_n 2, 1) := by decide +kernel
theorem dX12_fills_6 : decode cX12_fills 6 = .ok (.iload_n 2, 1) := by decide +kernel
theorem dX12_fills_7 : decode cX12_fills 7 = .ok (.ifCond .ge 7, 3) := by decide +kernel
theorem dX12_fills_10 : decode cX12_fills 10 = .ok (.iconst 0, 1) := by decide +kernel
theorem dX12_fills_11 : decode cX12_fills 11 = .ok (.goto 22, 3) := by decide +kernel
theorem dX12_fills_14 : decode cX12_fills 14 = .ok (.aload_n 0, 1) := by decide +kernel
theorem dX12_fills_15 : decode cX12_fills 15 = .ok (.getfield 32, 3) := by decide +kernel
theorem dX12_fills_18 : decode cX12_fills 18 = .ok (.iload_n 2, 1) := by decide +kernel
theorem dX12_fills_19 : decode cX12_fills 19 = .ok (.baload, 1) := by decide +kernel
theorem dX12_fills_20 : decode cX12_fills 20 = .ok (.ifCond .eq 7, 3) := by decide +kernel
theorem dX12_fills_23 : decode cX12_fills 23 = .ok (.iconst 1, 1) := by decide +kernel
theorem dX12_fills_24 : decode cX12_fills 24 = .ok (.goto 9, 3) := by decide +kernel
theorem dX12_fills_27 : decode cX12_fills 27 = .ok (.aload_n 0, 1) := by decide +kernel
theorem dX12_fills_28 : decode cX12_fills 28 = .ok (.getfield 29, 3) := by decide +kernel
theorem dX12_fills_31 : decode cX12_fills 31 = .ok (.iload_n 2, 1) := by decide +kernel
theorem dX12_fills_32 : decode cX12_fills 32 = .ok (.iaload, 1) := by decide +kernel
theorem dX12_fills_33 : decode cX12_fills 33 = .ok (.ireturn, 1) := by decide +kernel
theorem dX12_lesser_0 : decode cX12_lesser 0 = .ok (.lload_n 0, 1) := by decide +kernel
theorem dX12_lesser_1 : decode cX12_lesser 1 = .ok (.lload_n 2, 1) := by decide +kernel
theorem dX12_lesser_2 : decode cX12_lesser 2 = .ok (.lcmp, 1) := by decide +kernel
theorem dX12_lesser_3 : decode cX12_lesser 3 = .ok (.ifCond .ge 7, 3) := by decide +kernel
theorem dX12_lesser_6 : decode cX12_lesser 6 = .ok (.lload_n 0, 1) := by decide +kernel
theorem dX12_lesser_7 : decode cX12_lesser 7 = .ok (.goto 4, 3) := by decide +kernel
theorem dX12_lesser_10 : decode cX12_lesser 10 = .ok (.lload_n 2, 1) := by decide +kernel
theorem dX12_lesser_11 : decode cX12_lesser 11 = .ok (.lreturn, 1) := by decide +kernel
theorem dX12_greater_0 : decode cX12_greater 0 = .ok (.lload_n 0, 1) := by decide +kernel
theorem dX12_greater_1 : decode cX12_greater 1 = .ok (.lload_n 2, 1) := by decide +kernel
theorem dX12_greater_2 : decode cX12_greater 2 = .ok (.lcmp, 1) := by decide +kernel
theorem dX12_greater_3 : decode cX12_greater 3 = .ok (.ifCond .le 7, 3) := by decide +kernel
theorem dX12_greater_6 : decode cX12_greater 6 = .ok (.lload_n 0, 1) := by decide +kernel
theorem dX12_greater_7 : decode cX12_greater 7 = .ok (.goto 4, 3) := by decide +kernel
theorem dX12_greater_10 : decode cX12_greater 10 = .ok (.lload_n 2, 1) := by decide +kernel
theorem dX12_greater_11 : decode cX12_greater 11 = .ok (.lreturn, 1) := by decide +kernel
theorem dX12_spanOf_0 : decode cX12_spanOf 0 = .ok (.aload_n 0, 1) := by decide +kernel
theorem dX12_spanOf_1 : decode cX12_spanOf 1 = .ok (.getfield 16, 3) := by decide +kernel
theorem dX12_spanOf_4 : decode cX12_spanOf 4 = .ok (.iconst 3, 1) := by decide +kernel
theorem dX12_spanOf_5 : decode cX12_spanOf 5 = .ok (.iload_n 1, 1) := by decide +kernel
theorem dX12_spanOf_6 : decode cX12_spanOf 6 = .ok (.imul, 1) := by decide +kernel
theorem dX12_spanOf_7 : decode cX12_spanOf 7 = .ok (.iaload, 1) := by decide +kernel
theorem dX12_spanOf_8 : decode cX12_spanOf 8 = .ok (.istore 4, 2) := by decide +kernel
theorem dX12_spanOf_10 : decode cX12_spanOf 10 = .ok (.aload_n 0, 1) := by decide +kernel
theorem dX12_spanOf_11 : decode cX12_spanOf 11 = .ok (.getfield 16, 3) := by decide +kernel
theorem dX12_spanOf_14 : decode cX12_spanOf 14 = .ok (.iconst 3, 1) := by decide +kernel
theorem dX12_spanOf_15 : decode cX12_spanOf 15 = .ok (.iload_n 1, 1) := by decide +kernel
theorem dX12_spanOf_16 : decode cX12_spanOf 16 = .ok (.imul, 1) := by decide +kernel
theorem dX12_spanOf_17 : decode cX12_spanOf 17 = .ok (.iconst 1, 1) := by decide +kernel
theorem dX12_spanOf_18 : decode cX12_spanOf 18 = .ok (.iadd, 1) := by decide +kernel
theorem dX12_spanOf_19 : decode cX12_spanOf 19 = .ok (.iaload, 1) := by decide +kernel
theorem dX12_spanOf_20 : decode cX12_spanOf 20 = .ok (.istore 5, 2) := by decide +kernel
theorem dX12_spanOf_22 : decode cX12_spanOf 22 = .ok (.aload_n 0, 1) := by decide +kernel
theorem dX12_spanOf_23 : decode cX12_spanOf 23 = .ok (.getfield 16, 3) := by decide +kernel
theorem dX12_spanOf_26 : decode cX12_spanOf 26 = .ok (.iconst 3, 1) := by decide +kernel
theorem dX12_spanOf_27 : decode cX12_spanOf 27 = .ok (.iload_n 1, 1) := by decide +kernel
theorem dX12_spanOf_28 : decode cX12_spanOf 28 = .ok (.imul, 1) := by decide +kernel
theorem dX12_spanOf_29 : decode cX12_spanOf 29 = .ok (.iconst 2, 1) := by decide +kernel
theorem dX12_spanOf_30 : decode cX12_spanOf 30 = .ok (.iadd, 1) := by decide +kernel
theorem dX12_spanOf_31 : decode cX12_spanOf 31 = .ok (.iaload, 1) := by decide +kernel
theorem dX12_spanOf_32 : decode cX12_spanOf 32 = .ok (.istore 6, 2) := by decide +kernel
theorem dX12_spanOf_34 : decode cX12_spanOf 34 = .ok (.aload_n 0, 1) := by decide +kernel
theorem dX12_spanOf_35 : decode cX12_spanOf 35 = .ok (.getfield 7, 3) := by decide +kernel
theorem dX12_spanOf_38 : decode cX12_spanOf 38 = .ok (.iload_n 1, 1) := by decide +kernel
theorem dX12_spanOf_39 : decode cX12_spanOf 39 = .ok (.iaload, 1) := by decide +kernel
theorem dX12_spanOf_40 : decode cX12_spanOf 40 = .ok (.tableswitch 607 0 10 #[60, 607, 83, 124, 165, 278, 333, 390, 607, 557, 582], 60) := by decide +kernel
theorem dX12_spanOf_100 : decode cX12_spanOf 100 = .ok (.aload_n 0, 1) := by decide +kernel
theorem dX12_spanOf_101 : decode cX12_spanOf 101 = .ok (.aload_n 0, 1) := by decide +kernel
theorem dX12_spanOf_102 : decode cX12_spanOf 102 = .ok (.getfield 22, 3) := by decide +kernel
theorem dX12_spanOf_105 : decode cX12_spanOf 105 = .ok (.iload_n 1, 1) := by decide +kernel
theorem dX12_spanOf_106 : decode cX12_spanOf 106 = .ok (.laload, 1) := by decide +kernel
theorem dX12_spanOf_107 : decode cX12_spanOf 107 = .ok (.putfield 150, 3) := by decide +kernel
theorem dX12_spanOf_110 : decode cX12_spanOf 110 = .ok (.aload_n 0, 1) := by decide +kernel
theorem dX12_spanOf_111 : decode cX12_spanOf 111 = .ok (.aload_n 0, 1) := by decide +kernel
theorem dX12_spanOf_112 : decode cX12_spanOf 112 = .ok (.getfield 22, 3) := by decide +kernel
theorem dX12_spanOf_115 : decode cX12_spanOf 115 = .ok (.iload_n 1, 1) := by decide +kernel
theorem dX12_spanOf_116 : decode cX12_spanOf 116 = .ok (.laload, 1) := by decide +kernel
theorem dX12_spanOf_117 : decode cX12_spanOf 117 = .ok (.putfield 154, 3) := by decide +kernel
theorem dX12_spanOf_120 : decode cX12_spanOf 120 = .ok (.goto 540, 3) := by decide +kernel
theorem dX12_spanOf_123 : decode cX12_spanOf 123 = .ok (.aload_n 0, 1) := by decide +kernel
theorem dX12_spanOf_124 : decode cX12_spanOf 124 = .ok (.aload_n 0, 1) := by decide +kernel
theorem dX12_spanOf_125 : decode cX12_spanOf 125 = .ok (.getfield 63, 3) := by decide +kernel
theorem dX12_spanOf_128 : decode cX12_spanOf 128 = .ok (.iload 4, 2) := by decide +kernel
theorem dX12_spanOf_130 : decode cX12_spanOf 130 = .ok (.laload, 1) := by decide +kernel
theorem dX12_spanOf_131 : decode cX12_spanOf 131 = .ok (.aload_n 0, 1) := by decide +kernel
theorem dX12_spanOf_132 : decode cX12_spanOf 132 = .ok (.getfield 63, 3) := by decide +kernel
theorem dX12_spanOf_135 : decode cX12_spanOf 135 = .ok (.iload 5, 2) := by decide +kernel
theorem dX12_spanOf_137 : decode cX12_spanOf 137 = .ok (.laload, 1) := by decide +kernel
theorem dX12_spanOf_138 : decode cX12_spanOf 138 = .ok (.ladd, 1) := by decide +kernel
theorem dX12_spanOf_139 : decode cX12_spanOf 139 = .ok (.putfield 150, 3) := by decide +kernel
theorem dX12_spanOf_142 : decode cX12_spanOf 142 = .ok (.aload_n 0, 1) := by decide +kernel
theorem dX12_spanOf_143 : decode cX12_spanOf 143 = .ok (.aload_n 0, 1) := by decide +kernel
theorem dX12_spanOf_144 : decode cX12_spanOf 144 = .ok (.getfield 66, 3) := by decide +kernel
theorem dX12_spanOf_147 : decode cX12_spanOf 147 = .ok (.iload 4, 2) := by decide +kernel
theorem dX12_spanOf_149 : decode cX12_spanOf 149 = .ok (.laload, 1) := by decide +kernel
theorem dX12_spanOf_150 : decode cX12_spanOf 150 = .ok (.aload_n 0, 1) := by decide +kernel
theorem dX12_spanOf_151 : decode cX12_spanOf 151 = .ok (.getfield 66, 3) := by decide +kernel
theorem dX12_spanOf_154 : decode cX12_spanOf 154 = .ok (.iload 5, 2) := by decide +kernel
theorem dX12_spanOf_156 : decode cX12_spanOf 156 = .ok (.laload, 1) := by decide +kernel
theorem dX12_spanOf_157 : decode cX12_spanOf 157 = .ok (.ladd, 1) := by decide +kernel
theorem dX12_spanOf_158 : decode cX12_spanOf 158 = .ok (.putfield 154, 3) := by decide +kernel
theorem dX12_spanOf_161 : decode cX12_spanOf 161 = .ok (.goto 499, 3) := by decide +kernel
theorem dX12_spanOf_164 : decode cX12_spanOf 164 = .ok (.aload_n 0, 1) := by decide +kernel
theorem dX12_spanOf_165 : decode cX12_spanOf 165 = .ok (.aload_n 0, 1) := by decide +kernel
theorem dX12_spanOf_166 : decode cX12_spanOf 166 = .ok (.getfield 63, 3) := by decide +kernel
theorem dX12_spanOf_169 : decode cX12_spanOf 169 = .ok (.iload 4, 2) := by decide +kernel
theorem dX12_spanOf_171 : decode cX12_spanOf 171 = .ok (.laload, 1) := by decide +kernel
theorem dX12_spanOf_172 : decode cX12_spanOf 172 = .ok (.aload_n 0, 1) := by decide +kernel
theorem dX12_spanOf_173 : decode cX12_spanOf 173 = .ok (.getfield 66, 3) := by decide +kernel
theorem dX12_spanOf_176 : decode cX12_spanOf 176 = .ok (.iload 5, 2) := by decide +kernel
theorem dX12_spanOf_178 : decode cX12_spanOf 178 = .ok (.laload, 1) := by decide +kernel
theorem dX12_spanOf_179 : decode cX12_spanOf 179 = .ok (.lsub, 1) := by decide +kernel
theorem dX12_spanOf_180 : decode cX12_spanOf 180 = .ok (.putfield 150, 3) := by decide +kernel
theorem dX12_spanOf_183 : decode cX12_spanOf 183 = .ok (.aload_n 0, 1) := by decide +kernel
theorem dX12_spanOf_184 : decode cX12_spanOf 184 = .ok (.aload_n 0, 1) := by decide +kernel
theorem dX12_spanOf_185 : decode cX12_spanOf 185 = .ok (.getfield 66, 3) := by decide +kernel
theorem dX12_spanOf_188 : decode cX12_spanOf 188 = .ok (.iload 4, 2) := by decide +kernel
theorem dX12_spanOf_190 : decode cX12_spanOf 190 = .ok (.laload, 1) := by decide +kernel
theorem dX12_spanOf_191 : decode cX12_spanOf 191 = .ok (.aload_n 0, 1) := by decide +kernel
theorem dX12_spanOf_192 : decode cX12_spanOf 192 = .ok (.getfield 63, 3) := by decide +kernel
theorem dX12_spanOf_195 : decode cX12_spanOf 195 = .ok (.iload 5, 2) := by decide +kernel
theorem dX12_spanOf_197 : decode cX12_spanOf 197 = .ok (.laload, 1) := by decide +kernel
theorem dX12_spanOf_198 : decode cX12_spanOf 198 = .ok (.lsub, 1) := by decide +kernel
theorem dX12_spanOf_199 : decode cX12_spanOf 199 = .ok (.putfield 154, 3) := by decide +kernel
theorem dX12_spanOf_202 : decode cX12_spanOf 202 = .ok (.goto 458, 3) := by decide +kernel
theorem dX12_spanOf_205 : decode cX12_spanOf 205 = .ok (.aload_n 0, 1) := by decide +kernel
theorem dX12_spanOf_206 : decode cX12_spanOf 206 = .ok (.getfield 63, 3) := by decide +kernel
theorem dX12_spanOf_209 : decode cX12_spanOf 209 = .ok (.iload 4, 2) := by decide +kernel
theorem dX12_spanOf_211 : decode cX12_spanOf 211 = .ok (.laload, 1) := by decide +kernel
theorem dX12_spanOf_212 : decode cX12_spanOf 212 = .ok (.aload_n 0, 1) := by decide +kernel
theorem dX12_spanOf_213 : decode cX12_spanOf 213 = .ok (.getfield 63, 3) := by decide +kernel
theorem dX12_spanOf_216 : decode cX12_spanOf 216 = .ok (.iload 5, 2) := by decide +kernel
theorem dX12_spanOf_218 : decode cX12_spanOf 218 = .ok (.laload, 1) := by decide +kernel
theorem dX12_spanOf_219 : decode cX12_spanOf 219 = .ok (.lmul, 1) := by decide +kernel
theorem dX12_spanOf_220 : decode cX12_spanOf 220 = .ok (.lstore 7, 2) := by decide +kernel
theorem dX12_spanOf_222 : decode cX12_spanOf 222 = .ok (.aload_n 0, 1) := by decide +kernel
theorem dX12_spanOf_223 : decode cX12_spanOf 223 = .ok (.getfield 63, 3) := by decide +kernel
theorem dX12_spanOf_226 : decode cX12_spanOf 226 = .ok (.iload 4, 2) := by decide +kernel
theorem dX12_spanOf_228 : decode cX12_spanOf 228 = .ok (.laload, 1) := by decide +kernel
theorem dX12_spanOf_229 : decode cX12_spanOf 229 = .ok (.aload_n 0, 1) := by decide +kernel
theorem dX12_spanOf_230 : decode cX12_spanOf 230 = .ok (.getfield 66, 3) := by decide +kernel
theorem dX12_spanOf_233 : decode cX12_spanOf 233 = .ok (.iload 5, 2) := by decide +kernel
theorem dX12_spanOf_235 : decode cX12_spanOf 235 = .ok (.laload, 1) := by decide +kernel
theorem dX12_spanOf_236 : decode cX12_spanOf 236 = .ok (.lmul, 1) := by decide +kernel
theorem dX12_spanOf_237 : decode cX12_spanOf 237 = .ok (.lstore 9, 2) := by decide +kernel
theorem dX12_spanOf_239 : decode cX12_spanOf 239 = .ok (.aload_n 0, 1) := by decide +kernel
theorem dX12_spanOf_240 : decode cX12_spanOf 240 = .ok (.getfield 66, 3) := by decide +kernel
theorem dX12_spanOf_243 : decode cX12_spanOf 243 = .ok (.iload 4, 2) := by decide +kernel
theorem dX12_spanOf_245 : decode cX12_spanOf 245 = .ok (.laload, 1) := by decide +kernel
theorem dX12_spanOf_246 : decode cX12_spanOf 246 = .ok (.aload_n 0, 1) := by decide +kernel
theorem dX12_spanOf_247 : decode cX12_spanOf 247 = .ok (.getfield 63, 3) := by decide +kernel
theorem dX12_spanOf_250 : decode cX12_spanOf 250 = .ok (.iload 5, 2) := by decide +kernel
theorem dX12_spanOf_252 : decode cX12_spanOf 252 = .ok (.laload, 1) := by decide +kernel
theorem dX12_spanOf_253 : decode cX12_spanOf 253 = .ok (.lmul, 1) := by decide +kernel
theorem dX12_spanOf_254 : decode cX12_spanOf 254 = .ok (.lstore 11, 2) := by decide +kernel
theorem dX12_spanOf_256 : decode cX12_spanOf 256 = .ok (.aload_n 0, 1) := by decide +kernel
theorem dX12_spanOf_257 : decode cX12_spanOf 257 = .ok (.getfield 66, 3) := by decide +kernel
theorem dX12_spanOf_260 : decode cX12_spanOf 260 = .ok (.iload 4, 2) := by decide +kernel
theorem dX12_spanOf_262 : decode cX12_spanOf 262 = .ok (.laload, 1) := by decide +kernel
theorem dX12_spanOf_263 : decode cX12_spanOf 263 = .ok (.aload_n 0, 1) := by decide +kernel
theorem dX12_spanOf_264 : decode cX12_spanOf 264 = .ok (.getfield 66, 3) := by decide +kernel
theorem dX12_spanOf_267 : decode cX12_spanOf 267 = .ok (.iload 5, 2) := by decide +kernel
theorem dX12_spanOf_269 : decode cX12_spanOf 269 = .ok (.laload, 1) := by decide +kernel
theorem dX12_spanOf_270 : decode cX12_spanOf 270 = .ok (.lmul, 1) := by decide +kernel
theorem dX12_spanOf_271 : decode cX12_spanOf 271 = .ok (.lstore 13, 2) := by decide +kernel
theorem dX12_spanOf_273 : decode cX12_spanOf 273 = .ok (.aload_n 0, 1) := by decide +kernel
theorem dX12_spanOf_274 : decode cX12_spanOf 274 = .ok (.lload 7, 2) := by decide +kernel
theorem dX12_spanOf_276 : decode cX12_spanOf 276 = .ok (.lload 9, 2) := by decide +kernel
theorem dX12_spanOf_278 : decode cX12_spanOf 278 = .ok (.invokestatic 157, 3) := by decide +kernel
theorem dX12_spanOf_281 : decode cX12_spanOf 281 = .ok (.lload 11, 2) := by decide +kernel
theorem dX12_spanOf_283 : decode cX12_spanOf 283 = .ok (.lload 13, 2) := by decide +kernel
theorem dX12_spanOf_285 : decode cX12_spanOf 285 = .ok (.invokestatic 157, 3) := by decide +kernel
theorem dX12_spanOf_288 : decode cX12_spanOf 288 = .ok (.invokestatic 157, 3) := by decide +kernel
theorem dX12_spanOf_291 : decode cX12_spanOf 291 = .ok (.putfield 150, 3) := by decide +kernel
theorem dX12_spanOf_294 : decode cX12_spanOf 294 = .ok (.aload_n 0, 1) := by decide +kernel
theorem dX12_spanOf_295 : decode cX12_spanOf 295 = .ok (.lload 7, 2) := by decide +kernel
theorem dX12_spanOf_297 : decode cX12_spanOf 297 = .ok (.lload 9, 2) := by decide +kernel
theorem dX12_spanOf_299 : decode cX12_spanOf 299 = .ok (.invokestatic 161, 3) := by decide +kernel
theorem dX12_spanOf_302 : decode cX12_spanOf 302 = .ok (.lload 11, 2) := by decide +kernel
theorem dX12_spanOf_304 : decode cX12_spanOf 304 = .ok (.lload 13, 2) := by decide +kernel
theorem dX12_spanOf_306 : decode cX12_spanOf 306 = .ok (.invokestatic 161, 3) := by decide +kernel
theorem dX12_spanOf_309 : decode cX12_spanOf 309 = .ok (.invokestatic 161, 3) := by decide +kernel
theorem dX12_spanOf_312 : decode cX12_spanOf 312 = .ok (.putfield 154, 3) := by decide +kernel
theorem dX12_spanOf_315 : decode cX12_spanOf 315 = .ok (.goto 345, 3) := by decide +kernel
theorem dX12_spanOf_318 : decode cX12_spanOf 318 = .ok (.aload_n 0, 1) := by decide +kernel
theorem dX12_spanOf_319 : decode cX12_spanOf 319 = .ok (.aload_n 0, 1) := by decide +kernel
theorem dX12_spanOf_320 : decode cX12_spanOf 320 = .ok (.getfield 63, 3) := by decide +kernel
theorem dX12_spanOf_323 : decode cX12_spanOf 323 = .ok (.iload 4, 2) := by decide +kernel
theorem dX12_spanOf_325 : decode cX12_spanOf 325 = .ok (.laload, 1) := by decide +kernel
theorem dX12_spanOf_326 : decode cX12_spanOf 326 = .ok (.aload_n 0, 1) := by decide +kernel
theorem dX12_spanOf_327 : decode cX12_spanOf 327 = .ok (.getfield 63, 3) := by decide +kernel
theorem dX12_spanOf_330 : decode cX12_spanOf 330 = .ok (.iload 4, 2) := by decide +kernel
theorem dX12_spanOf_332 : decode cX12_spanOf 332 = .ok (.laload, 1) := by decide +kernel
theorem dX12_spanOf_333 : decode cX12_spanOf 333 = .ok (.lneg, 1) := by decide +kernel
theorem dX12_spanOf_334 : decode cX12_spanOf 334 = .ok (.invokestatic 161, 3) := by decide +kernel
theorem dX12_spanOf_337 : decode cX12_spanOf 337 = .ok (.aload_n 0, 1) := by decide +kernel
theorem dX12_spanOf_338 : decode cX12_spanOf 338 = .ok (.getfield 66, 3) := by decide +kernel
theorem dX12_spanOf_341 : decode cX12_spanOf 341 = .ok (.iload 4, 2) := by decide +kernel
theorem dX12_spanOf_343 : decode cX12_spanOf 343 = .ok (.laload, 1) := by decide +kernel
theorem dX12_spanOf_344 : decode cX12_spanOf 344 = .ok (.aload_n 0, 1) := by decide +kernel
theorem dX12_spanOf_345 : decode cX12_spanOf 345 = .ok (.getfield 66, 3) := by decide +kernel
theorem dX12_spanOf_348 : decode cX12_spanOf 348 = .ok (.iload 4, 2) := by decide +kernel
theorem dX12_spanOf_350 : decode cX12_spanOf 350 = .ok (.laload, 1) := by decide +kernel
theorem dX12_spanOf_351 : decode cX12_spanOf 351 = .ok (.lneg, 1) := by decide +kernel
theorem dX12_spanOf_352 : decode cX12_spanOf 352 = .ok (.invokestatic 161, 3) := by decide +kernel
theorem dX12_spanOf_355 : decode cX12_spanOf 355 = .ok (.invokestatic 161, 3) := by decide +kernel
theorem dX12_spanOf_358 : decode cX12_spanOf 358 = .ok (.putfield 154, 3) := by decide +kernel
theorem dX12_spanOf_361 : decode cX12_spanOf 361 = .ok (.aload_n 0, 1) := by decide +kernel
theorem dX12_spanOf_362 : decode cX12_spanOf 362 = .ok (.aload_n 0, 1) := by decide +kernel
theorem dX12_spanOf_363 : decode cX12_spanOf 363 = .ok (.getfield 154, 3) := by decide +kernel
theorem dX12_spanOf_366 : decode cX12_spanOf 366 = .ok (.lneg, 1) := by decide +kernel
theorem dX12_spanOf_367 : decode cX12_spanOf 367 = .ok (.putfield 150, 3) := by decide +kernel
theorem dX12_spanOf_370 : decode cX12_spanOf 370 = .ok (.goto 290, 3) := by decide +kernel
theorem dX12_spanOf_373 : decode cX12_spanOf 373 = .ok (.aload_n 0, 1) := by decide +kernel
theorem dX12_spanOf_374 : decode cX12_spanOf 374 = .ok (.aload_n 0, 1) := by decide +kernel
theorem dX12_spanOf_375 : decode cX12_spanOf 375 = .ok (.getfield 66, 3) := by decide +kernel
theorem dX12_spanOf_378 : decode cX12_spanOf 378 = .ok (.iload 4, 2) := by decide +kernel
theorem dX12_spanOf_380 : decode cX12_spanOf 380 = .ok (.laload, 1) := by decide +kernel
theorem dX12_spanOf_381 : decode cX12_spanOf 381 = .ok (.aload_n 0, 1) := by decide +kernel
theorem dX12_spanOf_382 : decode cX12_spanOf 382 = .ok (.getfield 63, 3) := by decide +kernel
theorem dX12_spanOf_385 : decode cX12_spanOf 385 = .ok (.iload 5, 2) := by decide +kernel
theorem dX12_spanOf_387 : decode cX12_spanOf 387 = .ok (.laload, 1) := by decide +kernel
theorem dX12_spanOf_388 : decode cX12_spanOf 388 = .ok (.lcmp, 1) := by decide +kernel
theorem dX12_spanOf_389 : decode cX12_spanOf 389 = .ok (.ifCond .ge 7, 3) := by decide +kernel
theorem dX12_spanOf_392 : decode cX12_spanOf 392 = .ok (.lconst 1, 1) := by decide +kernel
theorem dX12_spanOf_393 : decode cX12_spanOf 393 = .ok (.goto 4, 3) := by decide +kernel
theorem dX12_spanOf_396 : decode cX12_spanOf 396 = .ok (.lconst 0, 1) := by decide +kernel
theorem dX12_spanOf_397 : decode cX12_spanOf 397 = .ok (.putfield 150, 3) := by decide +kernel
theorem dX12_spanOf_400 : decode cX12_spanOf 400 = .ok (.aload_n 0, 1) := by decide +kernel
theorem dX12_spanOf_401 : decode cX12_spanOf 401 = .ok (.aload_n 0, 1) := by decide +kernel
theorem dX12_spanOf_402 : decode cX12_spanOf 402 = .ok (.getfield 63, 3) := by decide +kernel
theorem dX12_spanOf_405 : decode cX12_spanOf 405 = .ok (.iload 4, 2) := by decide +kernel
theorem dX12_spanOf_407 : decode cX12_spanOf 407 = .ok (.laload, 1) := by decide +kernel
theorem dX12_spanOf_408 : decode cX12_spanOf 408 = .ok (.aload_n 0, 1) := by decide +kernel
theorem dX12_spanOf_409 : decode cX12_spanOf 409 = .ok (.getfield 66, 3) := by decide +kernel
theorem dX12_spanOf_412 : decode cX12_spanOf 412 = .ok (.iload 5, 2) := by decide +kernel
theorem dX12_spanOf_414 : decode cX12_spanOf 414 = .ok (.laload, 1) := by decide +kernel
theorem dX12_spanOf_415 : decode cX12_spanOf 415 = .ok (.lcmp, 1) := by decide +kernel
theorem dX12_spanOf_416 : decode cX12_spanOf 416 = .ok (.ifCond .lt 7, 3) := by decide +kernel
theorem dX12_spanOf_419 : decode cX12_spanOf 419 = .ok (.lconst 0, 1) := by decide +kernel
theorem dX12_spanOf_420 : decode cX12_spanOf 420 = .ok (.goto 4, 3) := by decide +kernel
theorem dX12_spanOf_423 : decode cX12_spanOf 423 = .ok (.lconst 1, 1) := by decide +kernel
theorem dX12_spanOf_424 : decode cX12_spanOf 424 = .ok (.putfield 154, 3) := by decide +kernel
theorem dX12_spanOf_427 : decode cX12_spanOf 427 = .ok (.goto 233, 3) := by decide +kernel
theorem dX12_spanOf_430 : decode cX12_spanOf 430 = .ok (.aload_n 0, 1) := by decide +kernel
theorem dX12_spanOf_431 : decode cX12_spanOf 431 = .ok (.getfield 63, 3) := by decide +kernel
theorem dX12_spanOf_434 : decode cX12_spanOf 434 = .ok (.iload 4, 2) := by decide +kernel
theorem dX12_spanOf_436 : decode cX12_spanOf 436 = .ok (.laload, 1) := by decide +kernel
theorem dX12_spanOf_437 : decode cX12_spanOf 437 = .ok (.lconst 0, 1) := by decide +kernel
theorem dX12_spanOf_438 : decode cX12_spanOf 438 = .ok (.lcmp, 1) := by decide +kernel
theorem dX12_spanOf_439 : decode cX12_spanOf 439 = .ok (.ifCond .ne 19, 3) := by decide +kernel
theorem dX12_spanOf_442 : decode cX12_spanOf 442 = .ok (.aload_n 0, 1) := by decide +kernel
theorem dX12_spanOf_443 : decode cX12_spanOf 443 = .ok (.getfield 66, 3) := by decide +kernel
theorem dX12_spanOf_446 : decode cX12_spanOf 446 = .ok (.iload 4, 2) := by decide +kernel
end
section
theorem dX12_spanOf_448 : decode cX12_spanOf 448 = .ok (.laload, 1) := by decide +kernel
theorem dX12_spanOf_449 : decode cX12_spanOf 449 = .ok (.lconst 0, 1) := by decide +kernel
theorem dX12_spanOf_450 : decode cX12_spanOf 450 = .ok (.lcmp, 1) := by decide +kernel
theorem dX12_spanOf_451 : decode cX12_spanOf 451 = .ok (.ifCond .ne 7, 3) := by decide +kernel
theorem dX12_spanOf_454 : decode cX12_spanOf 454 = .ok (.iconst 1, 1) := by decide +kernel
theorem dX12_spanOf_455 : decode cX12_spanOf 455 = .ok (.goto 4, 3) := by decide +kernel
theorem dX12_spanOf_458 : decode cX12_spanOf 458 = .ok (.iconst 0, 1) := by decide +kernel
theorem dX12_spanOf_459 : decode cX12_spanOf 459 = .ok (.istore 7, 2) := by decide +kernel
theorem dX12_spanOf_461 : decode cX12_spanOf 461 = .ok (.aload_n 0, 1) := by decide +kernel
theorem dX12_spanOf_462 : decode cX12_spanOf 462 = .ok (.getfield 63, 3) := by decide +kernel
theorem dX12_spanOf_465 : decode cX12_spanOf 465 = .ok (.iload 4, 2) := by decide +kernel
theorem dX12_spanOf_467 : decode cX12_spanOf 467 = .ok (.laload, 1) := by decide +kernel
theorem dX12_spanOf_468 : decode cX12_spanOf 468 = .ok (.lconst 0, 1) := by decide +kernel
theorem dX12_spanOf_469 : decode cX12_spanOf 469 = .ok (.lcmp, 1) := by decide +kernel
theorem dX12_spanOf_470 : decode cX12_spanOf 470 = .ok (.ifCond .gt 15, 3) := by decide +kernel
theorem dX12_spanOf_473 : decode cX12_spanOf 473 = .ok (.aload_n 0, 1) := by decide +kernel
theorem dX12_spanOf_474 : decode cX12_spanOf 474 = .ok (.getfield 66, 3) := by decide +kernel
theorem dX12_spanOf_477 : decode cX12_spanOf 477 = .ok (.iload 4, 2) := by decide +kernel
theorem dX12_spanOf_479 : decode cX12_spanOf 479 = .ok (.laload, 1) := by decide +kernel
theorem dX12_spanOf_480 : decode cX12_spanOf 480 = .ok (.lconst 0, 1) := by decide +kernel
theorem dX12_spanOf_481 : decode cX12_spanOf 481 = .ok (.lcmp, 1) := by decide +kernel
theorem dX12_spanOf_482 : decode cX12_spanOf 482 = .ok (.ifCond .ge 7, 3) := by decide +kernel
theorem dX12_spanOf_485 : decode cX12_spanOf 485 = .ok (.iconst 1, 1) := by decide +kernel
theorem dX12_spanOf_486 : decode cX12_spanOf 486 = .ok (.goto 4, 3) := by decide +kernel
theorem dX12_spanOf_489 : decode cX12_spanOf 489 = .ok (.iconst 0, 1) := by decide +kernel
theorem dX12_spanOf_490 : decode cX12_spanOf 490 = .ok (.istore 8, 2) := by decide +kernel
theorem dX12_spanOf_492 : decode cX12_spanOf 492 = .ok (.aload_n 0, 1) := by decide +kernel
theorem dX12_spanOf_493 : decode cX12_spanOf 493 = .ok (.iload 7, 2) := by decide +kernel
theorem dX12_spanOf_495 : decode cX12_spanOf 495 = .ok (.ifCond .eq 13, 3) := by decide +kernel
theorem dX12_spanOf_498 : decode cX12_spanOf 498 = .ok (.aload_n 0, 1) := by decide +kernel
theorem dX12_spanOf_499 : decode cX12_spanOf 499 = .ok (.getfield 63, 3) := by decide +kernel
theorem dX12_spanOf_502 : decode cX12_spanOf 502 = .ok (.iload 6, 2) := by decide +kernel
theorem dX12_spanOf_504 : decode cX12_spanOf 504 = .ok (.laload, 1) := by decide +kernel
theorem dX12_spanOf_505 : decode cX12_spanOf 505 = .ok (.goto 35, 3) := by decide +kernel
theorem dX12_spanOf_508 : decode cX12_spanOf 508 = .ok (.iload 8, 2) := by decide +kernel
theorem dX12_spanOf_510 : decode cX12_spanOf 510 = .ok (.ifCond .eq 13, 3) := by decide +kernel
theorem dX12_spanOf_513 : decode cX12_spanOf 513 = .ok (.aload_n 0, 1) := by decide +kernel
theorem dX12_spanOf_514 : decode cX12_spanOf 514 = .ok (.getfield 63, 3) := by decide +kernel
theorem dX12_spanOf_517 : decode cX12_spanOf 517 = .ok (.iload 5, 2) := by decide +kernel
theorem dX12_spanOf_519 : decode cX12_spanOf 519 = .ok (.laload, 1) := by decide +kernel
theorem dX12_spanOf_520 : decode cX12_spanOf 520 = .ok (.goto 20, 3) := by decide +kernel
theorem dX12_spanOf_523 : decode cX12_spanOf 523 = .ok (.aload_n 0, 1) := by decide +kernel
theorem dX12_spanOf_524 : decode cX12_spanOf 524 = .ok (.getfield 63, 3) := by decide +kernel
theorem dX12_spanOf_527 : decode cX12_spanOf 527 = .ok (.iload 5, 2) := by decide +kernel
theorem dX12_spanOf_529 : decode cX12_spanOf 529 = .ok (.laload, 1) := by decide +kernel
theorem dX12_spanOf_530 : decode cX12_spanOf 530 = .ok (.aload_n 0, 1) := by decide +kernel
theorem dX12_spanOf_531 : decode cX12_spanOf 531 = .ok (.getfield 63, 3) := by decide +kernel
theorem dX12_spanOf_534 : decode cX12_spanOf 534 = .ok (.iload 6, 2) := by decide +kernel
theorem dX12_spanOf_536 : decode cX12_spanOf 536 = .ok (.laload, 1) := by decide +kernel
theorem dX12_spanOf_537 : decode cX12_spanOf 537 = .ok (.invokestatic 157, 3) := by decide +kernel
theorem dX12_spanOf_540 : decode cX12_spanOf 540 = .ok (.putfield 150, 3) := by decide +kernel
theorem dX12_spanOf_543 : decode cX12_spanOf 543 = .ok (.aload_n 0, 1) := by decide +kernel
theorem dX12_spanOf_544 : decode cX12_spanOf 544 = .ok (.iload 7, 2) := by decide +kernel
theorem dX12_spanOf_546 : decode cX12_spanOf 546 = .ok (.ifCond .eq 13, 3) := by decide +kernel
theorem dX12_spanOf_549 : decode cX12_spanOf 549 = .ok (.aload_n 0, 1) := by decide +kernel
theorem dX12_spanOf_550 : decode cX12_spanOf 550 = .ok (.getfield 66, 3) := by decide +kernel
theorem dX12_spanOf_553 : decode cX12_spanOf 553 = .ok (.iload 6, 2) := by decide +kernel
theorem dX12_spanOf_555 : decode cX12_spanOf 555 = .ok (.laload, 1) := by decide +kernel
theorem dX12_spanOf_556 : decode cX12_spanOf 556 = .ok (.goto 35, 3) := by decide +kernel
theorem dX12_spanOf_559 : decode cX12_spanOf 559 = .ok (.iload 8, 2) := by decide +kernel
theorem dX12_spanOf_561 : decode cX12_spanOf 561 = .ok (.ifCond .eq 13, 3) := by decide +kernel
theorem dX12_spanOf_564 : decode cX12_spanOf 564 = .ok (.aload_n 0, 1) := by decide +kernel
theorem dX12_spanOf_565 : decode cX12_spanOf 565 = .ok (.getfield 66, 3) := by decide +kernel
theorem dX12_spanOf_568 : decode cX12_spanOf 568 = .ok (.iload 5, 2) := by decide +kernel
theorem dX12_spanOf_570 : decode cX12_spanOf 570 = .ok (.laload, 1) := by decide +kernel
theorem dX12_spanOf_571 : decode cX12_spanOf 571 = .ok (.goto 20, 3) := by decide +kernel
theorem dX12_spanOf_574 : decode cX12_spanOf 574 = .ok (.aload_n 0, 1) := by decide +kernel
theorem dX12_spanOf_575 : decode cX12_spanOf 575 = .ok (.getfield 66, 3) := by decide +kernel
theorem dX12_spanOf_578 : decode cX12_spanOf 578 = .ok (.iload 5, 2) := by decide +kernel
theorem dX12_spanOf_580 : decode cX12_spanOf 580 = .ok (.laload, 1) := by decide +kernel
theorem dX12_spanOf_581 : decode cX12_spanOf 581 = .ok (.aload_n 0, 1) := by decide +kernel
theorem dX12_spanOf_582 : decode cX12_spanOf 582 = .ok (.getfield 66, 3) := by decide +kernel
theorem dX12_spanOf_585 : decode cX12_spanOf 585 = .ok (.iload 6, 2) := by decide +kernel
theorem dX12_spanOf_587 : decode cX12_spanOf 587 = .ok (.laload, 1) := by decide +kernel
theorem dX12_spanOf_588 : decode cX12_spanOf 588 = .ok (.invokestatic 161, 3) := by decide +kernel
theorem dX12_spanOf_591 : decode cX12_spanOf 591 = .ok (.putfield 154, 3) := by decide +kernel
theorem dX12_spanOf_594 : decode cX12_spanOf 594 = .ok (.goto 66, 3) := by decide +kernel
theorem dX12_spanOf_597 : decode cX12_spanOf 597 = .ok (.aload_n 0, 1) := by decide +kernel
theorem dX12_spanOf_598 : decode cX12_spanOf 598 = .ok (.aload_n 0, 1) := by decide +kernel
theorem dX12_spanOf_599 : decode cX12_spanOf 599 = .ok (.getfield 63, 3) := by decide +kernel
theorem dX12_spanOf_602 : decode cX12_spanOf 602 = .ok (.iload 5, 2) := by decide +kernel
theorem dX12_spanOf_604 : decode cX12_spanOf 604 = .ok (.laload, 1) := by decide +kernel
theorem dX12_spanOf_605 : decode cX12_spanOf 605 = .ok (.putfield 150, 3) := by decide +kernel
theorem dX12_spanOf_608 : decode cX12_spanOf 608 = .ok (.aload_n 0, 1) := by decide +kernel
theorem dX12_spanOf_609 : decode cX12_spanOf 609 = .ok (.aload_n 0, 1) := by decide +kernel
theorem dX12_spanOf_610 : decode cX12_spanOf 610 = .ok (.getfield 66, 3) := by decide +kernel
theorem dX12_spanOf_613 : decode cX12_spanOf 613 = .ok (.iload 5, 2) := by decide +kernel
theorem dX12_spanOf_615 : decode cX12_spanOf 615 = .ok (.laload, 1) := by decide +kernel
theorem dX12_spanOf_616 : decode cX12_spanOf 616 = .ok (.putfield 154, 3) := by decide +kernel
theorem dX12_spanOf_619 : decode cX12_spanOf 619 = .ok (.goto 41, 3) := by decide +kernel
theorem dX12_spanOf_622 : decode cX12_spanOf 622 = .ok (.aload_n 0, 1) := by decide +kernel
theorem dX12_spanOf_623 : decode cX12_spanOf 623 = .ok (.aload_n 0, 1) := by decide +kernel
theorem dX12_spanOf_624 : decode cX12_spanOf 624 = .ok (.getfield 63, 3) := by decide +kernel
theorem dX12_spanOf_627 : decode cX12_spanOf 627 = .ok (.iload 4, 2) := by decide +kernel
theorem dX12_spanOf_629 : decode cX12_spanOf 629 = .ok (.laload, 1) := by decide +kernel
theorem dX12_spanOf_630 : decode cX12_spanOf 630 = .ok (.putfield 150, 3) := by decide +kernel
theorem dX12_spanOf_633 : decode cX12_spanOf 633 = .ok (.aload_n 0, 1) := by decide +kernel
theorem dX12_spanOf_634 : decode cX12_spanOf 634 = .ok (.aload_n 0, 1) := by decide +kernel
theorem dX12_spanOf_635 : decode cX12_spanOf 635 = .ok (.getfield 66, 3) := by decide +kernel
theorem dX12_spanOf_638 : decode cX12_spanOf 638 = .ok (.iload 4, 2) := by decide +kernel
theorem dX12_spanOf_640 : decode cX12_spanOf 640 = .ok (.laload, 1) := by decide +kernel
theorem dX12_spanOf_641 : decode cX12_spanOf 641 = .ok (.putfield 154, 3) := by decide +kernel
theorem dX12_spanOf_644 : decode cX12_spanOf 644 = .ok (.goto 16, 3) := by decide +kernel
theorem dX12_spanOf_647 : decode cX12_spanOf 647 = .ok (.aload_n 0, 1) := by decide +kernel
theorem dX12_spanOf_648 : decode cX12_spanOf 648 = .ok (.lload_n 2, 1) := by decide +kernel
theorem dX12_spanOf_649 : decode cX12_spanOf 649 = .ok (.lneg, 1) := by decide +kernel
theorem dX12_spanOf_650 : decode cX12_spanOf 650 = .ok (.putfield 150, 3) := by decide +kernel
theorem dX12_spanOf_653 : decode cX12_spanOf 653 = .ok (.aload_n 0, 1) := by decide +kernel
theorem dX12_spanOf_654 : decode cX12_spanOf 654 = .ok (.lload_n 2, 1) := by decide +kernel
theorem dX12_spanOf_655 : decode cX12_spanOf 655 = .ok (.lconst 1, 1) := by decide +kernel
theorem dX12_spanOf_656 : decode cX12_spanOf 656 = .ok (.lsub, 1) := by decide +kernel
theorem dX12_spanOf_657 : decode cX12_spanOf 657 = .ok (.putfield 154, 3) := by decide +kernel
theorem dX12_spanOf_660 : decode cX12_spanOf 660 = .ok (.return_, 1) := by decide +kernel
theorem dX12_findSpans_0 : decode cX12_findSpans 0 = .ok (.iconst 0, 1) := by decide +kernel
theorem dX12_findSpans_1 : decode cX12_findSpans 1 = .ok (.istore_n 1, 1) := by decide +kernel
theorem dX12_findSpans_2 : decode cX12_findSpans 2 = .ok (.iload_n 1, 1) := by decide +kernel
theorem dX12_findSpans_3 : decode cX12_findSpans 3 = .ok (.aload_n 0, 1) := by decide +kernel
theorem dX12_findSpans_4 : decode cX12_findSpans 4 = .ok (.getfield 103, 3) := by decide +kernel
theorem dX12_findSpans_7 : decode cX12_findSpans 7 = .ok (.if_icmp .ge 93, 3) := by decide +kernel
theorem dX12_findSpans_10 : decode cX12_findSpans 10 = .ok (.lconst 1, 1) := by decide +kernel
theorem dX12_findSpans_11 : decode cX12_findSpans 11 = .ok (.aload_n 0, 1) := by decide +kernel
theorem dX12_findSpans_12 : decode cX12_findSpans 12 = .ok (.getfield 13, 3) := by decide +kernel
theorem dX12_findSpans_15 : decode cX12_findSpans 15 = .ok (.iload_n 1, 1) := by decide +kernel
theorem dX12_findSpans_16 : decode cX12_findSpans 16 = .ok (.iaload, 1) := by decide +kernel
theorem dX12_findSpans_17 : decode cX12_findSpans 17 = .ok (.iconst 1, 1) := by decide +kernel
theorem dX12_findSpans_18 : decode cX12_findSpans 18 = .ok (.isub, 1) := by decide +kernel
theorem dX12_findSpans_19 : decode cX12_findSpans 19 = .ok (.lshl, 1) := by decide +kernel
theorem dX12_findSpans_20 : decode cX12_findSpans 20 = .ok (.lstore_n 2, 1) := by decide +kernel
theorem dX12_findSpans_21 : decode cX12_findSpans 21 = .ok (.aload_n 0, 1) := by decide +kernel
theorem dX12_findSpans_22 : decode cX12_findSpans 22 = .ok (.iload_n 1, 1) := by decide +kernel
theorem dX12_findSpans_23 : decode cX12_findSpans 23 = .ok (.lload_n 2, 1) := by decide +kernel
theorem dX12_findSpans_24 : decode cX12_findSpans 24 = .ok (.invokevirtual 164, 3) := by decide +kernel
theorem dX12_findSpans_27 : decode cX12_findSpans 27 = .ok (.aload_n 0, 1) := by decide +kernel
theorem dX12_findSpans_28 : decode cX12_findSpans 28 = .ok (.getfield 150, 3) := by decide +kernel
theorem dX12_findSpans_31 : decode cX12_findSpans 31 = .ok (.lload_n 2, 1) := by decide +kernel
theorem dX12_findSpans_32 : decode cX12_findSpans 32 = .ok (.lneg, 1) := by decide +kernel
theorem dX12_findSpans_33 : decode cX12_findSpans 33 = .ok (.lcmp, 1) := by decide +kernel
theorem dX12_findSpans_34 : decode cX12_findSpans 34 = .ok (.ifCond .lt 16, 3) := by decide +kernel
theorem dX12_findSpans_37 : decode cX12_findSpans 37 = .ok (.aload_n 0, 1) := by decide +kernel
theorem dX12_findSpans_38 : decode cX12_findSpans 38 = .ok (.getfield 154, 3) := by decide +kernel
theorem dX12_findSpans_41 : decode cX12_findSpans 41 = .ok (.lload_n 2, 1) := by decide +kernel
theorem dX12_findSpans_42 : decode cX12_findSpans 42 = .ok (.lcmp, 1) := by decide +kernel
theorem dX12_findSpans_43 : decode cX12_findSpans 43 = .ok (.ifCond .ge 7, 3) := by decide +kernel
theorem dX12_findSpans_46 : decode cX12_findSpans 46 = .ok (.iconst 1, 1) := by decide +kernel
theorem dX12_findSpans_47 : decode cX12_findSpans 47 = .ok (.goto 4, 3) := by decide +kernel
theorem dX12_findSpans_50 : decode cX12_findSpans 50 = .ok (.iconst 0, 1) := by decide +kernel
theorem dX12_findSpans_51 : decode cX12_findSpans 51 = .ok (.istore 4, 2) := by decide +kernel
theorem dX12_findSpans_53 : decode cX12_findSpans 53 = .ok (.aload_n 0, 1) := by decide +kernel
theorem dX12_findSpans_54 : decode cX12_findSpans 54 = .ok (.getfield 63, 3) := by decide +kernel
theorem dX12_findSpans_57 : decode cX12_findSpans 57 = .ok (.iload_n 1, 1) := by decide +kernel
theorem dX12_findSpans_58 : decode cX12_findSpans 58 = .ok (.iload 4, 2) := by decide +kernel
theorem dX12_findSpans_60 : decode cX12_findSpans 60 = .ok (.ifCond .eq 10, 3) := by decide +kernel
theorem dX12_findSpans_63 : decode cX12_findSpans 63 = .ok (.aload_n 0, 1) := by decide +kernel
theorem dX12_findSpans_64 : decode cX12_findSpans 64 = .ok (.getfield 150, 3) := by decide +kernel
theorem dX12_findSpans_67 : decode cX12_findSpans 67 = .ok (.goto 5, 3) := by decide +kernel
theorem dX12_findSpans_70 : decode cX12_findSpans 70 = .ok (.lload_n 2, 1) := by decide +kernel
theorem dX12_findSpans_71 : decode cX12_findSpans 71 = .ok (.lneg, 1) := by decide +kernel
theorem dX12_findSpans_72 : decode cX12_findSpans 72 = .ok (.lastore, 1) := by decide +kernel
theorem dX12_findSpans_73 : decode cX12_findSpans 73 = .ok (.aload_n 0, 1) := by decide +kernel
theorem dX12_findSpans_74 : decode cX12_findSpans 74 = .ok (.getfield 66, 3) := by decide +kernel
theorem dX12_findSpans_77 : decode cX12_findSpans 77 = .ok (.iload_n 1, 1) := by decide +kernel
theorem dX12_findSpans_78 : decode cX12_findSpans 78 = .ok (.iload 4, 2) := by decide +kernel
theorem dX12_findSpans_80 : decode cX12_findSpans 80 = .ok (.ifCond .eq 10, 3) := by decide +kernel
theorem dX12_findSpans_83 : decode cX12_findSpans 83 = .ok (.aload_n 0, 1) := by decide +kernel
theorem dX12_findSpans_84 : decode cX12_findSpans 84 = .ok (.getfield 154, 3) := by decide +kernel
theorem dX12_findSpans_87 : decode cX12_findSpans 87 = .ok (.goto 6, 3) := by decide +kernel
theorem dX12_findSpans_90 : decode cX12_findSpans 90 = .ok (.lload_n 2, 1) := by decide +kernel
theorem dX12_findSpans_91 : decode cX12_findSpans 91 = .ok (.lconst 1, 1) := by decide +kernel
theorem dX12_findSpans_92 : decode cX12_findSpans 92 = .ok (.lsub, 1) := by decide +kernel
theorem dX12_findSpans_93 : decode cX12_findSpans 93 = .ok (.lastore, 1) := by decide +kernel
theorem dX12_findSpans_94 : decode cX12_findSpans 94 = .ok (.iinc 1 1, 3) := by decide +kernel
theorem dX12_findSpans_97 : decode cX12_findSpans 97 = .ok (.goto (-95), 3) := by decide +kernel
theorem dX12_findSpans_100 : decode cX12_findSpans 100 = .ok (.return_, 1) := by decide +kernel
theorem dX12_bitsOf_0 : decode cX12_bitsOf 0 = .ok (.iconst 1, 1) := by decide +kernel
theorem dX12_bitsOf_1 : decode cX12_bitsOf 1 = .ok (.istore_n 2, 1) := by decide +kernel
theorem dX12_bitsOf_2 : decode cX12_bitsOf 2 = .ok (.aload_n 0, 1) := by decide +kernel
theorem dX12_bitsOf_3 : decode cX12_bitsOf 3 = .ok (.getfield 63, 3) := by decide +kernel
theorem dX12_bitsOf_6 : decode cX12_bitsOf 6 = .ok (.iload_n 1, 1) := by decide +kernel
theorem dX12_bitsOf_7 : decode cX12_bitsOf 7 = .ok (.laload, 1) := by decide +kernel
theorem dX12_bitsOf_8 : decode cX12_bitsOf 8 = .ok (.lconst 1, 1) := by decide +kernel
theorem dX12_bitsOf_9 : decode cX12_bitsOf 9 = .ok (.iload_n 2, 1) := by decide +kernel
theorem dX12_bitsOf_10 : decode cX12_bitsOf 10 = .ok (.iconst 1, 1) := by decide +kernel
theorem dX12_bitsOf_11 : decode cX12_bitsOf 11 = .ok (.isub, 1) := by decide +kernel
theorem dX12_bitsOf_12 : decode cX12_bitsOf 12 = .ok (.lshl, 1) := by decide +kernel
theorem dX12_bitsOf_13 : decode cX12_bitsOf 13 = .ok (.lneg, 1) := by decide +kernel
theorem dX12_bitsOf_14 : decode cX12_bitsOf 14 = .ok (.lcmp, 1) := by decide +kernel
theorem dX12_bitsOf_15 : decode cX12_bitsOf 15 = .ok (.ifCond .lt 18, 3) := by decide +kernel
theorem dX12_bitsOf_18 : decode cX12_bitsOf 18 = .ok (.aload_n 0, 1) := by decide +kernel
theorem dX12_bitsOf_19 : decode cX12_bitsOf 19 = .ok (.getfield 66, 3) := by decide +kernel
theorem dX12_bitsOf_22 : decode cX12_bitsOf 22 = .ok (.iload_n 1, 1) := by decide +kernel
theorem dX12_bitsOf_23 : decode cX12_bitsOf 23 = .ok (.laload, 1) := by decide +kernel
theorem dX12_bitsOf_24 : decode cX12_bitsOf 24 = .ok (.lconst 1, 1) := by decide +kernel
theorem dX12_bitsOf_25 : decode cX12_bitsOf 25 = .ok (.iload_n 2, 1) := by decide +kernel
theorem dX12_bitsOf_26 : decode cX12_bitsOf 26 = .ok (.iconst 1, 1) := by decide +kernel
theorem dX12_bitsOf_27 : decode cX12_bitsOf 27 = .ok (.isub, 1) := by decide +kernel
theorem dX12_bitsOf_28 : decode cX12_bitsOf 28 = .ok (.lshl, 1) := by decide +kernel
theorem dX12_bitsOf_29 : decode cX12_bitsOf 29 = .ok (.lcmp, 1) := by decide +kernel
theorem dX12_bitsOf_30 : decode cX12_bitsOf 30 = .ok (.ifCond .lt 9, 3) := by decide +kernel
theorem dX12_bitsOf_33 : decode cX12_bitsOf 33 = .ok (.iinc 2 1, 3) := by decide +kernel
theorem dX12_bitsOf_36 : decode cX12_bitsOf 36 = .ok (.goto (-34), 3) := by decide +kernel
theorem dX12_bitsOf_39 : decode cX12_bitsOf 39 = .ok (.iload_n 2, 1) := by decide +kernel
theorem dX12_bitsOf_40 : decode cX12_bitsOf 40 = .ok (.ireturn, 1) := by decide +kernel
theorem dX12_act_0 : decode cX12_act 0 = .ok (.aload_n 0, 1) := by decide +kernel
theorem dX12_act_1 : decode cX12_act 1 = .ok (.iconst 0, 1) := by decide +kernel
theorem dX12_act_2 : decode cX12_act 2 = .ok (.putfield 99, 3) := by decide +kernel
theorem dX12_act_5 : decode cX12_act 5 = .ok (.aload_n 0, 1) := by decide +kernel
theorem dX12_act_6 : decode cX12_act 6 = .ok (.iload_n 1, 1) := by decide +kernel
theorem dX12_act_7 : decode cX12_act 7 = .ok (.invokevirtual 132, 3) := by decide +kernel
theorem dX12_act_10 : decode cX12_act 10 = .ok (.ifCond .eq 15, 3) := by decide +kernel
theorem dX12_act_13 : decode cX12_act 13 = .ok (.iload_n 2, 1) := by decide +kernel
theorem dX12_act_14 : decode cX12_act 14 = .ok (.i2l, 1) := by decide +kernel
theorem dX12_act_15 : decode cX12_act 15 = .ok (.lconst 0, 1) := by decide +kernel
theorem dX12_act_16 : decode cX12_act 16 = .ok (.ldc2_w 142, 3) := by decide +kernel
theorem dX12_act_19 : decode cX12_act 19 = .ok (.invokestatic 118, 3) := by decide +kernel
theorem dX12_act_22 : decode cX12_act 22 = .ok (.ifCond .ne 5, 3) := by decide +kernel
theorem dX12_act_25 : decode cX12_act 25 = .ok (.iconst (-1), 1) := by decide +kernel
theorem dX12_act_26 : decode cX12_act 26 = .ok (.ireturn, 1) := by decide +kernel
theorem dX12_act_27 : decode cX12_act 27 = .ok (.iload_n 2, 1) := by decide +kernel
theorem dX12_act_28 : decode cX12_act 28 = .ok (.tableswitch 109 0 7 #[48, 55, 62, 62, 62, 86, 93, 99], 48) := by decide +kernel
theorem dX12_act_76 : decode cX12_act 76 = .ok (.aload_n 0, 1) := by decide +kernel
theorem dX12_act_77 : decode cX12_act 77 = .ok (.getfield 7, 3) := by decide +kernel
theorem dX12_act_80 : decode cX12_act 80 = .ok (.iload_n 1, 1) := by decide +kernel
theorem dX12_act_81 : decode cX12_act 81 = .ok (.iaload, 1) := by decide +kernel
theorem dX12_act_82 : decode cX12_act 82 = .ok (.ireturn, 1) := by decide +kernel
theorem dX12_act_83 : decode cX12_act 83 = .ok (.aload_n 0, 1) := by decide +kernel
theorem dX12_act_84 : decode cX12_act 84 = .ok (.getfield 13, 3) := by decide +kernel
theorem dX12_act_87 : decode cX12_act 87 = .ok (.iload_n 1, 1) := by decide +kernel
theorem dX12_act_88 : decode cX12_act 88 = .ok (.iaload, 1) := by decide +kernel
theorem dX12_act_89 : decode cX12_act 89 = .ok (.ireturn, 1) := by decide +kernel
theorem dX12_act_90 : decode cX12_act 90 = .ok (.aload_n 0, 1) := by decide +kernel
theorem dX12_act_91 : decode cX12_act 91 = .ok (.getfield 16, 3) := by decide +kernel
theorem dX12_act_94 : decode cX12_act 94 = .ok (.iconst 3, 1) := by decide +kernel
theorem dX12_act_95 : decode cX12_act 95 = .ok (.iload_n 1, 1) := by decide +kernel
theorem dX12_act_96 : decode cX12_act 96 = .ok (.imul, 1) := by decide +kernel
theorem dX12_act_97 : decode cX12_act 97 = .ok (.iload_n 2, 1) := by decide +kernel
theorem dX12_act_98 : decode cX12_act 98 = .ok (.iadd, 1) := by decide +kernel
theorem dX12_act_99 : decode cX12_act 99 = .ok (.iconst 2, 1) := by decide +kernel
theorem dX12_act_100 : decode cX12_act 100 = .ok (.isub, 1) := by decide +kernel
theorem dX12_act_101 : decode cX12_act 101 = .ok (.iaload, 1) := by decide +kernel
theorem dX12_act_102 : decode cX12_act 102 = .ok (.istore_n 3, 1) := by decide +kernel
theorem dX12_act_103 : decode cX12_act 103 = .ok (.iload_n 3, 1) := by decide +kernel
theorem dX12_act_104 : decode cX12_act 104 = .ok (.ifCond .ge 8, 3) := by decide +kernel
theorem dX12_act_107 : decode cX12_act 107 = .ok (.bipush (-2), 2) := by decide +kernel
theorem dX12_act_109 : decode cX12_act 109 = .ok (.goto 4, 3) := by decide +kernel
theorem dX12_act_112 : decode cX12_act 112 = .ok (.iload_n 3, 1) := by decide +kernel
theorem dX12_act_113 : decode cX12_act 113 = .ok (.ireturn, 1) := by decide +kernel
theorem dX12_act_114 : decode cX12_act 114 = .ok (.aload_n 0, 1) := by decide +kernel
theorem dX12_act_115 : decode cX12_act 115 = .ok (.getfield 19, 3) := by decide +kernel
theorem dX12_act_118 : decode cX12_act 118 = .ok (.iload_n 1, 1) := by decide +kernel
theorem dX12_act_119 : decode cX12_act 119 = .ok (.iaload, 1) := by decide +kernel
theorem dX12_act_120 : decode cX12_act 120 = .ok (.ireturn, 1) := by decide +kernel
theorem dX12_act_121 : decode cX12_act 121 = .ok (.aload_n 0, 1) := by decide +kernel
theorem dX12_act_122 : decode cX12_act 122 = .ok (.iload_n 1, 1) := by decide +kernel
theorem dX12_act_123 : decode cX12_act 123 = .ok (.invokevirtual 168, 3) := by decide +kernel
theorem dX12_act_126 : decode cX12_act 126 = .ok (.ireturn, 1) := by decide +kernel
theorem dX12_act_127 : decode cX12_act 127 = .ok (.aload_n 0, 1) := by decide +kernel
theorem dX12_act_128 : decode cX12_act 128 = .ok (.invokevirtual 171, 3) := by decide +kernel
theorem dX12_act_131 : decode cX12_act 131 = .ok (.aload_n 0, 1) := by decide +kernel
theorem dX12_act_132 : decode cX12_act 132 = .ok (.iload_n 1, 1) := by decide +kernel
theorem dX12_act_133 : decode cX12_act 133 = .ok (.invokevirtual 174, 3) := by decide +kernel
theorem dX12_act_136 : decode cX12_act 136 = .ok (.ireturn, 1) := by decide +kernel
theorem dX12_act_137 : decode cX12_act 137 = .ok (.aload_n 0, 1) := by decide +kernel
theorem dX12_act_138 : decode cX12_act 138 = .ok (.iload_n 1, 1) := by decide +kernel
theorem dX12_act_139 : decode cX12_act 139 = .ok (.invokevirtual 146, 3) := by decide +kernel
theorem dX12_act_142 : decode cX12_act 142 = .ok (.ireturn, 1) := by decide +kernel
theorem dX12_span_0 : decode cX12_span 0 = .ok (.aload_n 0, 1) := by decide +kernel
theorem dX12_span_1 : decode cX12_span 1 = .ok (.aload_n 0, 1) := by decide +kernel
theorem dX12_span_2 : decode cX12_span 2 = .ok (.iload_n 1, 1) := by decide +kernel
theorem dX12_span_3 : decode cX12_span 3 = .ok (.invokevirtual 132, 3) := by decide +kernel
theorem dX12_span_6 : decode cX12_span 6 = .ok (.ifCond .eq 7, 3) := by decide +kernel
theorem dX12_span_9 : decode cX12_span 9 = .ok (.iconst 0, 1) := by decide +kernel
theorem dX12_span_10 : decode cX12_span 10 = .ok (.goto 4, 3) := by decide +kernel
theorem dX12_span_13 : decode cX12_span 13 = .ok (.iconst 1, 1) := by decide +kernel
theorem dX12_span_14 : decode cX12_span 14 = .ok (.putfield 99, 3) := by decide +kernel
theorem dX12_span_17 : decode cX12_span 17 = .ok (.aload_n 0, 1) := by decide +kernel
theorem dX12_span_18 : decode cX12_span 18 = .ok (.getfield 99, 3) := by decide +kernel
theorem dX12_span_21 : decode cX12_span 21 = .ok (.ifCond .le 5, 3) := by decide +kernel
theorem dX12_span_24 : decode cX12_span 24 = .ok (.lconst 0, 1) := by decide +kernel
theorem dX12_span_25 : decode cX12_span 25 = .ok (.lreturn, 1) := by decide +kernel
theorem dX12_span_26 : decode cX12_span 26 = .ok (.aload_n 0, 1) := by decide +kernel
theorem dX12_span_27 : decode cX12_span 27 = .ok (.invokevirtual 171, 3) := by decide +kernel
theorem dX12_span_30 : decode cX12_span 30 = .ok (.iload_n 2, 1) := by decide +kernel
theorem dX12_span_31 : decode cX12_span 31 = .ok (.ifCond .eq 12, 3) := by decide +kernel
theorem dX12_span_34 : decode cX12_span 34 = .ok (.aload_n 0, 1) := by decide +kernel
theorem dX12_span_35 : decode cX12_span 35 = .ok (.getfield 66, 3) := by decide +kernel
theorem dX12_span_38 : decode cX12_span 38 = .ok (.iload_n 1, 1) := by decide +kernel
theorem dX12_span_39 : decode cX12_span 39 = .ok (.laload, 1) := by decide +kernel
theorem dX12_span_40 : decode cX12_span 40 = .ok (.goto 9, 3) := by decide +kernel
theorem dX12_span_43 : decode cX12_span 43 = .ok (.aload_n 0, 1) := by decide +kernel
theorem dX12_span_44 : decode cX12_span 44 = .ok (.getfield 63, 3) := by decide +kernel
theorem dX12_span_47 : decode cX12_span 47 = .ok (.iload_n 1, 1) := by decide +kernel
theorem dX12_span_48 : decode cX12_span 48 = .ok (.laload, 1) := by decide +kernel
theorem dX12_span_49 : decode cX12_span 49 = .ok (.lreturn, 1) := by decide +kernel
theorem dX12_isOperand_0 : decode cX12_isOperand 0 = .ok (.aload_n 0, 1) := by decide +kernel
theorem dX12_isOperand_1 : decode cX12_isOperand 1 = .ok (.getfield 16, 3) := by decide +kernel
theorem dX12_isOperand_4 : decode cX12_isOperand 4 = .ok (.iconst 3, 1) := by decide +kernel
theorem dX12_isOperand_5 : decode cX12_isOperand 5 = .ok (.iload_n 2, 1) := by decide +kernel
theorem dX12_isOperand_6 : decode cX12_isOperand 6 = .ok (.imul, 1) := by decide +kernel
theorem dX12_isOperand_7 : decode cX12_isOperand 7 = .ok (.iaload, 1) := by decide +kernel
theorem dX12_isOperand_8 : decode cX12_isOperand 8 = .ok (.iload_n 1, 1) := by decide +kernel
theorem dX12_isOperand_9 : decode cX12_isOperand 9 = .ok (.if_icmp .eq 31, 3) := by decide +kernel
theorem dX12_isOperand_12 : decode cX12_isOperand 12 = .ok (.aload_n 0, 1) := by decide +kernel
theorem dX12_isOperand_13 : decode cX12_isOperand 13 = .ok (.getfield 16, 3) := by decide +kernel
theorem dX12_isOperand_16 : decode cX12_isOperand 16 = .ok (.iconst 3, 1) := by decide +kernel
theorem dX12_isOperand_17 : decode cX12_isOperand 17 = .ok (.iload_n 2, 1) := by decide +kernel
theorem dX12_isOperand_18 : decode cX12_isOperand 18 = .ok (.imul, 1) := by decide +kernel
theorem dX12_isOperand_19 : decode cX12_isOperand 19 = .ok (.iconst 1, 1) := by decide +kernel
theorem dX12_isOperand_20 : decode cX12_isOperand 20 = .ok (.iadd, 1) := by decide +kernel
theorem dX12_isOperand_21 : decode cX12_isOperand 21 = .ok (.iaload, 1) := by decide +kernel
theorem dX12_isOperand_22 : decode cX12_isOperand 22 = .ok (.iload_n 1, 1) := by decide +kernel
theorem dX12_isOperand_23 : decode cX12_isOperand 23 = .ok (.if_icmp .eq 17, 3) := by decide +kernel
theorem dX12_isOperand_26 : decode cX12_isOperand 26 = .ok (.aload_n 0, 1) := by decide +kernel
theorem dX12_isOperand_27 : decode cX12_isOperand 27 = .ok (.getfield 16, 3) := by decide +kernel
theorem dX12_isOperand_30 : decode cX12_isOperand 30 = .ok (.iconst 3, 1) := by decide +kernel
theorem dX12_isOperand_31 : decode cX12_isOperand 31 = .ok (.iload_n 2, 1) := by decide +kernel
theorem dX12_isOperand_32 : decode cX12_isOperand 32 = .ok (.imul, 1) := by decide +kernel
theorem dX12_isOperand_33 : decode cX12_isOperand 33 = .ok (.iconst 2, 1) := by decide +kernel
theorem dX12_isOperand_34 : decode cX12_isOperand 34 = .ok (.iadd, 1) := by decide +kernel
theorem dX12_isOperand_35 : decode cX12_isOperand 35 = .ok (.iaload, 1) := by decide +kernel
theorem dX12_isOperand_36 : decode cX12_isOperand 36 = .ok (.iload_n 1, 1) := by decide +kernel
theorem dX12_isOperand_37 : decode cX12_isOperand 37 = .ok (.if_icmp .ne 7, 3) := by decide +kernel
theorem dX12_isOperand_40 : decode cX12_isOperand 40 = .ok (.iconst 1, 1) := by decide +kernel
theorem dX12_isOperand_41 : decode cX12_isOperand 41 = .ok (.goto 4, 3) := by decide +kernel
theorem dX12_isOperand_44 : decode cX12_isOperand 44 = .ok (.iconst 0, 1) := by decide +kernel
theorem dX12_isOperand_45 : decode cX12_isOperand 45 = .ok (.ireturn, 1) := by decide +kernel
theorem dX12_canFail_0 : decode cX12_canFail 0 = .ok (.aload_n 0, 1) := by decide +kernel
theorem dX12_canFail_1 : decode cX12_canFail 1 = .ok (.getfield 7, 3) := by decide +kernel
theorem dX12_canFail_4 : decode cX12_canFail 4 = .ok (.iload_n 1, 1) := by decide +kernel
theorem dX12_canFail_5 : decode cX12_canFail 5 = .ok (.iaload, 1) := by decide +kernel
theorem dX12_canFail_6 : decode cX12_canFail 6 = .ok (.iconst 1, 1) := by decide +kernel
theorem dX12_canFail_7 : decode cX12_canFail 7 = .ok (.if_icmp .eq 35, 3) := by decide +kernel
theorem dX12_canFail_10 : decode cX12_canFail 10 = .ok (.aload_n 0, 1) := by decide +kernel
theorem dX12_canFail_11 : decode cX12_canFail 11 = .ok (.getfield 7, 3) := by decide +kernel
theorem dX12_canFail_14 : decode cX12_canFail 14 = .ok (.iload_n 1, 1) := by decide +kernel
theorem dX12_canFail_15 : decode cX12_canFail 15 = .ok (.iaload, 1) := by decide +kernel
theorem dX12_canFail_16 : decode cX12_canFail 16 = .ok (.iconst 5, 1) := by decide +kernel
theorem dX12_canFail_17 : decode cX12_canFail 17 = .ok (.if_icmp .eq 25, 3) := by decide +kernel
theorem dX12_canFail_20 : decode cX12_canFail 20 = .ok (.aload_n 0, 1) := by decide +kernel
theorem dX12_canFail_21 : decode cX12_canFail 21 = .ok (.getfield 7, 3) := by decide +kernel
theorem dX12_canFail_24 : decode cX12_canFail 24 = .ok (.iload_n 1, 1) := by decide +kernel
theorem dX12_canFail_25 : decode cX12_canFail 25 = .ok (.iaload, 1) := by decide +kernel
theorem dX12_canFail_26 : decode cX12_canFail 26 = .ok (.bipush 8, 2) := by decide +kernel
theorem dX12_canFail_28 : decode cX12_canFail 28 = .ok (.if_icmp .eq 14, 3) := by decide +kernel
theorem dX12_canFail_31 : decode cX12_canFail 31 = .ok (.aload_n 0, 1) := by decide +kernel
theorem dX12_canFail_32 : decode cX12_canFail 32 = .ok (.getfield 7, 3) := by decide +kernel
theorem dX12_canFail_35 : decode cX12_canFail 35 = .ok (.iload_n 1, 1) := by decide +kernel
theorem dX12_canFail_36 : decode cX12_canFail 36 = .ok (.iaload, 1) := by decide +kernel
theorem dX12_canFail_37 : decode cX12_canFail 37 = .ok (.bipush 9, 2) := by decide +kernel
theorem dX12_canFail_39 : decode cX12_canFail 39 = .ok (.if_icmp .ne 7, 3) := by decide +kernel
theorem dX12_canFail_42 : decode cX12_canFail 42 = .ok (.iconst 1, 1) := by decide +kernel
theorem dX12_canFail_43 : decode cX12_canFail 43 = .ok (.goto 4, 3) := by decide +kernel
theorem dX12_canFail_46 : decode cX12_canFail 46 = .ok (.iconst 0, 1) := by decide +kernel
theorem dX12_canFail_47 : decode cX12_canFail 47 = .ok (.ireturn, 1) := by decide +kernel
theorem dX12_meet_0 : decode cX12_meet 0 = .ok (.aload_n 0, 1) := by decide +kernel
theorem dX12_meet_1 : decode cX12_meet 1 = .ok (.getfield 16, 3) := by decide +kernel
theorem dX12_meet_4 : decode cX12_meet 4 = .ok (.iconst 3, 1) := by decide +kernel
theorem dX12_meet_5 : decode cX12_meet 5 = .ok (.iload_n 1, 1) := by decide +kernel
theorem dX12_meet_6 : decode cX12_meet 6 = .ok (.imul, 1) := by decide +kernel
theorem dX12_meet_7 : decode cX12_meet 7 = .ok (.iaload, 1) := by decide +kernel
theorem dX12_meet_8 : decode cX12_meet 8 = .ok (.istore_n 3, 1) := by decide +kernel
theorem dX12_meet_9 : decode cX12_meet 9 = .ok (.aload_n 0, 1) := by decide +kernel
theorem dX12_meet_10 : decode cX12_meet 10 = .ok (.getfield 16, 3) := by decide +kernel
theorem dX12_meet_13 : decode cX12_meet 13 = .ok (.iconst 3, 1) := by decide +kernel
theorem dX12_meet_14 : decode cX12_meet 14 = .ok (.iload_n 2, 1) := by decide +kernel
theorem dX12_meet_15 : decode cX12_meet 15 = .ok (.imul, 1) := by decide +kernel
theorem dX12_meet_16 : decode cX12_meet 16 = .ok (.iaload, 1) := by decide +kernel
theorem dX12_meet_17 : decode cX12_meet 17 = .ok (.istore 4, 2) := by decide +kernel
theorem dX12_meet_19 : decode cX12_meet 19 = .ok (.aload_n 0, 1) := by decide +kernel
theorem dX12_meet_20 : decode cX12_meet 20 = .ok (.getfield 63, 3) := by decide +kernel
theorem dX12_meet_23 : decode cX12_meet 23 = .ok (.iload_n 3, 1) := by decide +kernel
theorem dX12_meet_24 : decode cX12_meet 24 = .ok (.laload, 1) := by decide +kernel
theorem dX12_meet_25 : decode cX12_meet 25 = .ok (.aload_n 0, 1) := by decide +kernel
theorem dX12_meet_26 : decode cX12_meet 26 = .ok (.getfield 66, 3) := by decide +kernel
theorem dX12_meet_29 : decode cX12_meet 29 = .ok (.iload 4, 2) := by decide +kernel
theorem dX12_meet_31 : decode cX12_meet 31 = .ok (.laload, 1) := by decide +kernel
theorem dX12_meet_32 : decode cX12_meet 32 = .ok (.lcmp, 1) := by decide +kernel
theorem dX12_meet_33 : decode cX12_meet 33 = .ok (.ifCond .gt 24, 3) := by decide +kernel
theorem dX12_meet_36 : decode cX12_meet 36 = .ok (.aload_n 0, 1) := by decide +kernel
theorem dX12_meet_37 : decode cX12_meet 37 = .ok (.getfield 63, 3) := by decide +kernel
theorem dX12_meet_40 : decode cX12_meet 40 = .ok (.iload 4, 2) := by decide +kernel
theorem dX12_meet_42 : decode cX12_meet 42 = .ok (.laload, 1) := by decide +kernel
theorem dX12_meet_43 : decode cX12_meet 43 = .ok (.aload_n 0, 1) := by decide +kernel
theorem dX12_meet_44 : decode cX12_meet 44 = .ok (.getfield 66, 3) := by decide +kernel
theorem dX12_meet_47 : decode cX12_meet 47 = .ok (.iload_n 3, 1) := by decide +kernel
theorem dX12_meet_48 : decode cX12_meet 48 = .ok (.laload, 1) := by decide +kernel
theorem dX12_meet_49 : decode cX12_meet 49 = .ok (.lcmp, 1) := by decide +kernel
theorem dX12_meet_50 : decode cX12_meet 50 = .ok (.ifCond .gt 7, 3) := by decide +kernel
theorem dX12_meet_53 : decode cX12_meet 53 = .ok (.iconst 1, 1) := by decide +kernel
theorem dX12_meet_54 : decode cX12_meet 54 = .ok (.goto 4, 3) := by decide +kernel
theorem dX12_meet_57 : decode cX12_meet 57 = .ok (.iconst 0, 1) := by decide +kernel
theorem dX12_meet_58 : decode cX12_meet 58 = .ok (.ireturn, 1) := by decide +kernel
theorem dX12_need_0 : decode cX12_need 0 = .ok (.iconst 0, 1) := by decide +kernel
theorem dX12_need_1 : decode cX12_need 1 = .ok (.istore_n 3, 1) := by decide +kernel
theorem dX12_need_2 : decode cX12_need 2 = .ok (.aload_n 0, 1) := by decide +kernel
theorem dX12_need_3 : decode cX12_need 3 = .ok (.iload_n 1, 1) := by decide +kernel
theorem dX12_need_4 : decode cX12_need 4 = .ok (.invokevirtual 168, 3) := by decide +kernel
theorem dX12_need_7 : decode cX12_need 7 = .ok (.istore 4, 2) := by decide +kernel
theorem dX12_need_9 : decode cX12_need 9 = .ok (.aload_n 0, 1) := by decide +kernel
theorem dX12_need_10 : decode cX12_need 10 = .ok (.getfield 7, 3) := by decide +kernel
theorem dX12_need_13 : decode cX12_need 13 = .ok (.iload_n 1, 1) := by decide +kernel
theorem dX12_need_14 : decode cX12_need 14 = .ok (.iaload, 1) := by decide +kernel
theorem dX12_need_15 : decode cX12_need 15 = .ok (.bipush 8, 2) := by decide +kernel
theorem dX12_need_17 : decode cX12_need 17 = .ok (.if_icmp .eq 14, 3) := by decide +kernel
theorem dX12_need_20 : decode cX12_need 20 = .ok (.aload_n 0, 1) := by decide +kernel
theorem dX12_need_21 : decode cX12_need 21 = .ok (.getfield 7, 3) := by decide +kernel
theorem dX12_need_24 : decode cX12_need 24 = .ok (.iload_n 1, 1) := by decide +kernel
theorem dX12_need_25 : decode cX12_need 25 = .ok (.iaload, 1) := by decide +kernel
theorem dX12_need_26 : decode cX12_need 26 = .ok (.bipush 9, 2) := by decide +kernel
theorem dX12_need_28 : decode cX12_need 28 = .ok (.if_icmp .ne 51, 3) := by decide +kernel
theorem dX12_need_31 : decode cX12_need 31 = .ok (.aload_n 0, 1) := by decide +kernel
theorem dX12_need_32 : decode cX12_need 32 = .ok (.getfield 7, 3) := by decide +kernel
theorem dX12_need_35 : decode cX12_need 35 = .ok (.iload_n 2, 1) := by decide +kernel
theorem dX12_need_36 : decode cX12_need 36 = .ok (.iaload, 1) := by decide +kernel
theorem dX12_need_37 : decode cX12_need 37 = .ok (.bipush 8, 2) := by decide +kernel
theorem dX12_need_39 : decode cX12_need 39 = .ok (.if_icmp .eq 14, 3) := by decide +kernel
theorem dX12_need_42 : decode cX12_need 42 = .ok (.aload_n 0, 1) := by decide +kernel
theorem dX12_need_43 : decode cX12_need 43 = .ok (.getfield 7, 3) := by decide +kernel
theorem dX12_need_46 : decode cX12_need 46 = .ok (.iload_n 2, 1) := by decide +kernel
theorem dX12_need_47 : decode cX12_need 47 = .ok (.iaload, 1) := by decide +kernel
theorem dX12_need_48 : decode cX12_need 48 = .ok (.bipush 9, 2) := by decide +kernel
theorem dX12_need_50 : decode cX12_need 50 = .ok (.if_icmp .ne 29, 3) := by decide +kernel
theorem dX12_need_53 : decode cX12_need 53 = .ok (.aload_n 0, 1) := by decide +kernel
theorem dX12_need_54 : decode cX12_need 54 = .ok (.getfield 7, 3) := by decide +kernel
theorem dX12_need_57 : decode cX12_need 57 = .ok (.iload_n 1, 1) := by decide +kernel
theorem dX12_need_58 : decode cX12_need 58 = .ok (.iaload, 1) := by decide +kernel
theorem dX12_need_59 : decode cX12_need 59 = .ok (.bipush 9, 2) := by decide +kernel
theorem dX12_need_61 : decode cX12_need 61 = .ok (.if_icmp .eq 14, 3) := by decide +kernel
theorem dX12_need_64 : decode cX12_need 64 = .ok (.aload_n 0, 1) := by decide +kernel
theorem dX12_need_65 : decode cX12_need 65 = .ok (.getfield 7, 3) := by decide +kernel
theorem dX12_need_68 : decode cX12_need 68 = .ok (.iload_n 2, 1) := by decide +kernel
theorem dX12_need_69 : decode cX12_need 69 = .ok (.iaload, 1) := by decide +kernel
theorem dX12_need_70 : decode cX12_need 70 = .ok (.bipush 9, 2) := by decide +kernel
theorem dX12_need_72 : decode cX12_need 72 = .ok (.if_icmp .ne 7, 3) := by decide +kernel
theorem dX12_need_75 : decode cX12_need 75 = .ok (.iconst 1, 1) := by decide +kernel
theorem dX12_need_76 : decode cX12_need 76 = .ok (.goto 4, 3) := by decide +kernel
theorem dX12_need_79 : decode cX12_need 79 = .ok (.iconst 0, 1) := by decide +kernel
theorem dX12_need_80 : decode cX12_need 80 = .ok (.istore 5, 2) := by decide +kernel
theorem dX12_need_82 : decode cX12_need 82 = .ok (.iload 5, 2) := by decide +kernel
theorem dX12_need_84 : decode cX12_need 84 = .ok (.ifCond .eq 12, 3) := by decide +kernel
theorem dX12_need_87 : decode cX12_need 87 = .ok (.aload_n 0, 1) := by decide +kernel
theorem dX12_need_88 : decode cX12_need 88 = .ok (.iload_n 1, 1) := by decide +kernel
theorem dX12_need_89 : decode cX12_need 89 = .ok (.iload_n 2, 1) := by decide +kernel
theorem dX12_need_90 : decode cX12_need 90 = .ok (.invokevirtual 177, 3) := by decide +kernel
theorem dX12_need_93 : decode cX12_need 93 = .ok (.ifCond .ne 54, 3) := by decide +kernel
theorem dX12_need_96 : decode cX12_need 96 = .ok (.aload_n 0, 1) := by decide +kernel
theorem dX12_need_97 : decode cX12_need 97 = .ok (.getfield 7, 3) := by decide +kernel
theorem dX12_need_100 : decode cX12_need 100 = .ok (.iload_n 1, 1) := by decide +kernel
theorem dX12_need_101 : decode cX12_need 101 = .ok (.iaload, 1) := by decide +kernel
theorem dX12_need_102 : decode cX12_need 102 = .ok (.aload_n 0, 1) := by decide +kernel
theorem dX12_need_103 : decode cX12_need 103 = .ok (.getfield 7, 3) := by decide +kernel
theorem dX12_need_106 : decode cX12_need 106 = .ok (.iload_n 2, 1) := by decide +kernel
theorem dX12_need_107 : decode cX12_need 107 = .ok (.iaload, 1) := by decide +kernel
theorem dX12_need_108 : decode cX12_need 108 = .ok (.if_icmp .ne 41, 3) := by decide +kernel
theorem dX12_need_111 : decode cX12_need 111 = .ok (.aload_n 0, 1) := by decide +kernel
theorem dX12_need_112 : decode cX12_need 112 = .ok (.getfield 7, 3) := by decide +kernel
theorem dX12_need_115 : decode cX12_need 115 = .ok (.iload_n 1, 1) := by decide +kernel
theorem dX12_need_116 : decode cX12_need 116 = .ok (.iaload, 1) := by decide +kernel
theorem dX12_need_117 : decode cX12_need 117 = .ok (.iconst 1, 1) := by decide +kernel
theorem dX12_need_118 : decode cX12_need 118 = .ok (.if_icmp .eq 14, 3) := by decide +kernel
theorem dX12_need_121 : decode cX12_need 121 = .ok (.aload_n 0, 1) := by decide +kernel
theorem dX12_need_122 : decode cX12_need 122 = .ok (.getfield 7, 3) := by decide +kernel
theorem dX12_need_125 : decode cX12_need 125 = .ok (.iload_n 1, 1) := by decide +kernel
theorem dX12_need_126 : decode cX12_need 126 = .ok (.iaload, 1) := by decide +kernel
theorem dX12_need_127 : decode cX12_need 127 = .ok (.bipush 10, 2) := by decide +kernel
theorem dX12_need_129 : decode cX12_need 129 = .ok (.if_icmp .ne 20, 3) := by decide +kernel
theorem dX12_need_132 : decode cX12_need 132 = .ok (.aload_n 0, 1) := by decide +kernel
theorem dX12_need_133 : decode cX12_need 133 = .ok (.getfield 19, 3) := by decide +kernel
theorem dX12_need_136 : decode cX12_need 136 = .ok (.iload_n 1, 1) := by decide +kernel
theorem dX12_need_137 : decode cX12_need 137 = .ok (.iaload, 1) := by decide +kernel
theorem dX12_need_138 : decode cX12_need 138 = .ok (.aload_n 0, 1) := by decide +kernel
theorem dX12_need_139 : decode cX12_need 139 = .ok (.getfield 19, 3) := by decide +kernel
theorem dX12_need_142 : decode cX12_need 142 = .ok (.iload_n 2, 1) := by decide +kernel
theorem dX12_need_143 : decode cX12_need 143 = .ok (.iaload, 1) := by decide +kernel
theorem dX12_need_144 : decode cX12_need 144 = .ok (.if_icmp .ne 5, 3) := by decide +kernel
theorem dX12_need_147 : decode cX12_need 147 = .ok (.iconst 1, 1) := by decide +kernel
theorem dX12_need_148 : decode cX12_need 148 = .ok (.istore_n 3, 1) := by decide +kernel
theorem dX12_need_149 : decode cX12_need 149 = .ok (.aload_n 0, 1) := by decide +kernel
theorem dX12_need_150 : decode cX12_need 150 = .ok (.iload_n 1, 1) := by decide +kernel
theorem dX12_need_151 : decode cX12_need 151 = .ok (.invokevirtual 181, 3) := by decide +kernel
theorem dX12_need_154 : decode cX12_need 154 = .ok (.ifCond .eq 39, 3) := by decide +kernel
theorem dX12_need_157 : decode cX12_need 157 = .ok (.aload_n 0, 1) := by decide +kernel
theorem dX12_need_158 : decode cX12_need 158 = .ok (.getfield 7, 3) := by decide +kernel
theorem dX12_need_161 : decode cX12_need 161 = .ok (.iload_n 2, 1) := by decide +kernel
theorem dX12_need_162 : decode cX12_need 162 = .ok (.iaload, 1) := by decide +kernel
theorem dX12_need_163 : decode cX12_need 163 = .ok (.iconst 1, 1) := by decide +kernel
theorem dX12_need_164 : decode cX12_need 164 = .ok (.if_icmp .eq 25, 3) := by decide +kernel
theorem dX12_need_167 : decode cX12_need 167 = .ok (.aload_n 0, 1) := by decide +kernel
theorem dX12_need_168 : decode cX12_need 168 = .ok (.getfield 7, 3) := by decide +kernel
theorem dX12_need_171 : decode cX12_need 171 = .ok (.iload_n 2, 1) := by decide +kernel
theorem dX12_need_172 : decode cX12_need 172 = .ok (.iaload, 1) := by decide +kernel
theorem dX12_need_173 : decode cX12_need 173 = .ok (.bipush 9, 2) := by decide +kernel
theorem dX12_need_175 : decode cX12_need 175 = .ok (.if_icmp .eq 14, 3) := by decide +kernel
theorem dX12_need_178 : decode cX12_need 178 = .ok (.aload_n 0, 1) := by decide +kernel
theorem dX12_need_179 : decode cX12_need 179 = .ok (.getfield 7, 3) := by decide +kernel
theorem dX12_need_182 : decode cX12_need 182 = .ok (.iload_n 2, 1) := by decide +kernel
theorem dX12_need_183 : decode cX12_need 183 = .ok (.iaload, 1) := by decide +kernel
theorem dX12_need_184 : decode cX12_need 184 = .ok (.bipush 10, 2) := by decide +kernel
theorem dX12_need_186 : decode cX12_need 186 = .ok (.if_icmp .ne 7, 3) := by decide +kernel
theorem dX12_need_189 : decode cX12_need 189 = .ok (.iconst 1, 1) := by decide +kernel
theorem dX12_need_190 : decode cX12_need 190 = .ok (.goto 4, 3) := by decide +kernel
theorem dX12_need_193 : decode cX12_need 193 = .ok (.iconst 0, 1) := by decide +kernel
theorem dX12_need_194 : decode cX12_need 194 = .ok (.istore 6, 2) := by decide +kernel
theorem dX12_need_196 : decode cX12_need 196 = .ok (.aload_n 0, 1) := by decide +kernel
theorem dX12_need_197 : decode cX12_need 197 = .ok (.iload_n 1, 1) := by decide +kernel
theorem dX12_need_198 : decode cX12_need 198 = .ok (.iload_n 2, 1) := by decide +kernel
theorem dX12_need_199 : decode cX12_need 199 = .ok (.invokevirtual 184, 3) := by decide +kernel
theorem dX12_need_202 : decode cX12_need 202 = .ok (.ifCond .ne 8, 3) := by decide +kernel
theorem dX12_need_205 : decode cX12_need 205 = .ok (.iload 6, 2) := by decide +kernel
theorem dX12_need_207 : decode cX12_need 207 = .ok (.ifCond .eq 14, 3) := by decide +kernel
theorem dX12_need_210 : decode cX12_need 210 = .ok (.iload 4, 2) := by decide +kernel
theorem dX12_need_212 : decode cX12_need 212 = .ok (.iload_n 3, 1) := by decide +kernel
theorem dX12_need_213 : decode cX12_need 213 = .ok (.if_icmp .le 8, 3) := by decide +kernel
theorem dX12_need_216 : decode cX12_need 216 = .ok (.iload 4, 2) := by decide +kernel
theorem dX12_need_218 : decode cX12_need 218 = .ok (.goto 4, 3) := by decide +kernel
theorem dX12_need_221 : decode cX12_need 221 = .ok (.iload_n 3, 1) := by decide +kernel
theorem dX12_need_222 : decode cX12_need 222 = .ok (.ireturn, 1) := by decide +kernel
theorem dX12_needs_0 : decode cX12_needs 0 = .ok (.aload_n 0, 1) := by decide +kernel
theorem dX12_needs_1 : decode cX12_needs 1 = .ok (.iconst 0, 1) := by decide +kernel
theorem dX12_needs_2 : decode cX12_needs 2 = .ok (.putfield 99, 3) := by decide +kernel
theorem dX12_needs_5 : decode cX12_needs 5 = .ok (.aload_n 0, 1) := by decide +kernel
theorem dX12_needs_6 : decode cX12_needs 6 = .ok (.iload_n 2, 1) := by decide +kernel
theorem dX12_needs_7 : decode cX12_needs 7 = .ok (.invokevirtual 132, 3) := by decide +kernel
theorem dX12_needs_10 : decode cX12_needs 10 = .ok (.ifCond .eq 12, 3) := by decide +kernel
theorem dX12_needs_13 : decode cX12_needs 13 = .ok (.iload_n 1, 1) := by decide +kernel
theorem dX12_needs_14 : decode cX12_needs 14 = .ok (.ifCond .lt 8, 3) := by decide +kernel
theorem dX12_needs_17 : decode cX12_needs 17 = .ok (.iload_n 1, 1) := by decide +kernel
theorem dX12_needs_18 : decode cX12_needs 18 = .ok (.iload_n 2, 1) := by decide +kernel
theorem dX12_needs_19 : decode cX12_needs 19 = .ok (.if_icmp .lt 5, 3) := by decide +kernel
theorem dX12_needs_22 : decode cX12_needs 22 = .ok (.iconst (-1), 1) := by decide +kernel
theorem dX12_needs_23 : decode cX12_needs 23 = .ok (.ireturn, 1) := by decide +kernel
theorem dX12_needs_24 : decode cX12_needs 24 = .ok (.aload_n 0, 1) := by decide +kernel
theorem dX12_needs_25 : decode cX12_needs 25 = .ok (.invokevirtual 171, 3) := by decide +kernel
theorem dX12_needs_28 : decode cX12_needs 28 = .ok (.aload_n 0, 1) := by decide +kernel
theorem dX12_needs_29 : decode cX12_needs 29 = .ok (.iload_n 1, 1) := by decide +kernel
theorem dX12_needs_30 : decode cX12_needs 30 = .ok (.iload_n 2, 1) := by decide +kernel
theorem dX12_needs_31 : decode cX12_needs 31 = .ok (.invokevirtual 187, 3) := by decide +kernel
theorem dX12_needs_34 : decode cX12_needs 34 = .ok (.ireturn, 1) := by decide +kernel
theorem dX12_askedFor_0 : decode cX12_askedFor 0 = .ok (.iconst 0, 1) := by decide +kernel
theorem dX12_askedFor_1 : decode cX12_askedFor 1 = .ok (.istore_n 2, 1) := by decide +kernel
theorem dX12_askedFor_2 : decode cX12_askedFor 2 = .ok (.iconst 0, 1) := by decide +kernel
theorem dX12_askedFor_3 : decode cX12_askedFor 3 = .ok (.istore_n 3, 1) := by decide +kernel
theorem dX12_askedFor_4 : decode cX12_askedFor 4 = .ok (.iload_n 3, 1) := by decide +kernel
theorem dX12_askedFor_5 : decode cX12_askedFor 5 = .ok (.iload_n 1, 1) := by decide +kernel
theorem dX12_askedFor_6 : decode cX12_askedFor 6 = .ok (.if_icmp .ge 61, 3) := by decide +kernel
theorem dX12_askedFor_9 : decode cX12_askedFor 9 = .ok (.aload_n 0, 1) := by decide +kernel
theorem dX12_askedFor_10 : decode cX12_askedFor 10 = .ok (.iload_n 3, 1) := by decide +kernel
theorem dX12_askedFor_11 : decode cX12_askedFor 11 = .ok (.iload_n 1, 1) := by decide +kernel
theorem dX12_askedFor_12 : decode cX12_askedFor 12 = .ok (.invokevirtual 187, 3) := by decide +kernel
theorem dX12_askedFor_15 : decode cX12_askedFor 15 = .ok (.istore 4, 2) := by decide +kernel
theorem dX12_askedFor_17 : decode cX12_askedFor 17 = .ok (.iload 4, 2) := by decide +kernel
theorem dX12_askedFor_19 : decode cX12_askedFor 19 = .ok (.ifCond .le 20, 3) := by decide +kernel
theorem dX12_askedFor_22 : decode cX12_askedFor 22 = .ok (.aload_n 0, 1) := by decide +kernel
theorem dX12_askedFor_23 : decode cX12_askedFor 23 = .ok (.getfield 45, 3) := by decide +kernel
theorem dX12_askedFor_26 : decode cX12_askedFor 26 = .ok (.iload_n 3, 1) := by decide +kernel
theorem dX12_askedFor_27 : decode cX12_askedFor 27 = .ok (.iaload, 1) := by decide +kernel
theorem dX12_askedFor_28 : decode cX12_askedFor 28 = .ok (.iload 4, 2) := by decide +kernel
theorem dX12_askedFor_30 : decode cX12_askedFor 30 = .ok (.iadd, 1) := by decide +kernel
theorem dX12_askedFor_31 : decode cX12_askedFor 31 = .ok (.iload_n 2, 1) := by decide +kernel
theorem dX12_askedFor_32 : decode cX12_askedFor 32 = .ok (.if_icmp .le 7, 3) := by decide +kernel
theorem dX12_askedFor_35 : decode cX12_askedFor 35 = .ok (.iconst 1, 1) := by decide +kernel
theorem dX12_askedFor_36 : decode cX12_askedFor 36 = .ok (.goto 4, 3) := by decide +kernel
theorem dX12_askedFor_39 : decode cX12_askedFor 39 = .ok (.iconst 0, 1) := by decide +kernel
theorem dX12_askedFor_40 : decode cX12_askedFor 40 = .ok (.istore 5, 2) := by decide +kernel
theorem dX12_askedFor_42 : decode cX12_askedFor 42 = .ok (.iload 5, 2) := by decide +kernel
theorem dX12_askedFor_44 : decode cX12_askedFor 44 = .ok (.ifCond .eq 15, 3) := by decide +kernel
theorem dX12_askedFor_47 : decode cX12_askedFor 47 = .ok (.aload_n 0, 1) := by decide +kernel
theorem dX12_askedFor_48 : decode cX12_askedFor 48 = .ok (.getfield 45, 3) := by decide +kernel
theorem dX12_askedFor_51 : decode cX12_askedFor 51 = .ok (.iload_n 3, 1) := by decide +kernel
theorem dX12_askedFor_52 : decode cX12_askedFor 52 = .ok (.iaload, 1) := by decide +kernel
theorem dX12_askedFor_53 : decode cX12_askedFor 53 = .ok (.iload 4, 2) := by decide +kernel
theorem dX12_askedFor_55 : decode cX12_askedFor 55 = .ok (.iadd, 1) := by decide +kernel
theorem dX12_askedFor_56 : decode cX12_askedFor 56 = .ok (.goto 4, 3) := by decide +kernel
theorem dX12_askedFor_59 : decode cX12_askedFor 59 = .ok (.iload_n 2, 1) := by decide +kernel
theorem dX12_askedFor_60 : decode cX12_askedFor 60 = .ok (.istore_n 2, 1) := by decide +kernel
theorem dX12_askedFor_61 : decode cX12_askedFor 61 = .ok (.iinc 3 1, 3) := by decide +kernel
theorem dX12_askedFor_64 : decode cX12_askedFor 64 = .ok (.goto (-60), 3) := by decide +kernel
theorem dX12_askedFor_67 : decode cX12_askedFor 67 = .ok (.iload_n 2, 1) := by decide +kernel
theorem dX12_askedFor_68 : decode cX12_askedFor 68 = .ok (.ireturn, 1) := by decide +kernel
theorem dX12_isFree_0 : decode cX12_isFree 0 = .ok (.iconst 1, 1) := by decide +kernel
theorem dX12_isFree_1 : decode cX12_isFree 1 = .ok (.istore 4, 2) := by decide +kernel
theorem dX12_isFree_3 : decode cX12_isFree 3 = .ok (.iconst 0, 1) := by decide +kernel
theorem dX12_isFree_4 : decode cX12_isFree 4 = .ok (.istore 5, 2) := by decide +kernel
theorem dX12_isFree_6 : decode cX12_isFree 6 = .ok (.iload 5, 2) := by decide +kernel
theorem dX12_isFree_8 : decode cX12_isFree 8 = .ok (.iload_n 1, 1) := by decide +kernel
theorem dX12_isFree_9 : decode cX12_isFree 9 = .ok (.if_icmp .ge 93, 3) := by decide +kernel
theorem dX12_isFree_12 : decode cX12_isFree 12 = .ok (.aload_n 0, 1) := by decide +kernel
theorem dX12_isFree_13 : decode cX12_isFree 13 = .ok (.iload 5, 2) := by decide +kernel
theorem dX12_isFree_15 : decode cX12_isFree 15 = .ok (.invokevirtual 146, 3) := by decide +kernel
theorem dX12_isFree_18 : decode cX12_isFree 18 = .ok (.aload_n 0, 1) := by decide +kernel
theorem dX12_isFree_19 : decode cX12_isFree 19 = .ok (.iload_n 1, 1) := by decide +kernel
theorem dX12_isFree_20 : decode cX12_isFree 20 = .ok (.invokevirtual 146, 3) := by decide +kernel
theorem dX12_isFree_23 : decode cX12_isFree 23 = .ok (.if_icmp .ne 18, 3) := by decide +kernel
theorem dX12_isFree_26 : decode cX12_isFree 26 = .ok (.aload_n 0, 1) := by decide +kernel
theorem dX12_isFree_27 : decode cX12_isFree 27 = .ok (.getfield 48, 3) := by decide +kernel
theorem dX12_isFree_30 : decode cX12_isFree 30 = .ok (.iload 5, 2) := by decide +kernel
theorem dX12_isFree_32 : decode cX12_isFree 32 = .ok (.iaload, 1) := by decide +kernel
theorem dX12_isFree_33 : decode cX12_isFree 33 = .ok (.iload_n 2, 1) := by decide +kernel
theorem dX12_isFree_34 : decode cX12_isFree 34 = .ok (.if_icmp .ne 7, 3) := by decide +kernel
theorem dX12_isFree_37 : decode cX12_isFree 37 = .ok (.iconst 1, 1) := by decide +kernel
theorem dX12_isFree_38 : decode cX12_isFree 38 = .ok (.goto 4, 3) := by decide +kernel
theorem dX12_isFree_41 : decode cX12_isFree 41 = .ok (.iconst 0, 1) := by decide +kernel
theorem dX12_isFree_42 : decode cX12_isFree 42 = .ok (.istore 6, 2) := by decide +kernel
theorem dX12_isFree_44 : decode cX12_isFree 44 = .ok (.iload 4, 2) := by decide +kernel
theorem dX12_isFree_46 : decode cX12_isFree 46 = .ok (.ifCond .eq 47, 3) := by decide +kernel
theorem dX12_isFree_49 : decode cX12_isFree 49 = .ok (.iload 6, 2) := by decide +kernel
theorem dX12_isFree_51 : decode cX12_isFree 51 = .ok (.ifCond .eq 38, 3) := by decide +kernel
theorem dX12_isFree_54 : decode cX12_isFree 54 = .ok (.aload_n 0, 1) := by decide +kernel
theorem dX12_isFree_55 : decode cX12_isFree 55 = .ok (.getfield 45, 3) := by decide +kernel
theorem dX12_isFree_58 : decode cX12_isFree 58 = .ok (.iload 5, 2) := by decide +kernel
theorem dX12_isFree_60 : decode cX12_isFree 60 = .ok (.iaload, 1) := by decide +kernel
theorem dX12_isFree_61 : decode cX12_isFree 61 = .ok (.aload_n 0, 1) := by decide +kernel
theorem dX12_isFree_62 : decode cX12_isFree 62 = .ok (.iload 5, 2) := by decide +kernel
theorem dX12_isFree_64 : decode cX12_isFree 64 = .ok (.invokevirtual 191, 3) := by decide +kernel
theorem dX12_isFree_67 : decode cX12_isFree 67 = .ok (.iadd, 1) := by decide +kernel
theorem dX12_isFree_68 : decode cX12_isFree 68 = .ok (.iload_n 3, 1) := by decide +kernel
theorem dX12_isFree_69 : decode cX12_isFree 69 = .ok (.if_icmp .le 20, 3) := by decide +kernel
theorem dX12_isFree_72 : decode cX12_isFree 72 = .ok (.iload_n 3, 1) := by decide +kernel
theorem dX12_isFree_73 : decode cX12_isFree 73 = .ok (.aload_n 0, 1) := by decide +kernel
theorem dX12_isFree_74 : decode cX12_isFree 74 = .ok (.iload_n 1, 1) := by decide +kernel
theorem dX12_isFree_75 : decode cX12_isFree 75 = .ok (.invokevirtual 191, 3) := by decide +kernel
theorem dX12_isFree_78 : decode cX12_isFree 78 = .ok (.iadd, 1) := by decide +kernel
theorem dX12_isFree_79 : decode cX12_isFree 79 = .ok (.aload_n 0, 1) := by decide +kernel
theorem dX12_isFree_80 : decode cX12_isFree 80 = .ok (.getfield 45, 3) := by decide +kernel
theorem dX12_isFree_83 : decode cX12_isFree 83 = .ok (.iload 5, 2) := by decide +kernel
theorem dX12_isFree_85 : decode cX12_isFree 85 = .ok (.iaload, 1) := by decide +kernel
theorem dX12_isFree_86 : decode cX12_isFree 86 = .ok (.if_icmp .gt 7, 3) := by decide +kernel
theorem dX12_isFree_89 : decode cX12_isFree 89 = .ok (.iconst 1, 1) := by decide +kernel
theorem dX12_isFree_90 : decode cX12_isFree 90 = .ok (.goto 4, 3) := by decide +kernel
theorem dX12_isFree_93 : decode cX12_isFree 93 = .ok (.iconst 0, 1) := by decide +kernel
theorem dX12_isFree_94 : decode cX12_isFree 94 = .ok (.istore 4, 2) := by decide +kernel
theorem dX12_isFree_96 : decode cX12_isFree 96 = .ok (.iinc 5 1, 3) := by decide +kernel
theorem dX12_isFree_99 : decode cX12_isFree 99 = .ok (.goto (-93), 3) := by decide +kernel
theorem dX12_isFree_102 : decode cX12_isFree 102 = .ok (.iload 4, 2) := by decide +kernel
theorem dX12_isFree_104 : decode cX12_isFree 104 = .ok (.ireturn, 1) := by decide +kernel
theorem dX12_freePart_0 : decode cX12_freePart 0 = .ok (.iconst 0, 1) := by decide +kernel
theorem dX12_freePart_1 : decode cX12_freePart 1 = .ok (.istore_n 3, 1) := by decide +kernel
theorem dX12_freePart_2 : decode cX12_freePart 2 = .ok (.iload_n 3, 1) := by decide +kernel
theorem dX12_freePart_3 : decode cX12_freePart 3 = .ok (.aload_n 0, 1) := by decide +kernel
theorem dX12_freePart_4 : decode cX12_freePart 4 = .ok (.getfield 26, 3) := by decide +kernel
theorem dX12_freePart_7 : decode cX12_freePart 7 = .ok (.aload_n 0, 1) := by decide +kernel
theorem dX12_freePart_8 : decode cX12_freePart 8 = .ok (.iload_n 1, 1) := by decide +kernel
theorem dX12_freePart_9 : decode cX12_freePart 9 = .ok (.invokevirtual 146, 3) := by decide +kernel
theorem dX12_freePart_12 : decode cX12_freePart 12 = .ok (.iaload, 1) := by decide +kernel
theorem dX12_freePart_13 : decode cX12_freePart 13 = .ok (.if_icmp .ge 21, 3) := by decide +kernel
theorem dX12_freePart_16 : decode cX12_freePart 16 = .ok (.aload_n 0, 1) := by decide +kernel
theorem dX12_freePart_17 : decode cX12_freePart 17 = .ok (.iload_n 1, 1) := by decide +kernel
theorem dX12_freePart_18 : decode cX12_freePart 18 = .ok (.iload_n 3, 1) := by decide +kernel
theorem dX12_freePart_19 : decode cX12_freePart 19 = .ok (.iload_n 2, 1) := by decide +kernel
theorem dX12_freePart_20 : decode cX12_freePart 20 = .ok (.invokevirtual 194, 3) := by decide +kernel
theorem dX12_freePart_23 : decode cX12_freePart 23 = .ok (.ifCond .eq 5, 3) := by decide +kernel
theorem dX12_freePart_26 : decode cX12_freePart 26 = .ok (.iload_n 3, 1) := by decide +kernel
theorem dX12_freePart_27 : decode cX12_freePart 27 = .ok (.ireturn, 1) := by decide +kernel
theorem dX12_freePart_28 : decode cX12_freePart 28 = .ok (.iinc 3 1, 3) := by decide +kernel
theorem dX12_freePart_31 : decode cX12_freePart 31 = .ok (.goto (-29), 3) := by decide +kernel
theorem dX12_freePart_34 : decode cX12_freePart 34 = .ok (.bipush (-2), 2) := by decide +kernel
theorem dX12_freePart_36 : decode cX12_freePart 36 = .ok (.ireturn, 1) := by decide +kernel
theorem dX12_isUsed_0 : decode cX12_isUsed 0 = .ok (.iconst 0, 1) := by decide +kernel
theorem dX12_isUsed_1 : decode cX12_isUsed 1 = .ok (.istore_n 2, 1) := by decide +kernel
theorem dX12_isUsed_2 : decode cX12_isUsed 2 = .ok (.iload_n 1, 1) := by decide +kernel
theorem dX12_isUsed_3 : decode cX12_isUsed 3 = .ok (.iconst 1, 1) := by decide +kernel
theorem dX12_isUsed_4 : decode cX12_isUsed 4 = .ok (.iadd, 1) := by decide +kernel
theorem dX12_isUsed_5 : decode cX12_isUsed 5 = .ok (.istore_n 3, 1) := by decide +kernel
theorem dX12_isUsed_6 : decode cX12_isUsed 6 = .ok (.iload_n 3, 1) := by decide +kernel
theorem dX12_isUsed_7 : decode cX12_isUsed 7 = .ok (.aload_n 0, 1) := by decide +kernel
theorem dX12_isUsed_8 : decode cX12_isUsed 8 = .ok (.getfield 103, 3) := by decide +kernel
theorem dX12_isUsed_11 : decode cX12_isUsed 11 = .ok (.if_icmp .ge 28, 3) := by decide +kernel
theorem dX12_isUsed_14 : decode cX12_isUsed 14 = .ok (.iload_n 2, 1) := by decide +kernel
theorem dX12_isUsed_15 : decode cX12_isUsed 15 = .ok (.ifCond .ne 12, 3) := by decide +kernel
theorem dX12_isUsed_18 : decode cX12_isUsed 18 = .ok (.aload_n 0, 1) := by decide +kernel
theorem dX12_isUsed_19 : decode cX12_isUsed 19 = .ok (.iload_n 1, 1) := by decide +kernel
theorem dX12_isUsed_20 : decode cX12_isUsed 20 = .ok (.iload_n 3, 1) := by decide +kernel
theorem dX12_isUsed_21 : decode cX12_isUsed 21 = .ok (.invokevirtual 184, 3) := by decide +kernel
theorem dX12_isUsed_24 : decode cX12_isUsed 24 = .ok (.ifCond .eq 7, 3) := by decide +kernel
theorem dX12_isUsed_27 : decode cX12_isUsed 27 = .ok (.iconst 1, 1) := by decide +kernel
theorem dX12_isUsed_28 : decode cX12_isUsed 28 = .ok (.goto 4, 3) := by decide +kernel
theorem dX12_isUsed_31 : decode cX12_isUsed 31 = .ok (.iconst 0, 1) := by decide +kernel
theorem dX12_isUsed_32 : decode cX12_isUsed 32 = .ok (.istore_n 2, 1) := by decide +kernel
theorem dX12_isUsed_33 : decode cX12_isUsed 33 = .ok (.iinc 3 1, 3) := by decide +kernel
theorem dX12_isUsed_36 : decode cX12_isUsed 36 = .ok (.goto (-30), 3) := by decide +kernel
theorem dX12_isUsed_39 : decode cX12_isUsed 39 = .ok (.iload_n 2, 1) := by decide +kernel
theorem dX12_isUsed_40 : decode cX12_isUsed 40 = .ok (.ifCond .eq 16, 3) := by decide +kernel
theorem dX12_isUsed_43 : decode cX12_isUsed 43 = .ok (.aload_n 0, 1) := by decide +kernel
theorem dX12_isUsed_44 : decode cX12_isUsed 44 = .ok (.getfield 7, 3) := by decide +kernel
theorem dX12_isUsed_47 : decode cX12_isUsed 47 = .ok (.iload_n 1, 1) := by decide +kernel
theorem dX12_isUsed_48 : decode cX12_isUsed 48 = .ok (.iaload, 1) := by decide +kernel
theorem dX12_isUsed_49 : decode cX12_isUsed 49 = .ok (.ifCond .eq 7, 3) := by decide +kernel
theorem dX12_isUsed_52 : decode cX12_isUsed 52 = .ok (.iconst 1, 1) := by decide +kernel
theorem dX12_isUsed_53 : decode cX12_isUsed 53 = .ok (.goto 4, 3) := by decide +kernel
theorem dX12_isUsed_56 : decode cX12_isUsed 56 = .ok (.iconst 0, 1) := by decide +kernel
theorem dX12_isUsed_57 : decode cX12_isUsed 57 = .ok (.ireturn, 1) := by decide +kernel
theorem dX12_lifeEnd_0 : decode cX12_lifeEnd 0 = .ok (.bipush (-2), 2) := by decide +kernel
theorem dX12_lifeEnd_2 : decode cX12_lifeEnd 2 = .ok (.istore_n 2, 1) := by decide +kernel
theorem dX12_lifeEnd_3 : decode cX12_lifeEnd 3 = .ok (.iload_n 1, 1) := by decide +kernel
theorem dX12_lifeEnd_4 : decode cX12_lifeEnd 4 = .ok (.iconst 1, 1) := by decide +kernel
theorem dX12_lifeEnd_5 : decode cX12_lifeEnd 5 = .ok (.iadd, 1) := by decide +kernel
theorem dX12_lifeEnd_6 : decode cX12_lifeEnd 6 = .ok (.istore_n 3, 1) := by decide +kernel
theorem dX12_lifeEnd_7 : decode cX12_lifeEnd 7 = .ok (.iload_n 3, 1) := by decide +kernel
theorem dX12_lifeEnd_8 : decode cX12_lifeEnd 8 = .ok (.aload_n 0, 1) := by decide +kernel
theorem dX12_lifeEnd_9 : decode cX12_lifeEnd 9 = .ok (.getfield 103, 3) := by decide +kernel
theorem dX12_lifeEnd_12 : decode cX12_lifeEnd 12 = .ok (.if_icmp .ge 39, 3) := by decide +kernel
theorem dX12_lifeEnd_15 : decode cX12_lifeEnd 15 = .ok (.aload_n 0, 1) := by decide +kernel
theorem dX12_lifeEnd_16 : decode cX12_lifeEnd 16 = .ok (.iload_n 1, 1) := by decide +kernel
theorem dX12_lifeEnd_17 : decode cX12_lifeEnd 17 = .ok (.iload_n 3, 1) := by decide +kernel
theorem dX12_lifeEnd_18 : decode cX12_lifeEnd 18 = .ok (.invokevirtual 184, 3) := by decide +kernel
theorem dX12_lifeEnd_21 : decode cX12_lifeEnd 21 = .ok (.ifCond .eq 22, 3) := by decide +kernel
theorem dX12_lifeEnd_24 : decode cX12_lifeEnd 24 = .ok (.aload_n 0, 1) := by decide +kernel
theorem dX12_lifeEnd_25 : decode cX12_lifeEnd 25 = .ok (.getfield 45, 3) := by decide +kernel
theorem dX12_lifeEnd_28 : decode cX12_lifeEnd 28 = .ok (.iload_n 3, 1) := by decide +kernel
theorem dX12_lifeEnd_29 : decode cX12_lifeEnd 29 = .ok (.iaload, 1) := by decide +kernel
theorem dX12_lifeEnd_30 : decode cX12_lifeEnd 30 = .ok (.iload_n 2, 1) := by decide +kernel
theorem dX12_lifeEnd_31 : decode cX12_lifeEnd 31 = .ok (.if_icmp .le 12, 3) := by decide +kernel
theorem dX12_lifeEnd_34 : decode cX12_lifeEnd 34 = .ok (.aload_n 0, 1) := by decide +kernel
theorem dX12_lifeEnd_35 : decode cX12_lifeEnd 35 = .ok (.getfield 45, 3) := by decide +kernel
theorem dX12_lifeEnd_38 : decode cX12_lifeEnd 38 = .ok (.iload_n 3, 1) := by decide +kernel
theorem dX12_lifeEnd_39 : decode cX12_lifeEnd 39 = .ok (.iaload, 1) := by decide +kernel
theorem dX12_lifeEnd_40 : decode cX12_lifeEnd 40 = .ok (.goto 4, 3) := by decide +kernel
theorem dX12_lifeEnd_43 : decode cX12_lifeEnd 43 = .ok (.iload_n 2, 1) := by decide +kernel
theorem dX12_lifeEnd_44 : decode cX12_lifeEnd 44 = .ok (.istore_n 2, 1) := by decide +kernel
theorem dX12_lifeEnd_45 : decode cX12_lifeEnd 45 = .ok (.iinc 3 1, 3) := by decide +kernel
theorem dX12_lifeEnd_48 : decode cX12_lifeEnd 48 = .ok (.goto (-41), 3) := by decide +kernel
theorem dX12_lifeEnd_51 : decode cX12_lifeEnd 51 = .ok (.iload_n 2, 1) := by decide +kernel
theorem dX12_lifeEnd_52 : decode cX12_lifeEnd 52 = .ok (.ireturn, 1) := by decide +kernel
theorem dX12_lifeBegin_0 : decode cX12_lifeBegin 0 = .ok (.aload_n 0, 1) := by decide +kernel
theorem dX12_lifeBegin_1 : decode cX12_lifeBegin 1 = .ok (.getfield 45, 3) := by decide +kernel
theorem dX12_lifeBegin_4 : decode cX12_lifeBegin 4 = .ok (.iload_n 1, 1) := by decide +kernel
theorem dX12_lifeBegin_5 : decode cX12_lifeBegin 5 = .ok (.iaload, 1) := by decide +kernel
theorem dX12_lifeBegin_6 : decode cX12_lifeBegin 6 = .ok (.aload_n 0, 1) := by decide +kernel
theorem dX12_lifeBegin_7 : decode cX12_lifeBegin 7 = .ok (.iload_n 1, 1) := by decide +kernel
theorem dX12_lifeBegin_8 : decode cX12_lifeBegin 8 = .ok (.invokevirtual 168, 3) := by decide +kernel
theorem dX12_lifeBegin_11 : decode cX12_lifeBegin 11 = .ok (.iadd, 1) := by decide +kernel
theorem dX12_lifeBegin_12 : decode cX12_lifeBegin 12 = .ok (.ireturn, 1) := by decide +kernel
theorem dX12_liveTogether_0 : decode cX12_liveTogether 0 = .ok (.aload_n 0, 1) := by decide +kernel
theorem dX12_liveTogether_1 : decode cX12_liveTogether 1 = .ok (.iload_n 1, 1) := by decide +kernel
theorem dX12_liveTogether_2 : decode cX12_liveTogether 2 = .ok (.invokevirtual 198, 3) := by decide +kernel
theorem dX12_liveTogether_5 : decode cX12_liveTogether 5 = .ok (.aload_n 0, 1) := by decide +kernel
theorem dX12_liveTogether_6 : decode cX12_liveTogether 6 = .ok (.iload_n 2, 1) := by decide +kernel
theorem dX12_liveTogether_7 : decode cX12_liveTogether 7 = .ok (.invokevirtual 201, 3) := by decide +kernel
theorem dX12_liveTogether_10 : decode cX12_liveTogether 10 = .ok (.if_icmp .gt 20, 3) := by decide +kernel
theorem dX12_liveTogether_13 : decode cX12_liveTogether 13 = .ok (.aload_n 0, 1) := by decide +kernel
theorem dX12_liveTogether_14 : decode cX12_liveTogether 14 = .ok (.iload_n 2, 1) := by decide +kernel
theorem dX12_liveTogether_15 : decode cX12_liveTogether 15 = .ok (.invokevirtual 198, 3) := by decide +kernel
theorem dX12_liveTogether_18 : decode cX12_liveTogether 18 = .ok (.aload_n 0, 1) := by decide +kernel
theorem dX12_liveTogether_19 : decode cX12_liveTogether 19 = .ok (.iload_n 1, 1) := by decide +kernel
theorem dX12_liveTogether_20 : decode cX12_liveTogether 20 = .ok (.invokevirtual 201, 3) := by decide +kernel
theorem dX12_liveTogether_23 : decode cX12_liveTogether 23 = .ok (.if_icmp .gt 7, 3) := by decide +kernel
theorem dX12_liveTogether_26 : decode cX12_liveTogether 26 = .ok (.iconst 1, 1) := by decide +kernel
theorem dX12_liveTogether_27 : decode cX12_liveTogether 27 = .ok (.goto 4, 3) := by decide +kernel
theorem dX12_liveTogether_30 : decode cX12_liveTogether 30 = .ok (.iconst 0, 1) := by decide +kernel
theorem dX12_liveTogether_31 : decode cX12_liveTogether 31 = .ok (.ireturn, 1) := by decide +kernel
theorem dX12_freeRegister_0 : decode cX12_freeRegister 0 = .ok (.iconst 0, 1) := by decide +kernel
theorem dX12_freeRegister_1 : decode cX12_freeRegister 1 = .ok (.istore_n 2, 1) := by decide +kernel
theorem dX12_freeRegister_2 : decode cX12_freeRegister 2 = .ok (.iconst 1, 1) := by decide +kernel
theorem dX12_freeRegister_3 : decode cX12_freeRegister 3 = .ok (.istore_n 3, 1) := by decide +kernel
theorem dX12_freeRegister_4 : decode cX12_freeRegister 4 = .ok (.iload_n 3, 1) := by decide +kernel
theorem dX12_freeRegister_5 : decode cX12_freeRegister 5 = .ok (.ifCond .eq 67, 3) := by decide +kernel
theorem dX12_freeRegister_8 : decode cX12_freeRegister 8 = .ok (.iconst 0, 1) := by decide +kernel
theorem dX12_freeRegister_9 : decode cX12_freeRegister 9 = .ok (.istore_n 3, 1) := by decide +kernel
theorem dX12_freeRegister_10 : decode cX12_freeRegister 10 = .ok (.iconst 0, 1) := by decide +kernel
theorem dX12_freeRegister_11 : decode cX12_freeRegister 11 = .ok (.istore 4, 2) := by decide +kernel
theorem dX12_freeRegister_13 : decode cX12_freeRegister 13 = .ok (.iload 4, 2) := by decide +kernel
theorem dX12_freeRegister_15 : decode cX12_freeRegister 15 = .ok (.aload_n 0, 1) := by decide +kernel
theorem dX12_freeRegister_16 : decode cX12_freeRegister 16 = .ok (.getfield 103, 3) := by decide +kernel
theorem dX12_freeRegister_19 : decode cX12_freeRegister 19 = .ok (.if_icmp .ge 38, 3) := by decide +kernel
theorem dX12_freeRegister_22 : decode cX12_freeRegister 22 = .ok (.iload 4, 2) := by decide +kernel
theorem dX12_freeRegister_24 : decode cX12_freeRegister 24 = .ok (.iload_n 1, 1) := by decide +kernel
theorem dX12_freeRegister_25 : decode cX12_freeRegister 25 = .ok (.if_icmp .eq 26, 3) := by decide +kernel
theorem dX12_freeRegister_28 : decode cX12_freeRegister 28 = .ok (.aload_n 0, 1) := by decide +kernel
theorem dX12_freeRegister_29 : decode cX12_freeRegister 29 = .ok (.getfield 51, 3) := by decide +kernel
theorem dX12_freeRegister_32 : decode cX12_freeRegister 32 = .ok (.iload 4, 2) := by decide +kernel
theorem dX12_freeRegister_34 : decode cX12_freeRegister 34 = .ok (.iaload, 1) := by decide +kernel
theorem dX12_freeRegister_35 : decode cX12_freeRegister 35 = .ok (.iload_n 2, 1) := by decide +kernel
theorem dX12_freeRegister_36 : decode cX12_freeRegister 36 = .ok (.if_icmp .ne 15, 3) := by decide +kernel
theorem dX12_freeRegister_39 : decode cX12_freeRegister 39 = .ok (.aload_n 0, 1) := by decide +kernel
theorem dX12_freeRegister_40 : decode cX12_freeRegister 40 = .ok (.iload_n 1, 1) := by decide +kernel
theorem dX12_freeRegister_41 : decode cX12_freeRegister 41 = .ok (.iload 4, 2) := by decide +kernel
theorem dX12_freeRegister_43 : decode cX12_freeRegister 43 = .ok (.invokevirtual 204, 3) := by decide +kernel
theorem dX12_freeRegister_46 : decode cX12_freeRegister 46 = .ok (.ifCond .eq 5, 3) := by decide +kernel
theorem dX12_freeRegister_49 : decode cX12_freeRegister 49 = .ok (.iconst 1, 1) := by decide +kernel
theorem dX12_freeRegister_50 : decode cX12_freeRegister 50 = .ok (.istore_n 3, 1) := by decide +kernel
theorem dX12_freeRegister_51 : decode cX12_freeRegister 51 = .ok (.iinc 4 1, 3) := by decide +kernel
theorem dX12_freeRegister_54 : decode cX12_freeRegister 54 = .ok (.goto (-41), 3) := by decide +kernel
theorem dX12_freeRegister_57 : decode cX12_freeRegister 57 = .ok (.iload_n 2, 1) := by decide +kernel
theorem dX12_freeRegister_58 : decode cX12_freeRegister 58 = .ok (.iload_n 3, 1) := by decide +kernel
theorem dX12_freeRegister_59 : decode cX12_freeRegister 59 = .ok (.ifCond .eq 7, 3) := by decide +kernel
theorem dX12_freeRegister_62 : decode cX12_freeRegister 62 = .ok (.iconst 1, 1) := by decide +kernel
theorem dX12_freeRegister_63 : decode cX12_freeRegister 63 = .ok (.goto 4, 3) := by decide +kernel
theorem dX12_freeRegister_66 : decode cX12_freeRegister 66 = .ok (.iconst 0, 1) := by decide +kernel
theorem dX12_freeRegister_67 : decode cX12_freeRegister 67 = .ok (.iadd, 1) := by decide +kernel
theorem dX12_freeRegister_68 : decode cX12_freeRegister 68 = .ok (.istore_n 2, 1) := by decide +kernel
theorem dX12_freeRegister_69 : decode cX12_freeRegister 69 = .ok (.goto (-65), 3) := by decide +kernel
theorem dX12_freeRegister_72 : decode cX12_freeRegister 72 = .ok (.iload_n 2, 1) := by decide +kernel
theorem dX12_freeRegister_73 : decode cX12_freeRegister 73 = .ok (.ireturn, 1) := by decide +kernel
theorem dX12_findRegisters_0 : decode cX12_findRegisters 0 = .ok (.aload_n 0, 1) := by decide +kernel
theorem dX12_findRegisters_1 : decode cX12_findRegisters 1 = .ok (.iconst 0, 1) := by decide +kernel
theorem dX12_findRegisters_2 : decode cX12_findRegisters 2 = .ok (.putfield 207, 3) := by decide +kernel
theorem dX12_findRegisters_5 : decode cX12_findRegisters 5 = .ok (.iconst 0, 1) := by decide +kernel
theorem dX12_findRegisters_6 : decode cX12_findRegisters 6 = .ok (.istore_n 1, 1) := by decide +kernel
theorem dX12_findRegisters_7 : decode cX12_findRegisters 7 = .ok (.iload_n 1, 1) := by decide +kernel
theorem dX12_findRegisters_8 : decode cX12_findRegisters 8 = .ok (.aload_n 0, 1) := by decide +kernel
theorem dX12_findRegisters_9 : decode cX12_findRegisters 9 = .ok (.getfield 103, 3) := by decide +kernel
theorem dX12_findRegisters_12 : decode cX12_findRegisters 12 = .ok (.if_icmp .ge 17, 3) := by decide +kernel
theorem dX12_findRegisters_15 : decode cX12_findRegisters 15 = .ok (.aload_n 0, 1) := by decide +kernel
theorem dX12_findRegisters_16 : decode cX12_findRegisters 16 = .ok (.getfield 51, 3) := by decide +kernel
theorem dX12_findRegisters_19 : decode cX12_findRegisters 19 = .ok (.iload_n 1, 1) := by decide +kernel
theorem dX12_findRegisters_20 : decode cX12_findRegisters 20 = .ok (.bipush (-2), 2) := by decide +kernel
theorem dX12_findRegisters_22 : decode cX12_findRegisters 22 = .ok (.iastore, 1) := by decide +kernel
theorem dX12_findRegisters_23 : decode cX12_findRegisters 23 = .ok (.iinc 1 1, 3) := by decide +kernel
theorem dX12_findRegisters_26 : decode cX12_findRegisters 26 = .ok (.goto (-19), 3) := by decide +kernel
theorem dX12_findRegisters_29 : decode cX12_findRegisters 29 = .ok (.iconst 0, 1) := by decide +kernel
theorem dX12_findRegisters_30 : decode cX12_findRegisters 30 = .ok (.istore_n 1, 1) := by decide +kernel
theorem dX12_findRegisters_31 : decode cX12_findRegisters 31 = .ok (.iload_n 1, 1) := by decide +kernel
theorem dX12_findRegisters_32 : decode cX12_findRegisters 32 = .ok (.aload_n 0, 1) := by decide +kernel
theorem dX12_findRegisters_33 : decode cX12_findRegisters 33 = .ok (.getfield 210, 3) := by decide +kernel
theorem dX12_findRegisters_36 : decode cX12_findRegisters 36 = .ok (.if_icmp .gt 85, 3) := by decide +kernel
theorem dX12_findRegisters_39 : decode cX12_findRegisters 39 = .ok (.iconst 0, 1) := by decide +kernel
theorem dX12_findRegisters_40 : decode cX12_findRegisters 40 = .ok (.istore_n 2, 1) := by decide +kernel
theorem dX12_findRegisters_41 : decode cX12_findRegisters 41 = .ok (.iload_n 2, 1) := by decide +kernel
theorem dX12_findRegisters_42 : decode cX12_findRegisters 42 = .ok (.aload_n 0, 1) := by decide +kernel
theorem dX12_findRegisters_43 : decode cX12_findRegisters 43 = .ok (.getfield 103, 3) := by decide +kernel
theorem dX12_findRegisters_46 : decode cX12_findRegisters 46 = .ok (.if_icmp .ge 69, 3) := by decide +kernel
theorem dX12_findRegisters_49 : decode cX12_findRegisters 49 = .ok (.aload_n 0, 1) := by decide +kernel
theorem dX12_findRegisters_50 : decode cX12_findRegisters 50 = .ok (.iload_n 2, 1) := by decide +kernel
theorem dX12_findRegisters_51 : decode cX12_findRegisters 51 = .ok (.invokevirtual 213, 3) := by decide +kernel
theorem dX12_findRegisters_54 : decode cX12_findRegisters 54 = .ok (.ifCond .eq 55, 3) := by decide +kernel
theorem dX12_findRegisters_57 : decode cX12_findRegisters 57 = .ok (.aload_n 0, 1) := by decide +kernel
theorem dX12_findRegisters_58 : decode cX12_findRegisters 58 = .ok (.iload_n 2, 1) := by decide +kernel
theorem dX12_findRegisters_59 : decode cX12_findRegisters 59 = .ok (.invokevirtual 198, 3) := by decide +kernel
theorem dX12_findRegisters_62 : decode cX12_findRegisters 62 = .ok (.iload_n 1, 1) := by decide +kernel
theorem dX12_findRegisters_63 : decode cX12_findRegisters 63 = .ok (.if_icmp .ne 46, 3) := by decide +kernel
theorem dX12_findRegisters_66 : decode cX12_findRegisters 66 = .ok (.aload_n 0, 1) := by decide +kernel
theorem dX12_findRegisters_67 : decode cX12_findRegisters 67 = .ok (.getfield 51, 3) := by decide +kernel
theorem dX12_findRegisters_70 : decode cX12_findRegisters 70 = .ok (.iload_n 2, 1) := by decide +kernel
theorem dX12_findRegisters_71 : decode cX12_findRegisters 71 = .ok (.aload_n 0, 1) := by decide +kernel
theorem dX12_findRegisters_72 : decode cX12_findRegisters 72 = .ok (.iload_n 2, 1) := by decide +kernel
theorem dX12_findRegisters_73 : decode cX12_findRegisters 73 = .ok (.invokevirtual 216, 3) := by decide +kernel
theorem dX12_findRegisters_76 : decode cX12_findRegisters 76 = .ok (.iastore, 1) := by decide +kernel
theorem dX12_findRegisters_77 : decode cX12_findRegisters 77 = .ok (.aload_n 0, 1) := by decide +kernel
theorem dX12_findRegisters_78 : decode cX12_findRegisters 78 = .ok (.aload_n 0, 1) := by decide +kernel
theorem dX12_findRegisters_79 : decode cX12_findRegisters 79 = .ok (.getfield 51, 3) := by decide +kernel
theorem dX12_findRegisters_82 : decode cX12_findRegisters 82 = .ok (.iload_n 2, 1) := by decide +kernel
theorem dX12_findRegisters_83 : decode cX12_findRegisters 83 = .ok (.iaload, 1) := by decide +kernel
theorem dX12_findRegisters_84 : decode cX12_findRegisters 84 = .ok (.aload_n 0, 1) := by decide +kernel
theorem dX12_findRegisters_85 : decode cX12_findRegisters 85 = .ok (.getfield 207, 3) := by decide +kernel
theorem dX12_findRegisters_88 : decode cX12_findRegisters 88 = .ok (.if_icmp .lt 14, 3) := by decide +kernel
theorem dX12_findRegisters_91 : decode cX12_findRegisters 91 = .ok (.aload_n 0, 1) := by decide +kernel
theorem dX12_findRegisters_92 : decode cX12_findRegisters 92 = .ok (.getfield 51, 3) := by decide +kernel
theorem dX12_findRegisters_95 : decode cX12_findRegisters 95 = .ok (.iload_n 2, 1) := by decide +kernel
theorem dX12_findRegisters_96 : decode cX12_findRegisters 96 = .ok (.iaload, 1) := by decide +kernel
theorem dX12_findRegisters_97 : decode cX12_findRegisters 97 = .ok (.iconst 1, 1) := by decide +kernel
theorem dX12_findRegisters_98 : decode cX12_findRegisters 98 = .ok (.iadd, 1) := by decide +kernel
theorem dX12_findRegisters_99 : decode cX12_findRegisters 99 = .ok (.goto 7, 3) := by decide +kernel
theorem dX12_findRegisters_102 : decode cX12_findRegisters 102 = .ok (.aload_n 0, 1) := by decide +kernel
theorem dX12_findRegisters_103 : decode cX12_findRegisters 103 = .ok (.getfield 207, 3) := by decide +kernel
theorem dX12_findRegisters_106 : decode cX12_findRegisters 106 = .ok (.putfield 207, 3) := by decide +kernel
theorem dX12_findRegisters_109 : decode cX12_findRegisters 109 = .ok (.iinc 2 1, 3) := by decide +kernel
theorem dX12_findRegisters_112 : decode cX12_findRegisters 112 = .ok (.goto (-71), 3) := by decide +kernel
theorem dX12_findRegisters_115 : decode cX12_findRegisters 115 = .ok (.iinc 1 1, 3) := by decide +kernel
theorem dX12_findRegisters_118 : decode cX12_findRegisters 118 = .ok (.goto (-87), 3) := by decide +kernel
theorem dX12_findRegisters_121 : decode cX12_findRegisters 121 = .ok (.return_, 1) := by decide +kernel
theorem dX12_lay_0 : decode cX12_lay 0 = .ok (.aload_n 0, 1) := by decide +kernel
theorem dX12_lay_1 : decode cX12_lay 1 = .ok (.iconst 0, 1) := by decide +kernel
theorem dX12_lay_2 : decode cX12_lay 2 = .ok (.putfield 99, 3) := by decide +kernel
theorem dX12_lay_5 : decode cX12_lay 5 = .ok (.aload_n 0, 1) := by decide +kernel
theorem dX12_lay_6 : decode cX12_lay 6 = .ok (.getfield 103, 3) := by decide +kernel
theorem dX12_lay_9 : decode cX12_lay 9 = .ok (.ifCond .ne 6, 3) := by decide +kernel
theorem dX12_lay_12 : decode cX12_lay 12 = .ok (.bipush (-2), 2) := by decide +kernel
theorem dX12_lay_14 : decode cX12_lay 14 = .ok (.ireturn, 1) := by decide +kernel
theorem dX12_lay_15 : decode cX12_lay 15 = .ok (.aload_n 0, 1) := by decide +kernel
theorem dX12_lay_16 : decode cX12_lay 16 = .ok (.invokevirtual 171, 3) := by decide +kernel
theorem dX12_lay_19 : decode cX12_lay 19 = .ok (.aload_n 0, 1) := by decide +kernel
theorem dX12_lay_20 : decode cX12_lay 20 = .ok (.iconst 0, 1) := by decide +kernel
theorem dX12_lay_21 : decode cX12_lay 21 = .ok (.putfield 210, 3) := by decide +kernel
theorem dX12_lay_24 : decode cX12_lay 24 = .ok (.iconst 0, 1) := by decide +kernel
theorem dX12_lay_25 : decode cX12_lay 25 = .ok (.istore_n 1, 1) := by decide +kernel
theorem dX12_lay_26 : decode cX12_lay 26 = .ok (.iload_n 1, 1) := by decide +kernel
theorem dX12_lay_27 : decode cX12_lay 27 = .ok (.aload_n 0, 1) := by decide +kernel
theorem dX12_lay_28 : decode cX12_lay 28 = .ok (.getfield 103, 3) := by decide +kernel
theorem dX12_lay_31 : decode cX12_lay 31 = .ok (.if_icmp .ge 109, 3) := by decide +kernel
theorem dX12_lay_34 : decode cX12_lay 34 = .ok (.aload_n 0, 1) := by decide +kernel
theorem dX12_lay_35 : decode cX12_lay 35 = .ok (.getfield 69, 3) := by decide +kernel
theorem dX12_lay_38 : decode cX12_lay 38 = .ok (.iload_n 1, 1) := by decide +kernel
theorem dX12_lay_39 : decode cX12_lay 39 = .ok (.aload_n 0, 1) := by decide +kernel
theorem dX12_lay_40 : decode cX12_lay 40 = .ok (.iload_n 1, 1) := by decide +kernel
theorem dX12_lay_41 : decode cX12_lay 41 = .ok (.invokevirtual 219, 3) := by decide +kernel
theorem dX12_lay_44 : decode cX12_lay 44 = .ok (.iastore, 1) := by decide +kernel
theorem dX12_lay_45 : decode cX12_lay 45 = .ok (.aload_n 0, 1) := by decide +kernel
theorem dX12_lay_46 : decode cX12_lay 46 = .ok (.getfield 69, 3) := by decide +kernel
theorem dX12_lay_49 : decode cX12_lay 49 = .ok (.iload_n 1, 1) := by decide +kernel
theorem dX12_lay_50 : decode cX12_lay 50 = .ok (.iaload, 1) := by decide +kernel
theorem dX12_lay_51 : decode cX12_lay 51 = .ok (.istore_n 2, 1) := by decide +kernel
theorem dX12_lay_52 : decode cX12_lay 52 = .ok (.aload_n 0, 1) := by decide +kernel
theorem dX12_lay_53 : decode cX12_lay 53 = .ok (.getfield 48, 3) := by decide +kernel
theorem dX12_lay_56 : decode cX12_lay 56 = .ok (.iload_n 1, 1) := by decide +kernel
theorem dX12_lay_57 : decode cX12_lay 57 = .ok (.bipush (-2), 2) := by decide +kernel
theorem dX12_lay_59 : decode cX12_lay 59 = .ok (.iastore, 1) := by decide +kernel
theorem dX12_lay_60 : decode cX12_lay 60 = .ok (.aload_n 0, 1) := by decide +kernel
theorem dX12_lay_61 : decode cX12_lay 61 = .ok (.iload_n 1, 1) := by decide +kernel
theorem dX12_lay_62 : decode cX12_lay 62 = .ok (.invokevirtual 146, 3) := by decide +kernel
theorem dX12_lay_65 : decode cX12_lay 65 = .ok (.ifCond .lt 30, 3) := by decide +kernel
theorem dX12_lay_68 : decode cX12_lay 68 = .ok (.aload_n 0, 1) := by decide +kernel
theorem dX12_lay_69 : decode cX12_lay 69 = .ok (.iload_n 1, 1) := by decide +kernel
theorem dX12_lay_70 : decode cX12_lay 70 = .ok (.iload_n 2, 1) := by decide +kernel
theorem dX12_lay_71 : decode cX12_lay 71 = .ok (.invokevirtual 222, 3) := by decide +kernel
theorem dX12_lay_74 : decode cX12_lay 74 = .ok (.ifCond .ge 9, 3) := by decide +kernel
theorem dX12_lay_77 : decode cX12_lay 77 = .ok (.iinc 2 1, 3) := by decide +kernel
theorem dX12_lay_80 : decode cX12_lay 80 = .ok (.goto (-12), 3) := by decide +kernel
theorem dX12_lay_83 : decode cX12_lay 83 = .ok (.aload_n 0, 1) := by decide +kernel
theorem dX12_lay_84 : decode cX12_lay 84 = .ok (.getfield 48, 3) := by decide +kernel
theorem dX12_lay_87 : decode cX12_lay 87 = .ok (.iload_n 1, 1) := by decide +kernel
theorem dX12_lay_88 : decode cX12_lay 88 = .ok (.aload_n 0, 1) := by decide +kernel
theorem dX12_lay_89 : decode cX12_lay 89 = .ok (.iload_n 1, 1) := by decide +kernel
theorem dX12_lay_90 : decode cX12_lay 90 = .ok (.iload_n 2, 1) := by decide +kernel
theorem dX12_lay_91 : decode cX12_lay 91 = .ok (.invokevirtual 222, 3) := by decide +kernel
theorem dX12_lay_94 : decode cX12_lay 94 = .ok (.iastore, 1) := by decide +kernel
theorem dX12_lay_95 : decode cX12_lay 95 = .ok (.aload_n 0, 1) := by decide +kernel
theorem dX12_lay_96 : decode cX12_lay 96 = .ok (.getfield 45, 3) := by decide +kernel
theorem dX12_lay_99 : decode cX12_lay 99 = .ok (.iload_n 1, 1) := by decide +kernel
theorem dX12_lay_100 : decode cX12_lay 100 = .ok (.iload_n 2, 1) := by decide +kernel
theorem dX12_lay_101 : decode cX12_lay 101 = .ok (.iastore, 1) := by decide +kernel
theorem dX12_lay_102 : decode cX12_lay 102 = .ok (.aload_n 0, 1) := by decide +kernel
theorem dX12_lay_103 : decode cX12_lay 103 = .ok (.iload_n 2, 1) := by decide +kernel
theorem dX12_lay_104 : decode cX12_lay 104 = .ok (.aload_n 0, 1) := by decide +kernel
theorem dX12_lay_105 : decode cX12_lay 105 = .ok (.iload_n 1, 1) := by decide +kernel
theorem dX12_lay_106 : decode cX12_lay 106 = .ok (.invokevirtual 168, 3) := by decide +kernel
theorem dX12_lay_109 : decode cX12_lay 109 = .ok (.iadd, 1) := by decide +kernel
theorem dX12_lay_110 : decode cX12_lay 110 = .ok (.aload_n 0, 1) := by decide +kernel
theorem dX12_lay_111 : decode cX12_lay 111 = .ok (.getfield 210, 3) := by decide +kernel
theorem dX12_lay_114 : decode cX12_lay 114 = .ok (.if_icmp .le 13, 3) := by decide +kernel
theorem dX12_lay_117 : decode cX12_lay 117 = .ok (.iload_n 2, 1) := by decide +kernel
theorem dX12_lay_118 : decode cX12_lay 118 = .ok (.aload_n 0, 1) := by decide +kernel
theorem dX12_lay_119 : decode cX12_lay 119 = .ok (.iload_n 1, 1) := by decide +kernel
theorem dX12_lay_120 : decode cX12_lay 120 = .ok (.invokevirtual 168, 3) := by decide +kernel
theorem dX12_lay_123 : decode cX12_lay 123 = .ok (.iadd, 1) := by decide +kernel
theorem dX12_lay_124 : decode cX12_lay 124 = .ok (.goto 7, 3) := by decide +kernel
theorem dX12_lay_127 : decode cX12_lay 127 = .ok (.aload_n 0, 1) := by decide +kernel
theorem dX12_lay_128 : decode cX12_lay 128 = .ok (.getfield 210, 3) := by decide +kernel
theorem dX12_lay_131 : decode cX12_lay 131 = .ok (.putfield 210, 3) := by decide +kernel
theorem dX12_lay_134 : decode cX12_lay 134 = .ok (.iinc 1 1, 3) := by decide +kernel
theorem dX12_lay_137 : decode cX12_lay 137 = .ok (.goto (-111), 3) := by decide +kernel
theorem dX12_lay_140 : decode cX12_lay 140 = .ok (.aload_n 0, 1) := by decide +kernel
theorem dX12_lay_141 : decode cX12_lay 141 = .ok (.invokevirtual 225, 3) := by decide +kernel
theorem dX12_lay_144 : decode cX12_lay 144 = .ok (.aload_n 0, 1) := by decide +kernel
theorem dX12_lay_145 : decode cX12_lay 145 = .ok (.iconst 1, 1) := by decide +kernel
theorem dX12_lay_146 : decode cX12_lay 146 = .ok (.putfield 106, 3) := by decide +kernel
theorem dX12_lay_149 : decode cX12_lay 149 = .ok (.aload_n 0, 1) := by decide +kernel
theorem dX12_lay_150 : decode cX12_lay 150 = .ok (.getfield 210, 3) := by decide +kernel
theorem dX12_lay_153 : decode cX12_lay 153 = .ok (.ireturn, 1) := by decide +kernel
theorem dX12_justBehind_0 : decode cX12_justBehind 0 = .ok (.iconst 0, 1) := by decide +kernel
theorem dX12_justBehind_1 : decode cX12_justBehind 1 = .ok (.istore_n 2, 1) := by decide +kernel
theorem dX12_justBehind_2 : decode cX12_justBehind 2 = .ok (.iload_n 2, 1) := by decide +kernel
theorem dX12_justBehind_3 : decode cX12_justBehind 3 = .ok (.iload_n 1, 1) := by decide +kernel
theorem dX12_justBehind_4 : decode cX12_justBehind 4 = .ok (.if_icmp .ge 39, 3) := by decide +kernel
theorem dX12_justBehind_7 : decode cX12_justBehind 7 = .ok (.aload_n 0, 1) := by decide +kernel
theorem dX12_justBehind_8 : decode cX12_justBehind 8 = .ok (.iload_n 2, 1) := by decide +kernel
theorem dX12_justBehind_9 : decode cX12_justBehind 9 = .ok (.iload_n 1, 1) := by decide +kernel
theorem dX12_justBehind_10 : decode cX12_justBehind 10 = .ok (.invokevirtual 187, 3) := by decide +kernel
theorem dX12_justBehind_13 : decode cX12_justBehind 13 = .ok (.istore_n 3, 1) := by decide +kernel
theorem dX12_justBehind_14 : decode cX12_justBehind 14 = .ok (.iload_n 3, 1) := by decide +kernel
theorem dX12_justBehind_15 : decode cX12_justBehind 15 = .ok (.ifCond .le 22, 3) := by decide +kernel
theorem dX12_justBehind_18 : decode cX12_justBehind 18 = .ok (.aload_n 0, 1) := by decide +kernel
theorem dX12_justBehind_19 : decode cX12_justBehind 19 = .ok (.getfield 45, 3) := by decide +kernel
theorem dX12_justBehind_22 : decode cX12_justBehind 22 = .ok (.iload_n 1, 1) := by decide +kernel
theorem dX12_justBehind_23 : decode cX12_justBehind 23 = .ok (.iaload, 1) := by decide +kernel
theorem dX12_justBehind_24 : decode cX12_justBehind 24 = .ok (.aload_n 0, 1) := by decide +kernel
theorem dX12_justBehind_25 : decode cX12_justBehind 25 = .ok (.getfield 45, 3) := by decide +kernel
theorem dX12_justBehind_28 : decode cX12_justBehind 28 = .ok (.iload_n 2, 1) := by decide +kernel
theorem dX12_justBehind_29 : decode cX12_justBehind 29 = .ok (.iaload, 1) := by decide +kernel
theorem dX12_justBehind_30 : decode cX12_justBehind 30 = .ok (.isub, 1) := by decide +kernel
theorem dX12_justBehind_31 : decode cX12_justBehind 31 = .ok (.iload_n 3, 1) := by decide +kernel
theorem dX12_justBehind_32 : decode cX12_justBehind 32 = .ok (.if_icmp .ne 5, 3) := by decide +kernel
theorem dX12_justBehind_35 : decode cX12_justBehind 35 = .ok (.iload_n 2, 1) := by decide +kernel
theorem dX12_justBehind_36 : decode cX12_justBehind 36 = .ok (.ireturn, 1) := by decide +kernel
theorem dX12_justBehind_37 : decode cX12_justBehind 37 = .ok (.iinc 2 1, 3) := by decide +kernel
theorem dX12_justBehind_40 : decode cX12_justBehind 40 = .ok (.goto (-38), 3) := by decide +kernel
theorem dX12_justBehind_43 : decode cX12_justBehind 43 = .ok (.bipush (-2), 2) := by decide +kernel
theorem dX12_justBehind_45 : decode cX12_justBehind 45 = .ok (.ireturn, 1) := by decide +kernel
theorem dX12_tick_0 : decode cX12_tick 0 = .ok (.aload_n 0, 1) := by decide +kernel
theorem dX12_tick_1 : decode cX12_tick 1 = .ok (.iconst 0, 1) := by decide +kernel
theorem dX12_tick_2 : decode cX12_tick 2 = .ok (.putfield 99, 3) := by decide +kernel
theorem dX12_tick_5 : decode cX12_tick 5 = .ok (.aload_n 0, 1) := by decide +kernel
theorem dX12_tick_6 : decode cX12_tick 6 = .ok (.iload_n 1, 1) := by decide +kernel
theorem dX12_tick_7 : decode cX12_tick 7 = .ok (.invokevirtual 132, 3) := by decide +kernel
theorem dX12_tick_10 : decode cX12_tick 10 = .ok (.ifCond .eq 15, 3) := by decide +kernel
theorem dX12_tick_13 : decode cX12_tick 13 = .ok (.iload_n 2, 1) := by decide +kernel
theorem dX12_tick_14 : decode cX12_tick 14 = .ok (.i2l, 1) := by decide +kernel
theorem dX12_tick_15 : decode cX12_tick 15 = .ok (.lconst 0, 1) := by decide +kernel
theorem dX12_tick_16 : decode cX12_tick 16 = .ok (.ldc2_w 138, 3) := by decide +kernel
theorem dX12_tick_19 : decode cX12_tick 19 = .ok (.invokestatic 118, 3) := by decide +kernel
theorem dX12_tick_22 : decode cX12_tick 22 = .ok (.ifCond .ne 5, 3) := by decide +kernel
theorem dX12_tick_25 : decode cX12_tick 25 = .ok (.iconst (-1), 1) := by decide +kernel
theorem dX12_tick_26 : decode cX12_tick 26 = .ok (.ireturn, 1) := by decide +kernel
theorem dX12_tick_27 : decode cX12_tick 27 = .ok (.aload_n 0, 1) := by decide +kernel
theorem dX12_tick_28 : decode cX12_tick 28 = .ok (.getfield 106, 3) := by decide +kernel
theorem dX12_tick_31 : decode cX12_tick 31 = .ok (.ifCond .ne 6, 3) := by decide +kernel
theorem dX12_tick_34 : decode cX12_tick 34 = .ok (.bipush (-3), 2) := by decide +kernel
theorem dX12_tick_36 : decode cX12_tick 36 = .ok (.ireturn, 1) := by decide +kernel
theorem dX12_tick_37 : decode cX12_tick 37 = .ok (.aload_n 0, 1) := by decide +kernel
theorem dX12_tick_38 : decode cX12_tick 38 = .ok (.invokevirtual 171, 3) := by decide +kernel
theorem dX12_tick_41 : decode cX12_tick 41 = .ok (.iload_n 2, 1) := by decide +kernel
theorem dX12_tick_42 : decode cX12_tick 42 = .ok (.tableswitch 105 0 5 #[38, 45, 52, 58, 79, 86], 38) := by decide +kernel
theorem dX12_tick_80 : decode cX12_tick 80 = .ok (.aload_n 0, 1) := by decide +kernel
theorem dX12_tick_81 : decode cX12_tick 81 = .ok (.getfield 45, 3) := by decide +kernel
theorem dX12_tick_84 : decode cX12_tick 84 = .ok (.iload_n 1, 1) := by decide +kernel
theorem dX12_tick_85 : decode cX12_tick 85 = .ok (.iaload, 1) := by decide +kernel
theorem dX12_tick_86 : decode cX12_tick 86 = .ok (.ireturn, 1) := by decide +kernel
theorem dX12_tick_87 : decode cX12_tick 87 = .ok (.aload_n 0, 1) := by decide +kernel
theorem dX12_tick_88 : decode cX12_tick 88 = .ok (.getfield 48, 3) := by decide +kernel
theorem dX12_tick_91 : decode cX12_tick 91 = .ok (.iload_n 1, 1) := by decide +kernel
theorem dX12_tick_92 : decode cX12_tick 92 = .ok (.iaload, 1) := by decide +kernel
theorem dX12_tick_93 : decode cX12_tick 93 = .ok (.ireturn, 1) := by decide +kernel
theorem dX12_tick_94 : decode cX12_tick 94 = .ok (.aload_n 0, 1) := by decide +kernel
theorem dX12_tick_95 : decode cX12_tick 95 = .ok (.iload_n 1, 1) := by decide +kernel
theorem dX12_tick_96 : decode cX12_tick 96 = .ok (.invokevirtual 228, 3) := by decide +kernel
theorem dX12_tick_99 : decode cX12_tick 99 = .ok (.ireturn, 1) := by decide +kernel
theorem dX12_tick_100 : decode cX12_tick 100 = .ok (.aload_n 0, 1) := by decide +kernel
theorem dX12_tick_101 : decode cX12_tick 101 = .ok (.getfield 45, 3) := by decide +kernel
theorem dX12_tick_104 : decode cX12_tick 104 = .ok (.iload_n 1, 1) := by decide +kernel
theorem dX12_tick_105 : decode cX12_tick 105 = .ok (.iaload, 1) := by decide +kernel
theorem dX12_tick_106 : decode cX12_tick 106 = .ok (.aload_n 0, 1) := by decide +kernel
theorem dX12_tick_107 : decode cX12_tick 107 = .ok (.getfield 69, 3) := by decide +kernel
theorem dX12_tick_110 : decode cX12_tick 110 = .ok (.iload_n 1, 1) := by decide +kernel
theorem dX12_tick_111 : decode cX12_tick 111 = .ok (.iaload, 1) := by decide +kernel
theorem dX12_tick_112 : decode cX12_tick 112 = .ok (.if_icmp .le 7, 3) := by decide +kernel
theorem dX12_tick_115 : decode cX12_tick 115 = .ok (.iconst 1, 1) := by decide +kernel
theorem dX12_tick_116 : decode cX12_tick 116 = .ok (.goto 4, 3) := by decide +kernel
theorem dX12_tick_119 : decode cX12_tick 119 = .ok (.iconst 0, 1) := by decide +kernel
theorem dX12_tick_120 : decode cX12_tick 120 = .ok (.ireturn, 1) := by decide +kernel
theorem dX12_tick_121 : decode cX12_tick 121 = .ok (.aload_n 0, 1) := by decide +kernel
theorem dX12_tick_122 : decode cX12_tick 122 = .ok (.getfield 51, 3) := by decide +kernel
theorem dX12_tick_125 : decode cX12_tick 125 = .ok (.iload_n 1, 1) := by decide +kernel
theorem dX12_tick_126 : decode cX12_tick 126 = .ok (.iaload, 1) := by decide +kernel
theorem dX12_tick_127 : decode cX12_tick 127 = .ok (.ireturn, 1) := by decide +kernel
theorem dX12_tick_128 : decode cX12_tick 128 = .ok (.aload_n 0, 1) := by decide +kernel
theorem dX12_tick_129 : decode cX12_tick 129 = .ok (.iload_n 1, 1) := by decide +kernel
theorem dX12_tick_130 : decode cX12_tick 130 = .ok (.invokevirtual 213, 3) := by decide +kernel
theorem dX12_tick_133 : decode cX12_tick 133 = .ok (.ifCond .eq 11, 3) := by decide +kernel
theorem dX12_tick_136 : decode cX12_tick 136 = .ok (.aload_n 0, 1) := by decide +kernel
theorem dX12_tick_137 : decode cX12_tick 137 = .ok (.iload_n 1, 1) := by decide +kernel
theorem dX12_tick_138 : decode cX12_tick 138 = .ok (.invokevirtual 198, 3) := by decide +kernel
theorem dX12_tick_141 : decode cX12_tick 141 = .ok (.goto 5, 3) := by decide +kernel
theorem dX12_tick_144 : decode cX12_tick 144 = .ok (.bipush (-2), 2) := by decide +kernel
theorem dX12_tick_146 : decode cX12_tick 146 = .ok (.ireturn, 1) := by decide +kernel
theorem dX12_tick_147 : decode cX12_tick 147 = .ok (.aload_n 0, 1) := by decide +kernel
theorem dX12_tick_148 : decode cX12_tick 148 = .ok (.iload_n 1, 1) := by decide +kernel
theorem dX12_tick_149 : decode cX12_tick 149 = .ok (.invokevirtual 213, 3) := by decide +kernel
theorem dX12_tick_152 : decode cX12_tick 152 = .ok (.ifCond .eq 11, 3) := by decide +kernel
theorem dX12_tick_155 : decode cX12_tick 155 = .ok (.aload_n 0, 1) := by decide +kernel
theorem dX12_tick_156 : decode cX12_tick 156 = .ok (.iload_n 1, 1) := by decide +kernel
theorem dX12_tick_157 : decode cX12_tick 157 = .ok (.invokevirtual 201, 3) := by decide +kernel
theorem dX12_tick_160 : decode cX12_tick 160 = .ok (.goto 5, 3) := by decide +kernel
theorem dX12_tick_163 : decode cX12_tick 163 = .ok (.bipush (-2), 2) := by decide +kernel
theorem dX12_tick_165 : decode cX12_tick 165 = .ok (.ireturn, 1) := by decide +kernel
theorem dX12_freeTicks_0 : decode cX12_freeTicks 0 = .ok (.aload_n 0, 1) := by decide +kernel
theorem dX12_freeTicks_1 : decode cX12_freeTicks 1 = .ok (.invokevirtual 171, 3) := by decide +kernel
theorem dX12_freeTicks_4 : decode cX12_freeTicks 4 = .ok (.iconst 0, 1) := by decide +kernel
theorem dX12_freeTicks_5 : decode cX12_freeTicks 5 = .ok (.istore_n 1, 1) := by decide +kernel
theorem dX12_freeTicks_6 : decode cX12_freeTicks 6 = .ok (.iconst 0, 1) := by decide +kernel
theorem dX12_freeTicks_7 : decode cX12_freeTicks 7 = .ok (.istore_n 2, 1) := by decide +kernel
theorem dX12_freeTicks_8 : decode cX12_freeTicks 8 = .ok (.iload_n 2, 1) := by decide +kernel
theorem dX12_freeTicks_9 : decode cX12_freeTicks 9 = .ok (.aload_n 0, 1) := by decide +kernel
theorem dX12_freeTicks_10 : decode cX12_freeTicks 10 = .ok (.getfield 103, 3) := by decide +kernel
theorem dX12_freeTicks_13 : decode cX12_freeTicks 13 = .ok (.if_icmp .ge 21, 3) := by decide +kernel
theorem dX12_freeTicks_16 : decode cX12_freeTicks 16 = .ok (.aload_n 0, 1) := by decide +kernel
theorem dX12_freeTicks_17 : decode cX12_freeTicks 17 = .ok (.getfield 72, 3) := by decide +kernel
theorem dX12_freeTicks_20 : decode cX12_freeTicks 20 = .ok (.iload_n 2, 1) := by decide +kernel
theorem dX12_freeTicks_21 : decode cX12_freeTicks 21 = .ok (.aload_n 0, 1) := by decide +kernel
theorem dX12_freeTicks_22 : decode cX12_freeTicks 22 = .ok (.getfield 45, 3) := by decide +kernel
theorem dX12_freeTicks_25 : decode cX12_freeTicks 25 = .ok (.iload_n 2, 1) := by decide +kernel
theorem dX12_freeTicks_26 : decode cX12_freeTicks 26 = .ok (.iaload, 1) := by decide +kernel
theorem dX12_freeTicks_27 : decode cX12_freeTicks 27 = .ok (.iastore, 1) := by decide +kernel
theorem dX12_freeTicks_28 : decode cX12_freeTicks 28 = .ok (.iinc 2 1, 3) := by decide +kernel
theorem dX12_freeTicks_31 : decode cX12_freeTicks 31 = .ok (.goto (-23), 3) := by decide +kernel
theorem dX12_freeTicks_34 : decode cX12_freeTicks 34 = .ok (.iconst 0, 1) := by decide +kernel
theorem dX12_freeTicks_35 : decode cX12_freeTicks 35 = .ok (.istore_n 2, 1) := by decide +kernel
theorem dX12_freeTicks_36 : decode cX12_freeTicks 36 = .ok (.iload_n 2, 1) := by decide +kernel
theorem dX12_freeTicks_37 : decode cX12_freeTicks 37 = .ok (.aload_n 0, 1) := by decide +kernel
theorem dX12_freeTicks_38 : decode cX12_freeTicks 38 = .ok (.getfield 103, 3) := by decide +kernel
theorem dX12_freeTicks_41 : decode cX12_freeTicks 41 = .ok (.if_icmp .ge 53, 3) := by decide +kernel
theorem dX12_freeTicks_44 : decode cX12_freeTicks 44 = .ok (.aload_n 0, 1) := by decide +kernel
theorem dX12_freeTicks_45 : decode cX12_freeTicks 45 = .ok (.getfield 45, 3) := by decide +kernel
theorem dX12_freeTicks_48 : decode cX12_freeTicks 48 = .ok (.iload_n 2, 1) := by decide +kernel
theorem dX12_freeTicks_49 : decode cX12_freeTicks 49 = .ok (.aload_n 0, 1) := by decide +kernel
theorem dX12_freeTicks_50 : decode cX12_freeTicks 50 = .ok (.iload_n 2, 1) := by decide +kernel
theorem dX12_freeTicks_51 : decode cX12_freeTicks 51 = .ok (.invokevirtual 219, 3) := by decide +kernel
theorem dX12_freeTicks_54 : decode cX12_freeTicks 54 = .ok (.iastore, 1) := by decide +kernel
theorem dX12_freeTicks_55 : decode cX12_freeTicks 55 = .ok (.aload_n 0, 1) := by decide +kernel
theorem dX12_freeTicks_56 : decode cX12_freeTicks 56 = .ok (.getfield 45, 3) := by decide +kernel
theorem dX12_freeTicks_59 : decode cX12_freeTicks 59 = .ok (.iload_n 2, 1) := by decide +kernel
theorem dX12_freeTicks_60 : decode cX12_freeTicks 60 = .ok (.iaload, 1) := by decide +kernel
theorem dX12_freeTicks_61 : decode cX12_freeTicks 61 = .ok (.aload_n 0, 1) := by decide +kernel
theorem dX12_freeTicks_62 : decode cX12_freeTicks 62 = .ok (.iload_n 2, 1) := by decide +kernel
theorem dX12_freeTicks_63 : decode cX12_freeTicks 63 = .ok (.invokevirtual 168, 3) := by decide +kernel
theorem dX12_freeTicks_66 : decode cX12_freeTicks 66 = .ok (.iadd, 1) := by decide +kernel
theorem dX12_freeTicks_67 : decode cX12_freeTicks 67 = .ok (.iload_n 1, 1) := by decide +kernel
theorem dX12_freeTicks_68 : decode cX12_freeTicks 68 = .ok (.if_icmp .le 18, 3) := by decide +kernel
theorem dX12_freeTicks_71 : decode cX12_freeTicks 71 = .ok (.aload_n 0, 1) := by decide +kernel
theorem dX12_freeTicks_72 : decode cX12_freeTicks 72 = .ok (.getfield 45, 3) := by decide +kernel
theorem dX12_freeTicks_75 : decode cX12_freeTicks 75 = .ok (.iload_n 2, 1) := by decide +kernel
theorem dX12_freeTicks_76 : decode cX12_freeTicks 76 = .ok (.iaload, 1) := by decide +kernel
theorem dX12_freeTicks_77 : decode cX12_freeTicks 77 = .ok (.aload_n 0, 1) := by decide +kernel
theorem dX12_freeTicks_78 : decode cX12_freeTicks 78 = .ok (.iload_n 2, 1) := by decide +kernel
theorem dX12_freeTicks_79 : decode cX12_freeTicks 79 = .ok (.invokevirtual 168, 3) := by decide +kernel
theorem dX12_freeTicks_82 : decode cX12_freeTicks 82 = .ok (.iadd, 1) := by decide +kernel
theorem dX12_freeTicks_83 : decode cX12_freeTicks 83 = .ok (.goto 4, 3) := by decide +kernel
theorem dX12_freeTicks_86 : decode cX12_freeTicks 86 = .ok (.iload_n 1, 1) := by decide +kernel
theorem dX12_freeTicks_87 : decode cX12_freeTicks 87 = .ok (.istore_n 1, 1) := by decide +kernel
theorem dX12_freeTicks_88 : decode cX12_freeTicks 88 = .ok (.iinc 2 1, 3) := by decide +kernel
theorem dX12_freeTicks_91 : decode cX12_freeTicks 91 = .ok (.goto (-55), 3) := by decide +kernel
theorem dX12_freeTicks_94 : decode cX12_freeTicks 94 = .ok (.iconst 0, 1) := by decide +kernel
theorem dX12_freeTicks_95 : decode cX12_freeTicks 95 = .ok (.istore_n 2, 1) := by decide +kernel
theorem dX12_freeTicks_96 : decode cX12_freeTicks 96 = .ok (.iload_n 2, 1) := by decide +kernel
theorem dX12_freeTicks_97 : decode cX12_freeTicks 97 = .ok (.aload_n 0, 1) := by decide +kernel
theorem dX12_freeTicks_98 : decode cX12_freeTicks 98 = .ok (.getfield 103, 3) := by decide +kernel
theorem dX12_freeTicks_101 : decode cX12_freeTicks 101 = .ok (.if_icmp .ge 21, 3) := by decide +kernel
theorem dX12_freeTicks_104 : decode cX12_freeTicks 104 = .ok (.aload_n 0, 1) := by decide +kernel
theorem dX12_freeTicks_105 : decode cX12_freeTicks 105 = .ok (.getfield 45, 3) := by decide +kernel
theorem dX12_freeTicks_108 : decode cX12_freeTicks 108 = .ok (.iload_n 2, 1) := by decide +kernel
theorem dX12_freeTicks_109 : decode cX12_freeTicks 109 = .ok (.aload_n 0, 1) := by decide +kernel
theorem dX12_freeTicks_110 : decode cX12_freeTicks 110 = .ok (.getfield 72, 3) := by decide +kernel
theorem dX12_freeTicks_113 : decode cX12_freeTicks 113 = .ok (.iload_n 2, 1) := by decide +kernel
theorem dX12_freeTicks_114 : decode cX12_freeTicks 114 = .ok (.iaload, 1) := by decide +kernel
theorem dX12_freeTicks_115 : decode cX12_freeTicks 115 = .ok (.iastore, 1) := by decide +kernel
theorem dX12_freeTicks_116 : decode cX12_freeTicks 116 = .ok (.iinc 2 1, 3) := by decide +kernel
theorem dX12_freeTicks_119 : decode cX12_freeTicks 119 = .ok (.goto (-23), 3) := by decide +kernel
theorem dX12_freeTicks_122 : decode cX12_freeTicks 122 = .ok (.iload_n 1, 1) := by decide +kernel
theorem dX12_freeTicks_123 : decode cX12_freeTicks 123 = .ok (.ireturn, 1) := by decide +kernel
theorem dX12_filled_0 : decode cX12_filled 0 = .ok (.iconst 0, 1) := by decide +kernel
theorem dX12_filled_1 : decode cX12_filled 1 = .ok (.istore_n 2, 1) := by decide +kernel
theorem dX12_filled_2 : decode cX12_filled 2 = .ok (.iconst 0, 1) := by decide +kernel
theorem dX12_filled_3 : decode cX12_filled 3 = .ok (.istore_n 3, 1) := by decide +kernel
theorem dX12_filled_4 : decode cX12_filled 4 = .ok (.iload_n 3, 1) := by decide +kernel
theorem dX12_filled_5 : decode cX12_filled 5 = .ok (.aload_n 0, 1) := by decide +kernel
theorem dX12_filled_6 : decode cX12_filled 6 = .ok (.getfield 103, 3) := by decide +kernel
theorem dX12_filled_9 : decode cX12_filled 9 = .ok (.if_icmp .ge 30, 3) := by decide +kernel
theorem dX12_filled_12 : decode cX12_filled 12 = .ok (.iload_n 2, 1) := by decide +kernel
theorem dX12_filled_13 : decode cX12_filled 13 = .ok (.aload_n 0, 1) := by decide +kernel
theorem dX12_filled_14 : decode cX12_filled 14 = .ok (.iload_n 3, 1) := by decide +kernel
theorem dX12_filled_15 : decode cX12_filled 15 = .ok (.invokevirtual 146, 3) := by decide +kernel
theorem dX12_filled_18 : decode cX12_filled 18 = .ok (.iload_n 1, 1) := by decide +kernel
theorem dX12_filled_19 : decode cX12_filled 19 = .ok (.if_icmp .ne 11, 3) := by decide +kernel
theorem dX12_filled_22 : decode cX12_filled 22 = .ok (.aload_n 0, 1) := by decide +kernel
theorem dX12_filled_23 : decode cX12_filled 23 = .ok (.iload_n 3, 1) := by decide +kernel
theorem dX12_filled_24 : decode cX12_filled 24 = .ok (.invokevirtual 191, 3) := by decide +kernel
theorem dX12_filled_27 : decode cX12_filled 27 = .ok (.goto 4, 3) := by decide +kernel
theorem dX12_filled_30 : decode cX12_filled 30 = .ok (.iconst 0, 1) := by decide +kernel
theorem dX12_filled_31 : decode cX12_filled 31 = .ok (.iadd, 1) := by decide +kernel
theorem dX12_filled_32 : decode cX12_filled 32 = .ok (.istore_n 2, 1) := by decide +kernel
theorem dX12_filled_33 : decode cX12_filled 33 = .ok (.iinc 3 1, 3) := by decide +kernel
theorem dX12_filled_36 : decode cX12_filled 36 = .ok (.goto (-32), 3) := by decide +kernel
theorem dX12_filled_39 : decode cX12_filled 39 = .ok (.iload_n 2, 1) := by decide +kernel
theorem dX12_filled_40 : decode cX12_filled 40 = .ok (.aload_n 0, 1) := by decide +kernel
theorem dX12_filled_41 : decode cX12_filled 41 = .ok (.getfield 26, 3) := by decide +kernel
theorem dX12_filled_44 : decode cX12_filled 44 = .ok (.iload_n 1, 1) := by decide +kernel
theorem dX12_filled_45 : decode cX12_filled 45 = .ok (.iaload, 1) := by decide +kernel
theorem dX12_filled_46 : decode cX12_filled 46 = .ok (.iadd, 1) := by decide +kernel
theorem dX12_filled_47 : decode cX12_filled 47 = .ok (.iconst 1, 1) := by decide +kernel
theorem dX12_filled_48 : decode cX12_filled 48 = .ok (.isub, 1) := by decide +kernel
theorem dX12_filled_49 : decode cX12_filled 49 = .ok (.aload_n 0, 1) := by decide +kernel
theorem dX12_filled_50 : decode cX12_filled 50 = .ok (.getfield 26, 3) := by decide +kernel
theorem dX12_filled_53 : decode cX12_filled 53 = .ok (.iload_n 1, 1) := by decide +kernel
theorem dX12_filled_54 : decode cX12_filled 54 = .ok (.iaload, 1) := by decide +kernel
theorem dX12_filled_55 : decode cX12_filled 55 = .ok (.idiv, 1) := by decide +kernel
theorem dX12_filled_56 : decode cX12_filled 56 = .ok (.ireturn, 1) := by decide +kernel
theorem dX12_bound_0 : decode cX12_bound 0 = .ok (.aload_n 0, 1) := by decide +kernel
theorem dX12_bound_1 : decode cX12_bound 1 = .ok (.iconst 0, 1) := by decide +kernel
theorem dX12_bound_2 : decode cX12_bound 2 = .ok (.putfield 99, 3) := by decide +kernel
theorem dX12_bound_5 : decode cX12_bound 5 = .ok (.iload_n 1, 1) := by decide +kernel
theorem dX12_bound_6 : decode cX12_bound 6 = .ok (.i2l, 1) := by decide +kernel
theorem dX12_bound_7 : decode cX12_bound 7 = .ok (.lconst 0, 1) := by decide +kernel
theorem dX12_bound_8 : decode cX12_bound 8 = .ok (.ldc2_w 231, 3) := by decide +kernel
theorem dX12_bound_11 : decode cX12_bound 11 = .ok (.invokestatic 118, 3) := by decide +kernel
theorem dX12_bound_14 : decode cX12_bound 14 = .ok (.ifCond .ne 5, 3) := by decide +kernel
theorem dX12_bound_17 : decode cX12_bound 17 = .ok (.iconst (-1), 1) := by decide +kernel
theorem dX12_bound_18 : decode cX12_bound 18 = .ok (.ireturn, 1) := by decide +kernel
theorem dX12_bound_19 : decode cX12_bound 19 = .ok (.iload_n 1, 1) := by decide +kernel
theorem dX12_bound_20 : decode cX12_bound 20 = .ok (.iconst 5, 1) := by decide +kernel
theorem dX12_bound_21 : decode cX12_bound 21 = .ok (.if_icmp .ge 22, 3) := by decide +kernel
theorem dX12_bound_24 : decode cX12_bound 24 = .ok (.iload_n 1, 1) := by decide +kernel
theorem dX12_bound_25 : decode cX12_bound 25 = .ok (.ifCond .ne 10, 3) := by decide +kernel
theorem dX12_bound_28 : decode cX12_bound 28 = .ok (.aload_n 0, 1) := by decide +kernel
theorem dX12_bound_29 : decode cX12_bound 29 = .ok (.invokevirtual 233, 3) := by decide +kernel
theorem dX12_bound_32 : decode cX12_bound 32 = .ok (.goto 10, 3) := by decide +kernel
theorem dX12_bound_35 : decode cX12_bound 35 = .ok (.aload_n 0, 1) := by decide +kernel
theorem dX12_bound_36 : decode cX12_bound 36 = .ok (.iload_n 1, 1) := by decide +kernel
theorem dX12_bound_37 : decode cX12_bound 37 = .ok (.iconst 1, 1) := by decide +kernel
theorem dX12_bound_38 : decode cX12_bound 38 = .ok (.isub, 1) := by decide +kernel
theorem dX12_bound_39 : decode cX12_bound 39 = .ok (.invokevirtual 237, 3) := by decide +kernel
theorem dX12_bound_42 : decode cX12_bound 42 = .ok (.ireturn, 1) := by decide +kernel
theorem dX12_bound_43 : decode cX12_bound 43 = .ok (.aload_n 0, 1) := by decide +kernel
theorem dX12_bound_44 : decode cX12_bound 44 = .ok (.invokevirtual 233, 3) := by decide +kernel
theorem dX12_bound_47 : decode cX12_bound 47 = .ok (.istore_n 2, 1) := by decide +kernel
theorem dX12_bound_48 : decode cX12_bound 48 = .ok (.iconst 0, 1) := by decide +kernel
theorem dX12_bound_49 : decode cX12_bound 49 = .ok (.istore_n 3, 1) := by decide +kernel
theorem dX12_bound_50 : decode cX12_bound 50 = .ok (.iload_n 3, 1) := by decide +kernel
theorem dX12_bound_51 : decode cX12_bound 51 = .ok (.iconst 4, 1) := by decide +kernel
theorem dX12_bound_52 : decode cX12_bound 52 = .ok (.if_icmp .ge 28, 3) := by decide +kernel
theorem dX12_bound_55 : decode cX12_bound 55 = .ok (.aload_n 0, 1) := by decide +kernel
theorem dX12_bound_56 : decode cX12_bound 56 = .ok (.iload_n 3, 1) := by decide +kernel
theorem dX12_bound_57 : decode cX12_bound 57 = .ok (.invokevirtual 237, 3) := by decide +kernel
theorem dX12_bound_60 : decode cX12_bound 60 = .ok (.iload_n 2, 1) := by decide +kernel
theorem dX12_bound_61 : decode cX12_bound 61 = .ok (.if_icmp .le 11, 3) := by decide +kernel
theorem dX12_bound_64 : decode cX12_bound 64 = .ok (.aload_n 0, 1) := by decide +kernel
theorem dX12_bound_65 : decode cX12_bound 65 = .ok (.iload_n 3, 1) := by decide +kernel
theorem dX12_bound_66 : decode cX12_bound 66 = .ok (.invokevirtual 237, 3) := by decide +kernel
theorem dX12_bound_69 : decode cX12_bound 69 = .ok (.goto 4, 3) := by decide +kernel
theorem dX12_bound_72 : decode cX12_bound 72 = .ok (.iload_n 2, 1) := by decide +kernel
theorem dX12_bound_73 : decode cX12_bound 73 = .ok (.istore_n 2, 1) := by decide +kernel
theorem dX12_bound_74 : decode cX12_bound 74 = .ok (.iinc 3 1, 3) := by decide +kernel
theorem dX12_bound_77 : decode cX12_bound 77 = .ok (.goto (-27), 3) := by decide +kernel
theorem dX12_bound_80 : decode cX12_bound 80 = .ok (.iload_n 2, 1) := by decide +kernel
theorem dX12_bound_81 : decode cX12_bound 81 = .ok (.ireturn, 1) := by decide +kernel
theorem dX12_registers_0 : decode cX12_registers 0 = .ok (.aload_n 0, 1) := by decide +kernel
theorem dX12_registers_1 : decode cX12_registers 1 = .ok (.iconst 0, 1) := by decide +kernel
theorem dX12_registers_2 : decode cX12_registers 2 = .ok (.putfield 99, 3) := by decide +kernel
theorem dX12_registers_5 : decode cX12_registers 5 = .ok (.aload_n 0, 1) := by decide +kernel
theorem dX12_registers_6 : decode cX12_registers 6 = .ok (.getfield 106, 3) := by decide +kernel
theorem dX12_registers_9 : decode cX12_registers 9 = .ok (.ifCond .eq 10, 3) := by decide +kernel
theorem dX12_registers_12 : decode cX12_registers 12 = .ok (.aload_n 0, 1) := by decide +kernel
theorem dX12_registers_13 : decode cX12_registers 13 = .ok (.getfield 207, 3) := by decide +kernel
theorem dX12_registers_16 : decode cX12_registers 16 = .ok (.goto 5, 3) := by decide +kernel
theorem dX12_registers_19 : decode cX12_registers 19 = .ok (.bipush (-3), 2) := by decide +kernel
theorem dX12_registers_21 : decode cX12_registers 21 = .ok (.ireturn, 1) := by decide +kernel
theorem dX12_source_0 : decode cX12_source 0 = .ok (.aload_n 0, 1) := by decide +kernel
theorem dX12_source_1 : decode cX12_source 1 = .ok (.getfield 16, 3) := by decide +kernel
theorem dX12_source_4 : decode cX12_source 4 = .ok (.iconst 3, 1) := by decide +kernel
theorem dX12_source_5 : decode cX12_source 5 = .ok (.iload_n 1, 1) := by decide +kernel
theorem dX12_source_6 : decode cX12_source 6 = .ok (.imul, 1) := by decide +kernel
theorem dX12_source_7 : decode cX12_source 7 = .ok (.iload_n 2, 1) := by decide +kernel
theorem dX12_source_8 : decode cX12_source 8 = .ok (.iadd, 1) := by decide +kernel
theorem dX12_source_9 : decode cX12_source 9 = .ok (.iaload, 1) := by decide +kernel
theorem dX12_source_10 : decode cX12_source 10 = .ok (.istore_n 3, 1) := by decide +kernel
theorem dX12_source_11 : decode cX12_source 11 = .ok (.iload_n 3, 1) := by decide +kernel
theorem dX12_source_12 : decode cX12_source 12 = .ok (.ifCond .ge 7, 3) := by decide +kernel
theorem dX12_source_15 : decode cX12_source 15 = .ok (.iconst (-1), 1) := by decide +kernel
theorem dX12_source_16 : decode cX12_source 16 = .ok (.goto 25, 3) := by decide +kernel
theorem dX12_source_19 : decode cX12_source 19 = .ok (.aload_n 0, 1) := by decide +kernel
theorem dX12_source_20 : decode cX12_source 20 = .ok (.getfield 7, 3) := by decide +kernel
theorem dX12_source_23 : decode cX12_source 23 = .ok (.iload_n 3, 1) := by decide +kernel
theorem dX12_source_24 : decode cX12_source 24 = .ok (.iaload, 1) := by decide +kernel
theorem dX12_source_25 : decode cX12_source 25 = .ok (.ifCond .ne 10, 3) := by decide +kernel
theorem dX12_source_28 : decode cX12_source 28 = .ok (.bipush 100, 2) := by decide +kernel
theorem dX12_source_30 : decode cX12_source 30 = .ok (.iload_n 3, 1) := by decide +kernel
theorem dX12_source_31 : decode cX12_source 31 = .ok (.iadd, 1) := by decide +kernel
theorem dX12_source_32 : decode cX12_source 32 = .ok (.goto 9, 3) := by decide +kernel
theorem dX12_source_35 : decode cX12_source 35 = .ok (.aload_n 0, 1) := by decide +kernel
theorem dX12_source_36 : decode cX12_source 36 = .ok (.getfield 51, 3) := by decide +kernel
theorem dX12_source_39 : decode cX12_source 39 = .ok (.iload_n 3, 1) := by decide +kernel
theorem dX12_source_40 : decode cX12_source 40 = .ok (.iaload, 1) := by decide +kernel
theorem dX12_source_41 : decode cX12_source 41 = .ok (.ireturn, 1) := by decide +kernel
theorem dX12_chooser_0 : decode cX12_chooser 0 = .ok (.aload_n 0, 1) := by decide +kernel
theorem dX12_chooser_1 : decode cX12_chooser 1 = .ok (.iconst 0, 1) := by decide +kernel
theorem dX12_chooser_2 : decode cX12_chooser 2 = .ok (.putfield 99, 3) := by decide +kernel
theorem dX12_chooser_5 : decode cX12_chooser 5 = .ok (.iload_n 1, 1) := by decide +kernel
theorem dX12_chooser_6 : decode cX12_chooser 6 = .ok (.i2l, 1) := by decide +kernel
theorem dX12_chooser_7 : decode cX12_chooser 7 = .ok (.lconst 0, 1) := by decide +kernel
theorem dX12_chooser_8 : decode cX12_chooser 8 = .ok (.ldc2_w 130, 3) := by decide +kernel
theorem dX12_chooser_11 : decode cX12_chooser 11 = .ok (.invokestatic 118, 3) := by decide +kernel
theorem dX12_chooser_14 : decode cX12_chooser 14 = .ok (.ifCond .eq 17, 3) := by decide +kernel
theorem dX12_chooser_17 : decode cX12_chooser 17 = .ok (.iload_n 2, 1) := by decide +kernel
theorem dX12_chooser_18 : decode cX12_chooser 18 = .ok (.ifCond .lt 13, 3) := by decide +kernel
theorem dX12_chooser_21 : decode cX12_chooser 21 = .ok (.iload_n 2, 1) := by decide +kernel
theorem dX12_chooser_22 : decode cX12_chooser 22 = .ok (.aload_n 0, 1) := by decide +kernel
theorem dX12_chooser_23 : decode cX12_chooser 23 = .ok (.getfield 26, 3) := by decide +kernel
theorem dX12_chooser_26 : decode cX12_chooser 26 = .ok (.iload_n 1, 1) := by decide +kernel
theorem dX12_chooser_27 : decode cX12_chooser 27 = .ok (.iaload, 1) := by decide +kernel
theorem dX12_chooser_28 : decode cX12_chooser 28 = .ok (.if_icmp .lt 5, 3) := by decide +kernel
theorem dX12_chooser_31 : decode cX12_chooser 31 = .ok (.iconst (-1), 1) := by decide +kernel
theorem dX12_chooser_32 : decode cX12_chooser 32 = .ok (.ireturn, 1) := by decide +kernel
theorem dX12_chooser_33 : decode cX12_chooser 33 = .ok (.aload_n 0, 1) := by decide +kernel
theorem dX12_chooser_34 : decode cX12_chooser 34 = .ok (.getfield 106, 3) := by decide +kernel
theorem dX12_chooser_37 : decode cX12_chooser 37 = .ok (.ifCond .ne 6, 3) := by decide +kernel
theorem dX12_chooser_40 : decode cX12_chooser 40 = .ok (.bipush (-3), 2) := by decide +kernel
theorem dX12_chooser_42 : decode cX12_chooser 42 = .ok (.ireturn, 1) := by decide +kernel
theorem dX12_chooser_43 : decode cX12_chooser 43 = .ok (.iload_n 3, 1) := by decide +kernel
theorem dX12_chooser_44 : decode cX12_chooser 44 = .ok (.ifCond .eq 7, 3) := by decide +kernel
theorem dX12_chooser_47 : decode cX12_chooser 47 = .ok (.iconst 1, 1) := by decide +kernel
theorem dX12_chooser_48 : decode cX12_chooser 48 = .ok (.goto 4, 3) := by decide +kernel
theorem dX12_chooser_51 : decode cX12_chooser 51 = .ok (.iconst 0, 1) := by decide +kernel
theorem dX12_chooser_52 : decode cX12_chooser 52 = .ok (.istore 4, 2) := by decide +kernel
theorem dX12_chooser_54 : decode cX12_chooser 54 = .ok (.iconst 0, 1) := by decide +kernel
theorem dX12_chooser_55 : decode cX12_chooser 55 = .ok (.istore 5, 2) := by decide +kernel
theorem dX12_chooser_57 : decode cX12_chooser 57 = .ok (.iconst 0, 1) := by decide +kernel
theorem dX12_chooser_58 : decode cX12_chooser 58 = .ok (.istore 6, 2) := by decide +kernel
theorem dX12_chooser_60 : decode cX12_chooser 60 = .ok (.iload 6, 2) := by decide +kernel
theorem dX12_chooser_62 : decode cX12_chooser 62 = .ok (.aload_n 0, 1) := by decide +kernel
theorem dX12_chooser_63 : decode cX12_chooser 63 = .ok (.getfield 103, 3) := by decide +kernel
theorem dX12_chooser_66 : decode cX12_chooser 66 = .ok (.if_icmp .ge 133, 3) := by decide +kernel
theorem dX12_chooser_69 : decode cX12_chooser 69 = .ok (.aload_n 0, 1) := by decide +kernel
theorem dX12_chooser_70 : decode cX12_chooser 70 = .ok (.iload 6, 2) := by decide +kernel
theorem dX12_chooser_72 : decode cX12_chooser 72 = .ok (.invokevirtual 146, 3) := by decide +kernel
theorem dX12_chooser_75 : decode cX12_chooser 75 = .ok (.iload_n 1, 1) := by decide +kernel
theorem dX12_chooser_76 : decode cX12_chooser 76 = .ok (.if_icmp .ne 25, 3) := by decide +kernel
theorem dX12_chooser_79 : decode cX12_chooser 79 = .ok (.aload_n 0, 1) := by decide +kernel
theorem dX12_chooser_80 : decode cX12_chooser 80 = .ok (.getfield 48, 3) := by decide +kernel
theorem dX12_chooser_83 : decode cX12_chooser 83 = .ok (.iload 6, 2) := by decide +kernel
theorem dX12_chooser_85 : decode cX12_chooser 85 = .ok (.iaload, 1) := by decide +kernel
theorem dX12_chooser_86 : decode cX12_chooser 86 = .ok (.iload_n 2, 1) := by decide +kernel
theorem dX12_chooser_87 : decode cX12_chooser 87 = .ok (.if_icmp .ne 14, 3) := by decide +kernel
theorem dX12_chooser_90 : decode cX12_chooser 90 = .ok (.aload_n 0, 1) := by decide +kernel
theorem dX12_chooser_91 : decode cX12_chooser 91 = .ok (.iload 6, 2) := by decide +kernel
theorem dX12_chooser_93 : decode cX12_chooser 93 = .ok (.iload 4, 2) := by decide +kernel
theorem dX12_chooser_95 : decode cX12_chooser 95 = .ok (.invokevirtual 240, 3) := by decide +kernel
theorem dX12_chooser_98 : decode cX12_chooser 98 = .ok (.goto 4, 3) := by decide +kernel
theorem dX12_chooser_101 : decode cX12_chooser 101 = .ok (.iconst (-1), 1) := by decide +kernel
theorem dX12_chooser_102 : decode cX12_chooser 102 = .ok (.istore 7, 2) := by decide +kernel
theorem dX12_chooser_104 : decode cX12_chooser 104 = .ok (.iload 7, 2) := by decide +kernel
theorem dX12_chooser_106 : decode cX12_chooser 106 = .ok (.ifCond .ge 7, 3) := by decide +kernel
theorem dX12_chooser_109 : decode cX12_chooser 109 = .ok (.iconst 1, 1) := by decide +kernel
theorem dX12_chooser_110 : decode cX12_chooser 110 = .ok (.goto 4, 3) := by decide +kernel
theorem dX12_chooser_113 : decode cX12_chooser 113 = .ok (.iconst 0, 1) := by decide +kernel
theorem dX12_chooser_114 : decode cX12_chooser 114 = .ok (.istore 8, 2) := by decide +kernel
theorem dX12_chooser_116 : decode cX12_chooser 116 = .ok (.iconst 0, 1) := by decide +kernel
theorem dX12_chooser_117 : decode cX12_chooser 117 = .ok (.istore 9, 2) := by decide +kernel
theorem dX12_chooser_119 : decode cX12_chooser 119 = .ok (.iload 9, 2) := by decide +kernel
theorem dX12_chooser_121 : decode cX12_chooser 121 = .ok (.iload 6, 2) := by decide +kernel
theorem dX12_chooser_123 : decode cX12_chooser 123 = .ok (.if_icmp .ge 55, 3) := by decide +kernel
theorem dX12_chooser_126 : decode cX12_chooser 126 = .ok (.iload 8, 2) := by decide +kernel
theorem dX12_chooser_128 : decode cX12_chooser 128 = .ok (.ifCond .ne 37, 3) := by decide +kernel
theorem dX12_chooser_131 : decode cX12_chooser 131 = .ok (.aload_n 0, 1) := by decide +kernel
theorem dX12_chooser_132 : decode cX12_chooser 132 = .ok (.iload 9, 2) := by decide +kernel
theorem dX12_chooser_134 : decode cX12_chooser 134 = .ok (.invokevirtual 146, 3) := by decide +kernel
theorem dX12_chooser_137 : decode cX12_chooser 137 = .ok (.iload_n 1, 1) := by decide +kernel
theorem dX12_chooser_138 : decode cX12_chooser 138 = .ok (.if_icmp .ne 31, 3) := by decide +kernel
theorem dX12_chooser_141 : decode cX12_chooser 141 = .ok (.aload_n 0, 1) := by decide +kernel
theorem dX12_chooser_142 : decode cX12_chooser 142 = .ok (.getfield 48, 3) := by decide +kernel
theorem dX12_chooser_145 : decode cX12_chooser 145 = .ok (.iload 9, 2) := by decide +kernel
theorem dX12_chooser_147 : decode cX12_chooser 147 = .ok (.iaload, 1) := by decide +kernel
theorem dX12_chooser_148 : decode cX12_chooser 148 = .ok (.iload_n 2, 1) := by decide +kernel
theorem dX12_chooser_149 : decode cX12_chooser 149 = .ok (.if_icmp .ne 20, 3) := by decide +kernel
theorem dX12_chooser_152 : decode cX12_chooser 152 = .ok (.aload_n 0, 1) := by decide +kernel
theorem dX12_chooser_153 : decode cX12_chooser 153 = .ok (.iload 9, 2) := by decide +kernel
theorem dX12_chooser_155 : decode cX12_chooser 155 = .ok (.iload 4, 2) := by decide +kernel
theorem dX12_chooser_157 : decode cX12_chooser 157 = .ok (.invokevirtual 240, 3) := by decide +kernel
theorem dX12_chooser_160 : decode cX12_chooser 160 = .ok (.iload 7, 2) := by decide +kernel
theorem dX12_chooser_162 : decode cX12_chooser 162 = .ok (.if_icmp .ne 7, 3) := by decide +kernel
theorem dX12_chooser_165 : decode cX12_chooser 165 = .ok (.iconst 1, 1) := by decide +kernel
theorem dX12_chooser_166 : decode cX12_chooser 166 = .ok (.goto 4, 3) := by decide +kernel
theorem dX12_chooser_169 : decode cX12_chooser 169 = .ok (.iconst 0, 1) := by decide +kernel
theorem dX12_chooser_170 : decode cX12_chooser 170 = .ok (.istore 8, 2) := by decide +kernel
theorem dX12_chooser_172 : decode cX12_chooser 172 = .ok (.iinc 9 1, 3) := by decide +kernel
theorem dX12_chooser_175 : decode cX12_chooser 175 = .ok (.goto (-56), 3) := by decide +kernel
theorem dX12_chooser_178 : decode cX12_chooser 178 = .ok (.iload 5, 2) := by decide +kernel
theorem dX12_chooser_180 : decode cX12_chooser 180 = .ok (.iload 8, 2) := by decide +kernel
theorem dX12_chooser_182 : decode cX12_chooser 182 = .ok (.ifCond .eq 7, 3) := by decide +kernel
theorem dX12_chooser_185 : decode cX12_chooser 185 = .ok (.iconst 0, 1) := by decide +kernel
theorem dX12_chooser_186 : decode cX12_chooser 186 = .ok (.goto 4, 3) := by decide +kernel
theorem dX12_chooser_189 : decode cX12_chooser 189 = .ok (.iconst 1, 1) := by decide +kernel
theorem dX12_chooser_190 : decode cX12_chooser 190 = .ok (.iadd, 1) := by decide +kernel
theorem dX12_chooser_191 : decode cX12_chooser 191 = .ok (.istore 5, 2) := by decide +kernel
theorem dX12_chooser_193 : decode cX12_chooser 193 = .ok (.iinc 6 1, 3) := by decide +kernel
theorem dX12_chooser_196 : decode cX12_chooser 196 = .ok (.goto (-136), 3) := by decide +kernel
theorem dX12_chooser_199 : decode cX12_chooser 199 = .ok (.iload 5, 2) := by decide +kernel
theorem dX12_chooser_201 : decode cX12_chooser 201 = .ok (.ireturn, 1) := by decide +kernel
theorem dX12_at_0 : decode cX12_at 0 = .ok (.aload_n 0, 1) := by decide +kernel
theorem dX12_at_1 : decode cX12_at 1 = .ok (.iconst 0, 1) := by decide +kernel
theorem dX12_at_2 : decode cX12_at 2 = .ok (.putfield 99, 3) := by decide +kernel
theorem dX12_at_5 : decode cX12_at 5 = .ok (.iload_n 1, 1) := by decide +kernel
theorem dX12_at_6 : decode cX12_at 6 = .ok (.ifCond .lt 7, 3) := by decide +kernel
theorem dX12_at_9 : decode cX12_at 9 = .ok (.iload_n 2, 1) := by decide +kernel
theorem dX12_at_10 : decode cX12_at 10 = .ok (.ifCond .ge 5, 3) := by decide +kernel
theorem dX12_at_13 : decode cX12_at 13 = .ok (.iconst (-1), 1) := by decide +kernel
theorem dX12_at_14 : decode cX12_at 14 = .ok (.ireturn, 1) := by decide +kernel
theorem dX12_at_15 : decode cX12_at 15 = .ok (.aload_n 0, 1) := by decide +kernel
theorem dX12_at_16 : decode cX12_at 16 = .ok (.getfield 106, 3) := by decide +kernel
theorem dX12_at_19 : decode cX12_at 19 = .ok (.ifCond .ne 6, 3) := by decide +kernel
theorem dX12_at_22 : decode cX12_at 22 = .ok (.bipush (-3), 2) := by decide +kernel
theorem dX12_at_24 : decode cX12_at 24 = .ok (.ireturn, 1) := by decide +kernel
theorem dX12_at_25 : decode cX12_at 25 = .ok (.iconst 0, 1) := by decide +kernel
theorem dX12_at_26 : decode cX12_at 26 = .ok (.istore_n 3, 1) := by decide +kernel
theorem dX12_at_27 : decode cX12_at 27 = .ok (.iconst 0, 1) := by decide +kernel
theorem dX12_at_28 : decode cX12_at 28 = .ok (.istore 4, 2) := by decide +kernel
theorem dX12_at_30 : decode cX12_at 30 = .ok (.iload 4, 2) := by decide +kernel
theorem dX12_at_32 : decode cX12_at 32 = .ok (.aload_n 0, 1) := by decide +kernel
theorem dX12_at_33 : decode cX12_at 33 = .ok (.getfield 103, 3) := by decide +kernel
theorem dX12_at_36 : decode cX12_at 36 = .ok (.if_icmp .ge 31, 3) := by decide +kernel
theorem dX12_at_39 : decode cX12_at 39 = .ok (.aload_n 0, 1) := by decide +kernel
theorem dX12_at_40 : decode cX12_at 40 = .ok (.getfield 45, 3) := by decide +kernel
theorem dX12_at_43 : decode cX12_at 43 = .ok (.iload 4, 2) := by decide +kernel
theorem dX12_at_45 : decode cX12_at 45 = .ok (.iaload, 1) := by decide +kernel
theorem dX12_at_46 : decode cX12_at 46 = .ok (.iload_n 1, 1) := by decide +kernel
theorem dX12_at_47 : decode cX12_at 47 = .ok (.if_icmp .ne 14, 3) := by decide +kernel
theorem dX12_at_50 : decode cX12_at 50 = .ok (.iload_n 3, 1) := by decide +kernel
theorem dX12_at_51 : decode cX12_at 51 = .ok (.iload_n 2, 1) := by decide +kernel
theorem dX12_at_52 : decode cX12_at 52 = .ok (.if_icmp .ne 6, 3) := by decide +kernel
theorem dX12_at_55 : decode cX12_at 55 = .ok (.iload 4, 2) := by decide +kernel
theorem dX12_at_57 : decode cX12_at 57 = .ok (.ireturn, 1) := by decide +kernel
theorem dX12_at_58 : decode cX12_at 58 = .ok (.iinc 3 1, 3) := by decide +kernel
theorem dX12_at_61 : decode cX12_at 61 = .ok (.iinc 4 1, 3) := by decide +kernel
theorem dX12_at_64 : decode cX12_at 64 = .ok (.goto (-34), 3) := by decide +kernel
theorem dX12_at_67 : decode cX12_at 67 = .ok (.bipush (-2), 2) := by decide +kernel
theorem dX12_at_69 : decode cX12_at 69 = .ok (.ireturn, 1) := by decide +kernel
theorem dX12_numberAt_0 : decode cX12_numberAt 0 = .ok (.aload_n 0, 1) := by decide +kernel
theorem dX12_numberAt_1 : decode cX12_numberAt 1 = .ok (.getfield 75, 3) := by decide +kernel
theorem dX12_numberAt_4 : decode cX12_numberAt 4 = .ok (.aload_n 0, 1) := by decide +kernel
theorem dX12_numberAt_5 : decode cX12_numberAt 5 = .ok (.getfield 16, 3) := by decide +kernel
theorem dX12_numberAt_8 : decode cX12_numberAt 8 = .ok (.iconst 3, 1) := by decide +kernel
theorem dX12_numberAt_9 : decode cX12_numberAt 9 = .ok (.iload_n 1, 1) := by decide +kernel
theorem dX12_numberAt_10 : decode cX12_numberAt 10 = .ok (.imul, 1) := by decide +kernel
theorem dX12_numberAt_11 : decode cX12_numberAt 11 = .ok (.iload_n 2, 1) := by decide +kernel
theorem dX12_numberAt_12 : decode cX12_numberAt 12 = .ok (.iadd, 1) := by decide +kernel
theorem dX12_numberAt_13 : decode cX12_numberAt 13 = .ok (.iaload, 1) := by decide +kernel
theorem dX12_numberAt_14 : decode cX12_numberAt 14 = .ok (.laload, 1) := by decide +kernel
theorem dX12_numberAt_15 : decode cX12_numberAt 15 = .ok (.lreturn, 1) := by decide +kernel
theorem dX12_why_0 : decode cX12_why 0 = .ok (.aload_n 0, 1) := by decide +kernel
theorem dX12_why_1 : decode cX12_why 1 = .ok (.getfield 7, 3) := by decide +kernel
theorem dX12_why_4 : decode cX12_why 4 = .ok (.iload_n 1, 1) := by decide +kernel
theorem dX12_why_5 : decode cX12_why 5 = .ok (.iaload, 1) := by decide +kernel
theorem dX12_why_6 : decode cX12_why 6 = .ok (.tableswitch 120 1 9 #[50, 120, 120, 120, 81, 120, 120, 98, 98], 50) := by decide +kernel
theorem dX12_why_56 : decode cX12_why 56 = .ok (.aload_n 0, 1) := by decide +kernel
theorem dX12_why_57 : decode cX12_why 57 = .ok (.getfield 78, 3) := by decide +kernel
theorem dX12_why_60 : decode cX12_why 60 = .ok (.aload_n 0, 1) := by decide +kernel
theorem dX12_why_61 : decode cX12_why 61 = .ok (.getfield 19, 3) := by decide +kernel
theorem dX12_why_64 : decode cX12_why 64 = .ok (.iload_n 1, 1) := by decide +kernel
theorem dX12_why_65 : decode cX12_why 65 = .ok (.iaload, 1) := by decide +kernel
theorem dX12_why_66 : decode cX12_why 66 = .ok (.iaload, 1) := by decide +kernel
theorem dX12_why_67 : decode cX12_why 67 = .ok (.aload_n 0, 1) := by decide +kernel
theorem dX12_why_68 : decode cX12_why 68 = .ok (.getfield 36, 3) := by decide +kernel
theorem dX12_why_71 : decode cX12_why 71 = .ok (.aload_n 0, 1) := by decide +kernel
theorem dX12_why_72 : decode cX12_why 72 = .ok (.getfield 19, 3) := by decide +kernel
theorem dX12_why_75 : decode cX12_why 75 = .ok (.iload_n 1, 1) := by decide +kernel
theorem dX12_why_76 : decode cX12_why 76 = .ok (.iaload, 1) := by decide +kernel
theorem dX12_why_77 : decode cX12_why 77 = .ok (.iaload, 1) := by decide +kernel
theorem dX12_why_78 : decode cX12_why 78 = .ok (.if_icmp .ne 7, 3) := by decide +kernel
theorem dX12_why_81 : decode cX12_why 81 = .ok (.iconst 3, 1) := by decide +kernel
theorem dX12_why_82 : decode cX12_why 82 = .ok (.goto 4, 3) := by decide +kernel
theorem dX12_why_85 : decode cX12_why 85 = .ok (.iconst 0, 1) := by decide +kernel
theorem dX12_why_86 : decode cX12_why 86 = .ok (.ireturn, 1) := by decide +kernel
theorem dX12_why_87 : decode cX12_why 87 = .ok (.aload_n 0, 1) := by decide +kernel
theorem dX12_why_88 : decode cX12_why 88 = .ok (.iload_n 1, 1) := by decide +kernel
theorem dX12_why_89 : decode cX12_why 89 = .ok (.iconst 1, 1) := by decide +kernel
theorem dX12_why_90 : decode cX12_why 90 = .ok (.invokevirtual 243, 3) := by decide +kernel
theorem dX12_why_93 : decode cX12_why 93 = .ok (.lconst 0, 1) := by decide +kernel
theorem dX12_why_94 : decode cX12_why 94 = .ok (.lcmp, 1) := by decide +kernel
theorem dX12_why_95 : decode cX12_why 95 = .ok (.ifCond .ne 7, 3) := by decide +kernel
theorem dX12_why_98 : decode cX12_why 98 = .ok (.iconst 1, 1) := by decide +kernel
theorem dX12_why_99 : decode cX12_why 99 = .ok (.goto 4, 3) := by decide +kernel
theorem dX12_why_102 : decode cX12_why 102 = .ok (.iconst 0, 1) := by decide +kernel
theorem dX12_why_103 : decode cX12_why 103 = .ok (.ireturn, 1) := by decide +kernel
theorem dX12_why_104 : decode cX12_why 104 = .ok (.aload_n 0, 1) := by decide +kernel
theorem dX12_why_105 : decode cX12_why 105 = .ok (.iload_n 1, 1) := by decide +kernel
theorem dX12_why_106 : decode cX12_why 106 = .ok (.iconst 0, 1) := by decide +kernel
theorem dX12_why_107 : decode cX12_why 107 = .ok (.invokevirtual 243, 3) := by decide +kernel
theorem dX12_why_110 : decode cX12_why 110 = .ok (.lconst 0, 1) := by decide +kernel
theorem dX12_why_111 : decode cX12_why 111 = .ok (.ldc2_w 144, 3) := by decide +kernel
theorem dX12_why_114 : decode cX12_why 114 = .ok (.invokestatic 118, 3) := by decide +kernel
theorem dX12_why_117 : decode cX12_why 117 = .ok (.ifCond .eq 7, 3) := by decide +kernel
theorem dX12_why_120 : decode cX12_why 120 = .ok (.iconst 0, 1) := by decide +kernel
theorem dX12_why_121 : decode cX12_why 121 = .ok (.goto 4, 3) := by decide +kernel
theorem dX12_why_124 : decode cX12_why 124 = .ok (.iconst 2, 1) := by decide +kernel
theorem dX12_why_125 : decode cX12_why 125 = .ok (.ireturn, 1) := by decide +kernel
theorem dX12_why_126 : decode cX12_why 126 = .ok (.iconst 0, 1) := by decide +kernel
theorem dX12_why_127 : decode cX12_why 127 = .ok (.ireturn, 1) := by decide +kernel
theorem dX12_given_0 : decode cX12_given 0 = .ok (.aload_n 0, 1) := by decide +kernel
theorem dX12_given_1 : decode cX12_given 1 = .ok (.getfield 7, 3) := by decide +kernel
theorem dX12_given_4 : decode cX12_given 4 = .ok (.iload_n 1, 1) := by decide +kernel
theorem dX12_given_5 : decode cX12_given 5 = .ok (.iaload, 1) := by decide +kernel
theorem dX12_given_6 : decode cX12_given 6 = .ok (.tableswitch 213 0 9 #[54, 61, 88, 102, 116, 130, 144, 166, 193, 206], 54) := by decide +kernel
theorem dX12_given_60 : decode cX12_given 60 = .ok (.aload_n 0, 1) := by decide +kernel
theorem dX12_given_61 : decode cX12_given 61 = .ok (.getfield 22, 3) := by decide +kernel
theorem dX12_given_64 : decode cX12_given 64 = .ok (.iload_n 1, 1) := by decide +kernel
theorem dX12_given_65 : decode cX12_given 65 = .ok (.laload, 1) := by decide +kernel
theorem dX12_given_66 : decode cX12_given 66 = .ok (.lreturn, 1) := by decide +kernel
theorem dX12_given_67 : decode cX12_given 67 = .ok (.aload_n 0, 1) := by decide +kernel
theorem dX12_given_68 : decode cX12_given 68 = .ok (.getfield 39, 3) := by decide +kernel
theorem dX12_given_71 : decode cX12_given 71 = .ok (.bipush 20, 2) := by decide +kernel
theorem dX12_given_73 : decode cX12_given 73 = .ok (.aload_n 0, 1) := by decide +kernel
theorem dX12_given_74 : decode cX12_given 74 = .ok (.getfield 19, 3) := by decide +kernel
theorem dX12_given_77 : decode cX12_given 77 = .ok (.iload_n 1, 1) := by decide +kernel
theorem dX12_given_78 : decode cX12_given 78 = .ok (.iaload, 1) := by decide +kernel
theorem dX12_given_79 : decode cX12_given 79 = .ok (.imul, 1) := by decide +kernel
theorem dX12_given_80 : decode cX12_given 80 = .ok (.aload_n 0, 1) := by decide +kernel
theorem dX12_given_81 : decode cX12_given 81 = .ok (.getfield 78, 3) := by decide +kernel
theorem dX12_given_84 : decode cX12_given 84 = .ok (.aload_n 0, 1) := by decide +kernel
theorem dX12_given_85 : decode cX12_given 85 = .ok (.getfield 19, 3) := by decide +kernel
theorem dX12_given_88 : decode cX12_given 88 = .ok (.iload_n 1, 1) := by decide +kernel
theorem dX12_given_89 : decode cX12_given 89 = .ok (.iaload, 1) := by decide +kernel
theorem dX12_given_90 : decode cX12_given 90 = .ok (.iaload, 1) := by decide +kernel
theorem dX12_given_91 : decode cX12_given 91 = .ok (.iadd, 1) := by decide +kernel
theorem dX12_given_92 : decode cX12_given 92 = .ok (.laload, 1) := by decide +kernel
theorem dX12_given_93 : decode cX12_given 93 = .ok (.lreturn, 1) := by decide +kernel
theorem dX12_given_94 : decode cX12_given 94 = .ok (.aload_n 0, 1) := by decide +kernel
theorem dX12_given_95 : decode cX12_given 95 = .ok (.iload_n 1, 1) := by decide +kernel
theorem dX12_given_96 : decode cX12_given 96 = .ok (.iconst 0, 1) := by decide +kernel
theorem dX12_given_97 : decode cX12_given 97 = .ok (.invokevirtual 243, 3) := by decide +kernel
theorem dX12_given_100 : decode cX12_given 100 = .ok (.aload_n 0, 1) := by decide +kernel
theorem dX12_given_101 : decode cX12_given 101 = .ok (.iload_n 1, 1) := by decide +kernel
theorem dX12_given_102 : decode cX12_given 102 = .ok (.iconst 1, 1) := by decide +kernel
theorem dX12_given_103 : decode cX12_given 103 = .ok (.invokevirtual 243, 3) := by decide +kernel
theorem dX12_given_106 : decode cX12_given 106 = .ok (.ladd, 1) := by decide +kernel
theorem dX12_given_107 : decode cX12_given 107 = .ok (.lreturn, 1) := by decide +kernel
theorem dX12_given_108 : decode cX12_given 108 = .ok (.aload_n 0, 1) := by decide +kernel
theorem dX12_given_109 : decode cX12_given 109 = .ok (.iload_n 1, 1) := by decide +kernel
theorem dX12_given_110 : decode cX12_given 110 = .ok (.iconst 0, 1) := by decide +kernel
theorem dX12_given_111 : decode cX12_given 111 = .ok (.invokevirtual 243, 3) := by decide +kernel
theorem dX12_given_114 : decode cX12_given 114 = .ok (.aload_n 0, 1) := by decide +kernel
theorem dX12_given_115 : decode cX12_given 115 = .ok (.iload_n 1, 1) := by decide +kernel
theorem dX12_given_116 : decode cX12_given 116 = .ok (.iconst 1, 1) := by decide +kernel
theorem dX12_given_117 : decode cX12_given 117 = .ok (.invokevirtual 243, 3) := by decide +kernel
theorem dX12_given_120 : decode cX12_given 120 = .ok (.lsub, 1) := by decide +kernel
theorem dX12_given_121 : decode cX12_given 121 = .ok (.lreturn, 1) := by decide +kernel
theorem dX12_given_122 : decode cX12_given 122 = .ok (.aload_n 0, 1) := by decide +kernel
theorem dX12_given_123 : decode cX12_given 123 = .ok (.iload_n 1, 1) := by decide +kernel
theorem dX12_given_124 : decode cX12_given 124 = .ok (.iconst 0, 1) := by decide +kernel
theorem dX12_given_125 : decode cX12_given 125 = .ok (.invokevirtual 243, 3) := by decide +kernel
theorem dX12_given_128 : decode cX12_given 128 = .ok (.aload_n 0, 1) := by decide +kernel
theorem dX12_given_129 : decode cX12_given 129 = .ok (.iload_n 1, 1) := by decide +kernel
theorem dX12_given_130 : decode cX12_given 130 = .ok (.iconst 1, 1) := by decide +kernel
theorem dX12_given_131 : decode cX12_given 131 = .ok (.invokevirtual 243, 3) := by decide +kernel
theorem dX12_given_134 : decode cX12_given 134 = .ok (.lmul, 1) := by decide +kernel
theorem dX12_given_135 : decode cX12_given 135 = .ok (.lreturn, 1) := by decide +kernel
theorem dX12_given_136 : decode cX12_given 136 = .ok (.aload_n 0, 1) := by decide +kernel
theorem dX12_given_137 : decode cX12_given 137 = .ok (.iload_n 1, 1) := by decide +kernel
theorem dX12_given_138 : decode cX12_given 138 = .ok (.iconst 0, 1) := by decide +kernel
theorem dX12_given_139 : decode cX12_given 139 = .ok (.invokevirtual 243, 3) := by decide +kernel
theorem dX12_given_142 : decode cX12_given 142 = .ok (.aload_n 0, 1) := by decide +kernel
theorem dX12_given_143 : decode cX12_given 143 = .ok (.iload_n 1, 1) := by decide +kernel
theorem dX12_given_144 : decode cX12_given 144 = .ok (.iconst 1, 1) := by decide +kernel
theorem dX12_given_145 : decode cX12_given 145 = .ok (.invokevirtual 243, 3) := by decide +kernel
theorem dX12_given_148 : decode cX12_given 148 = .ok (.ldiv, 1) := by decide +kernel
theorem dX12_given_149 : decode cX12_given 149 = .ok (.lreturn, 1) := by decide +kernel
theorem dX12_given_150 : decode cX12_given 150 = .ok (.aload_n 0, 1) := by decide +kernel
theorem dX12_given_151 : decode cX12_given 151 = .ok (.iload_n 1, 1) := by decide +kernel
theorem dX12_given_152 : decode cX12_given 152 = .ok (.iconst 0, 1) := by decide +kernel
theorem dX12_given_153 : decode cX12_given 153 = .ok (.invokevirtual 243, 3) := by decide +kernel
theorem dX12_given_156 : decode cX12_given 156 = .ok (.aload_n 0, 1) := by decide +kernel
theorem dX12_given_157 : decode cX12_given 157 = .ok (.iload_n 1, 1) := by decide +kernel
theorem dX12_given_158 : decode cX12_given 158 = .ok (.iconst 1, 1) := by decide +kernel
theorem dX12_given_159 : decode cX12_given 159 = .ok (.invokevirtual 243, 3) := by decide +kernel
theorem dX12_given_162 : decode cX12_given 162 = .ok (.lcmp, 1) := by decide +kernel
theorem dX12_given_163 : decode cX12_given 163 = .ok (.ifCond .ge 7, 3) := by decide +kernel
theorem dX12_given_166 : decode cX12_given 166 = .ok (.lconst 1, 1) := by decide +kernel
theorem dX12_given_167 : decode cX12_given 167 = .ok (.goto 4, 3) := by decide +kernel
theorem dX12_given_170 : decode cX12_given 170 = .ok (.lconst 0, 1) := by decide +kernel
theorem dX12_given_171 : decode cX12_given 171 = .ok (.lreturn, 1) := by decide +kernel
theorem dX12_given_172 : decode cX12_given 172 = .ok (.aload_n 0, 1) := by decide +kernel
theorem dX12_given_173 : decode cX12_given 173 = .ok (.iload_n 1, 1) := by decide +kernel
theorem dX12_given_174 : decode cX12_given 174 = .ok (.iconst 0, 1) := by decide +kernel
theorem dX12_given_175 : decode cX12_given 175 = .ok (.invokevirtual 243, 3) := by decide +kernel
theorem dX12_given_178 : decode cX12_given 178 = .ok (.lconst 0, 1) := by decide +kernel
theorem dX12_given_179 : decode cX12_given 179 = .ok (.lcmp, 1) := by decide +kernel
theorem dX12_given_180 : decode cX12_given 180 = .ok (.ifCond .eq 12, 3) := by decide +kernel
theorem dX12_given_183 : decode cX12_given 183 = .ok (.aload_n 0, 1) := by decide +kernel
theorem dX12_given_184 : decode cX12_given 184 = .ok (.iload_n 1, 1) := by decide +kernel
theorem dX12_given_185 : decode cX12_given 185 = .ok (.iconst 1, 1) := by decide +kernel
theorem dX12_given_186 : decode cX12_given 186 = .ok (.invokevirtual 243, 3) := by decide +kernel
theorem dX12_given_189 : decode cX12_given 189 = .ok (.goto 9, 3) := by decide +kernel
theorem dX12_given_192 : decode cX12_given 192 = .ok (.aload_n 0, 1) := by decide +kernel
theorem dX12_given_193 : decode cX12_given 193 = .ok (.iload_n 1, 1) := by decide +kernel
theorem dX12_given_194 : decode cX12_given 194 = .ok (.iconst 2, 1) := by decide +kernel
theorem dX12_given_195 : decode cX12_given 195 = .ok (.invokevirtual 243, 3) := by decide +kernel
theorem dX12_given_198 : decode cX12_given 198 = .ok (.lreturn, 1) := by decide +kernel
theorem dX12_given_199 : decode cX12_given 199 = .ok (.aload_n 0, 1) := by decide +kernel
theorem dX12_given_200 : decode cX12_given 200 = .ok (.getfield 60, 3) := by decide +kernel
theorem dX12_given_203 : decode cX12_given 203 = .ok (.aload_n 0, 1) := by decide +kernel
theorem dX12_given_204 : decode cX12_given 204 = .ok (.iload_n 1, 1) := by decide +kernel
theorem dX12_given_205 : decode cX12_given 205 = .ok (.iconst 0, 1) := by decide +kernel
theorem dX12_given_206 : decode cX12_given 206 = .ok (.invokevirtual 243, 3) := by decide +kernel
theorem dX12_given_209 : decode cX12_given 209 = .ok (.l2i, 1) := by decide +kernel
theorem dX12_given_210 : decode cX12_given 210 = .ok (.laload, 1) := by decide +kernel
theorem dX12_given_211 : decode cX12_given 211 = .ok (.lreturn, 1) := by decide +kernel
theorem dX12_given_212 : decode cX12_given 212 = .ok (.aload_n 0, 1) := by decide +kernel
theorem dX12_given_213 : decode cX12_given 213 = .ok (.iload_n 1, 1) := by decide +kernel
theorem dX12_given_214 : decode cX12_given 214 = .ok (.iconst 1, 1) := by decide +kernel
theorem dX12_given_215 : decode cX12_given 215 = .ok (.invokevirtual 243, 3) := by decide +kernel
theorem dX12_given_218 : decode cX12_given 218 = .ok (.lreturn, 1) := by decide +kernel
theorem dX12_given_219 : decode cX12_given 219 = .ok (.aload_n 0, 1) := by decide +kernel
theorem dX12_given_220 : decode cX12_given 220 = .ok (.iload_n 1, 1) := by decide +kernel
theorem dX12_given_221 : decode cX12_given 221 = .ok (.iconst 0, 1) := by decide +kernel
theorem dX12_given_222 : decode cX12_given 222 = .ok (.invokevirtual 243, 3) := by decide +kernel
theorem dX12_given_225 : decode cX12_given 225 = .ok (.lreturn, 1) := by decide +kernel
theorem dX12_begin_0 : decode cX12_begin 0 = .ok (.aload_n 0, 1) := by decide +kernel
theorem dX12_begin_1 : decode cX12_begin 1 = .ok (.dup, 1) := by decide +kernel
theorem dX12_begin_2 : decode cX12_begin 2 = .ok (.getfield 247, 3) := by decide +kernel
theorem dX12_begin_5 : decode cX12_begin 5 = .ok (.iconst 1, 1) := by decide +kernel
theorem dX12_begin_6 : decode cX12_begin 6 = .ok (.iadd, 1) := by decide +kernel
theorem dX12_begin_7 : decode cX12_begin 7 = .ok (.putfield 247, 3) := by decide +kernel
theorem dX12_begin_10 : decode cX12_begin 10 = .ok (.aload_n 0, 1) := by decide +kernel
theorem dX12_begin_11 : decode cX12_begin 11 = .ok (.iload_n 1, 1) := by decide +kernel
theorem dX12_begin_12 : decode cX12_begin 12 = .ok (.invokevirtual 250, 3) := by decide +kernel
theorem dX12_begin_15 : decode cX12_begin 15 = .ok (.istore_n 2, 1) := by decide +kernel
theorem dX12_begin_16 : decode cX12_begin 16 = .ok (.iload_n 2, 1) := by decide +kernel
theorem dX12_begin_17 : decode cX12_begin 17 = .ok (.ifCond .le 5, 3) := by decide +kernel
theorem dX12_begin_20 : decode cX12_begin 20 = .ok (.iload_n 2, 1) := by decide +kernel
theorem dX12_begin_21 : decode cX12_begin 21 = .ok (.ireturn, 1) := by decide +kernel
theorem dX12_begin_22 : decode cX12_begin 22 = .ok (.aload_n 0, 1) := by decide +kernel
theorem dX12_begin_23 : decode cX12_begin 23 = .ok (.getfield 75, 3) := by decide +kernel
theorem dX12_begin_26 : decode cX12_begin 26 = .ok (.iload_n 1, 1) := by decide +kernel
theorem dX12_begin_27 : decode cX12_begin 27 = .ok (.aload_n 0, 1) := by decide +kernel
theorem dX12_begin_28 : decode cX12_begin 28 = .ok (.iload_n 1, 1) := by decide +kernel
theorem dX12_begin_29 : decode cX12_begin 29 = .ok (.invokevirtual 253, 3) := by decide +kernel
theorem dX12_begin_32 : decode cX12_begin 32 = .ok (.aload_n 0, 1) := by decide +kernel
theorem dX12_begin_33 : decode cX12_begin 33 = .ok (.getfield 13, 3) := by decide +kernel
theorem dX12_begin_36 : decode cX12_begin 36 = .ok (.iload_n 1, 1) := by decide +kernel
theorem dX12_begin_37 : decode cX12_begin 37 = .ok (.iaload, 1) := by decide +kernel
theorem dX12_begin_38 : decode cX12_begin 38 = .ok (.invokestatic 126, 3) := by decide +kernel
theorem dX12_begin_41 : decode cX12_begin 41 = .ok (.lastore, 1) := by decide +kernel
theorem dX12_begin_42 : decode cX12_begin 42 = .ok (.aload_n 0, 1) := by decide +kernel
theorem dX12_begin_43 : decode cX12_begin 43 = .ok (.getfield 7, 3) := by decide +kernel
theorem dX12_begin_46 : decode cX12_begin 46 = .ok (.iload_n 1, 1) := by decide +kernel
theorem dX12_begin_47 : decode cX12_begin 47 = .ok (.iaload, 1) := by decide +kernel
theorem dX12_begin_48 : decode cX12_begin 48 = .ok (.iconst 1, 1) := by decide +kernel
theorem dX12_begin_49 : decode cX12_begin 49 = .ok (.if_icmp .ne 21, 3) := by decide +kernel
theorem dX12_begin_52 : decode cX12_begin 52 = .ok (.aload_n 0, 1) := by decide +kernel
theorem dX12_begin_53 : decode cX12_begin 53 = .ok (.getfield 78, 3) := by decide +kernel
theorem dX12_begin_56 : decode cX12_begin 56 = .ok (.aload_n 0, 1) := by decide +kernel
theorem dX12_begin_57 : decode cX12_begin 57 = .ok (.getfield 19, 3) := by decide +kernel
theorem dX12_begin_60 : decode cX12_begin 60 = .ok (.iload_n 1, 1) := by decide +kernel
theorem dX12_begin_61 : decode cX12_begin 61 = .ok (.iaload, 1) := by decide +kernel
theorem dX12_begin_62 : decode cX12_begin 62 = .ok (.dup2, 1) := by decide +kernel
theorem dX12_begin_63 : decode cX12_begin 63 = .ok (.iaload, 1) := by decide +kernel
theorem dX12_begin_64 : decode cX12_begin 64 = .ok (.iconst 1, 1) := by decide +kernel
theorem dX12_begin_65 : decode cX12_begin 65 = .ok (.iadd, 1) := by decide +kernel
theorem dX12_begin_66 : decode cX12_begin 66 = .ok (.iastore, 1) := by decide +kernel
theorem dX12_begin_67 : decode cX12_begin 67 = .ok (.goto 93, 3) := by decide +kernel
theorem dX12_begin_70 : decode cX12_begin 70 = .ok (.aload_n 0, 1) := by decide +kernel
theorem dX12_begin_71 : decode cX12_begin 71 = .ok (.getfield 7, 3) := by decide +kernel
theorem dX12_begin_74 : decode cX12_begin 74 = .ok (.iload_n 1, 1) := by decide +kernel
theorem dX12_begin_75 : decode cX12_begin 75 = .ok (.iaload, 1) := by decide +kernel
theorem dX12_begin_76 : decode cX12_begin 76 = .ok (.bipush 9, 2) := by decide +kernel
theorem dX12_begin_78 : decode cX12_begin 78 = .ok (.if_icmp .ne 24, 3) := by decide +kernel
theorem dX12_begin_81 : decode cX12_begin 81 = .ok (.aload_n 0, 1) := by decide +kernel
theorem dX12_begin_82 : decode cX12_begin 82 = .ok (.getfield 60, 3) := by decide +kernel
theorem dX12_begin_85 : decode cX12_begin 85 = .ok (.aload_n 0, 1) := by decide +kernel
theorem dX12_begin_86 : decode cX12_begin 86 = .ok (.iload_n 1, 1) := by decide +kernel
theorem dX12_begin_87 : decode cX12_begin 87 = .ok (.iconst 0, 1) := by decide +kernel
theorem dX12_begin_88 : decode cX12_begin 88 = .ok (.invokevirtual 243, 3) := by decide +kernel
theorem dX12_begin_91 : decode cX12_begin 91 = .ok (.l2i, 1) := by decide +kernel
theorem dX12_begin_92 : decode cX12_begin 92 = .ok (.aload_n 0, 1) := by decide +kernel
theorem dX12_begin_93 : decode cX12_begin 93 = .ok (.getfield 75, 3) := by decide +kernel
theorem dX12_begin_96 : decode cX12_begin 96 = .ok (.iload_n 1, 1) := by decide +kernel
theorem dX12_begin_97 : decode cX12_begin 97 = .ok (.laload, 1) := by decide +kernel
theorem dX12_begin_98 : decode cX12_begin 98 = .ok (.lastore, 1) := by decide +kernel
theorem dX12_begin_99 : decode cX12_begin 99 = .ok (.goto 61, 3) := by decide +kernel
theorem dX12_begin_102 : decode cX12_begin 102 = .ok (.aload_n 0, 1) := by decide +kernel
theorem dX12_begin_103 : decode cX12_begin 103 = .ok (.getfield 7, 3) := by decide +kernel
theorem dX12_begin_106 : decode cX12_begin 106 = .ok (.iload_n 1, 1) := by decide +kernel
theorem dX12_begin_107 : decode cX12_begin 107 = .ok (.iaload, 1) := by decide +kernel
theorem dX12_begin_108 : decode cX12_begin 108 = .ok (.bipush 10, 2) := by decide +kernel
theorem dX12_begin_110 : decode cX12_begin 110 = .ok (.if_icmp .ne 50, 3) := by decide +kernel
theorem dX12_begin_113 : decode cX12_begin 113 = .ok (.aload_n 0, 1) := by decide +kernel
theorem dX12_begin_114 : decode cX12_begin 114 = .ok (.getfield 57, 3) := by decide +kernel
theorem dX12_begin_117 : decode cX12_begin 117 = .ok (.bipush 16, 2) := by decide +kernel
theorem dX12_begin_119 : decode cX12_begin 119 = .ok (.aload_n 0, 1) := by decide +kernel
theorem dX12_begin_120 : decode cX12_begin 120 = .ok (.getfield 19, 3) := by decide +kernel
theorem dX12_begin_123 : decode cX12_begin 123 = .ok (.iload_n 1, 1) := by decide +kernel
theorem dX12_begin_124 : decode cX12_begin 124 = .ok (.iaload, 1) := by decide +kernel
theorem dX12_begin_125 : decode cX12_begin 125 = .ok (.imul, 1) := by decide +kernel
theorem dX12_begin_126 : decode cX12_begin 126 = .ok (.aload_n 0, 1) := by decide +kernel
theorem dX12_begin_127 : decode cX12_begin 127 = .ok (.getfield 54, 3) := by decide +kernel
theorem dX12_begin_130 : decode cX12_begin 130 = .ok (.aload_n 0, 1) := by decide +kernel
theorem dX12_begin_131 : decode cX12_begin 131 = .ok (.getfield 19, 3) := by decide +kernel
theorem dX12_begin_134 : decode cX12_begin 134 = .ok (.iload_n 1, 1) := by decide +kernel
theorem dX12_begin_135 : decode cX12_begin 135 = .ok (.iaload, 1) := by decide +kernel
theorem dX12_begin_136 : decode cX12_begin 136 = .ok (.iaload, 1) := by decide +kernel
theorem dX12_begin_137 : decode cX12_begin 137 = .ok (.iadd, 1) := by decide +kernel
theorem dX12_begin_138 : decode cX12_begin 138 = .ok (.aload_n 0, 1) := by decide +kernel
theorem dX12_begin_139 : decode cX12_begin 139 = .ok (.getfield 75, 3) := by decide +kernel
theorem dX12_begin_142 : decode cX12_begin 142 = .ok (.iload_n 1, 1) := by decide +kernel
theorem dX12_begin_143 : decode cX12_begin 143 = .ok (.laload, 1) := by decide +kernel
theorem dX12_begin_144 : decode cX12_begin 144 = .ok (.lastore, 1) := by decide +kernel
theorem dX12_begin_145 : decode cX12_begin 145 = .ok (.aload_n 0, 1) := by decide +kernel
theorem dX12_begin_146 : decode cX12_begin 146 = .ok (.getfield 54, 3) := by decide +kernel
theorem dX12_begin_149 : decode cX12_begin 149 = .ok (.aload_n 0, 1) := by decide +kernel
theorem dX12_begin_150 : decode cX12_begin 150 = .ok (.getfield 19, 3) := by decide +kernel
theorem dX12_begin_153 : decode cX12_begin 153 = .ok (.iload_n 1, 1) := by decide +kernel
theorem dX12_begin_154 : decode cX12_begin 154 = .ok (.iaload, 1) := by decide +kernel
theorem dX12_begin_155 : decode cX12_begin 155 = .ok (.dup2, 1) := by decide +kernel
theorem dX12_begin_156 : decode cX12_begin 156 = .ok (.iaload, 1) := by decide +kernel
theorem dX12_begin_157 : decode cX12_begin 157 = .ok (.iconst 1, 1) := by decide +kernel
theorem dX12_begin_158 : decode cX12_begin 158 = .ok (.iadd, 1) := by decide +kernel
theorem dX12_begin_159 : decode cX12_begin 159 = .ok (.iastore, 1) := by decide +kernel
theorem dX12_begin_160 : decode cX12_begin 160 = .ok (.iconst 0, 1) := by decide +kernel
theorem dX12_begin_161 : decode cX12_begin 161 = .ok (.ireturn, 1) := by decide +kernel
theorem dX12_run_0 : decode cX12_run 0 = .ok (.aload_n 0, 1) := by decide +kernel
theorem dX12_run_1 : decode cX12_run 1 = .ok (.iconst 0, 1) := by decide +kernel
theorem dX12_run_2 : decode cX12_run 2 = .ok (.putfield 99, 3) := by decide +kernel
theorem dX12_run_5 : decode cX12_run 5 = .ok (.aload_n 0, 1) := by decide +kernel
theorem dX12_run_6 : decode cX12_run 6 = .ok (.getfield 103, 3) := by decide +kernel
theorem dX12_run_9 : decode cX12_run 9 = .ok (.ifCond .ne 6, 3) := by decide +kernel
theorem dX12_run_12 : decode cX12_run 12 = .ok (.bipush (-2), 2) := by decide +kernel
theorem dX12_run_14 : decode cX12_run 14 = .ok (.ireturn, 1) := by decide +kernel
theorem dX12_run_15 : decode cX12_run 15 = .ok (.iload_n 1, 1) := by decide +kernel
theorem dX12_run_16 : decode cX12_run 16 = .ok (.ifCond .eq 13, 3) := by decide +kernel
theorem dX12_run_19 : decode cX12_run 19 = .ok (.aload_n 0, 1) := by decide +kernel
theorem dX12_run_20 : decode cX12_run 20 = .ok (.getfield 106, 3) := by decide +kernel
theorem dX12_run_23 : decode cX12_run 23 = .ok (.ifCond .ne 6, 3) := by decide +kernel
theorem dX12_run_26 : decode cX12_run 26 = .ok (.bipush (-3), 2) := by decide +kernel
theorem dX12_run_28 : decode cX12_run 28 = .ok (.ireturn, 1) := by decide +kernel
theorem dX12_run_29 : decode cX12_run 29 = .ok (.iconst 0, 1) := by decide +kernel
theorem dX12_run_30 : decode cX12_run 30 = .ok (.istore_n 2, 1) := by decide +kernel
theorem dX12_run_31 : decode cX12_run 31 = .ok (.iload_n 2, 1) := by decide +kernel
theorem dX12_run_32 : decode cX12_run 32 = .ok (.iconst 4, 1) := by decide +kernel
theorem dX12_run_33 : decode cX12_run 33 = .ok (.if_icmp .ge 23, 3) := by decide +kernel
theorem dX12_run_36 : decode cX12_run 36 = .ok (.aload_n 0, 1) := by decide +kernel
theorem dX12_run_37 : decode cX12_run 37 = .ok (.getfield 78, 3) := by decide +kernel
theorem dX12_run_40 : decode cX12_run 40 = .ok (.iload_n 2, 1) := by decide +kernel
theorem dX12_run_41 : decode cX12_run 41 = .ok (.iconst 0, 1) := by decide +kernel
theorem dX12_run_42 : decode cX12_run 42 = .ok (.iastore, 1) := by decide +kernel
theorem dX12_run_43 : decode cX12_run 43 = .ok (.aload_n 0, 1) := by decide +kernel
theorem dX12_run_44 : decode cX12_run 44 = .ok (.getfield 54, 3) := by decide +kernel
theorem dX12_run_47 : decode cX12_run 47 = .ok (.iload_n 2, 1) := by decide +kernel
theorem dX12_run_48 : decode cX12_run 48 = .ok (.iconst 0, 1) := by decide +kernel
theorem dX12_run_49 : decode cX12_run 49 = .ok (.iastore, 1) := by decide +kernel
theorem dX12_run_50 : decode cX12_run 50 = .ok (.iinc 2 1, 3) := by decide +kernel
theorem dX12_run_53 : decode cX12_run 53 = .ok (.goto (-22), 3) := by decide +kernel
theorem dX12_run_56 : decode cX12_run 56 = .ok (.iconst 0, 1) := by decide +kernel
theorem dX12_run_57 : decode cX12_run 57 = .ok (.istore_n 2, 1) := by decide +kernel
theorem dX12_run_58 : decode cX12_run 58 = .ok (.iload_n 2, 1) := by decide +kernel
theorem dX12_run_59 : decode cX12_run 59 = .ok (.bipush 16, 2) := by decide +kernel
theorem dX12_run_61 : decode cX12_run 61 = .ok (.if_icmp .ge 21, 3) := by decide +kernel
theorem dX12_run_64 : decode cX12_run 64 = .ok (.aload_n 0, 1) := by decide +kernel
theorem dX12_run_65 : decode cX12_run 65 = .ok (.getfield 60, 3) := by decide +kernel
theorem dX12_run_68 : decode cX12_run 68 = .ok (.iload_n 2, 1) := by decide +kernel
theorem dX12_run_69 : decode cX12_run 69 = .ok (.aload_n 0, 1) := by decide +kernel
theorem dX12_run_70 : decode cX12_run 70 = .ok (.getfield 42, 3) := by decide +kernel
theorem dX12_run_73 : decode cX12_run 73 = .ok (.iload_n 2, 1) := by decide +kernel
theorem dX12_run_74 : decode cX12_run 74 = .ok (.laload, 1) := by decide +kernel
theorem dX12_run_75 : decode cX12_run 75 = .ok (.lastore, 1) := by decide +kernel
theorem dX12_run_76 : decode cX12_run 76 = .ok (.iinc 2 1, 3) := by decide +kernel
theorem dX12_run_79 : decode cX12_run 79 = .ok (.goto (-21), 3) := by decide +kernel
theorem dX12_run_82 : decode cX12_run 82 = .ok (.aload_n 0, 1) := by decide +kernel
theorem dX12_run_83 : decode cX12_run 83 = .ok (.iconst 0, 1) := by decide +kernel
theorem dX12_run_84 : decode cX12_run 84 = .ok (.putfield 257, 3) := by decide +kernel
theorem dX12_run_87 : decode cX12_run 87 = .ok (.aload_n 0, 1) := by decide +kernel
theorem dX12_run_88 : decode cX12_run 88 = .ok (.bipush (-2), 2) := by decide +kernel
theorem dX12_run_90 : decode cX12_run 90 = .ok (.putfield 260, 3) := by decide +kernel
theorem dX12_run_93 : decode cX12_run 93 = .ok (.aload_n 0, 1) := by decide +kernel
theorem dX12_run_94 : decode cX12_run 94 = .ok (.iconst 0, 1) := by decide +kernel
theorem dX12_run_95 : decode cX12_run 95 = .ok (.putfield 247, 3) := by decide +kernel
theorem dX12_run_98 : decode cX12_run 98 = .ok (.iload_n 1, 1) := by decide +kernel
theorem dX12_run_99 : decode cX12_run 99 = .ok (.ifCond .eq 10, 3) := by decide +kernel
theorem dX12_run_102 : decode cX12_run 102 = .ok (.aload_n 0, 1) := by decide +kernel
theorem dX12_run_103 : decode cX12_run 103 = .ok (.getfield 210, 3) := by decide +kernel
theorem dX12_run_106 : decode cX12_run 106 = .ok (.goto 4, 3) := by decide +kernel
theorem dX12_run_109 : decode cX12_run 109 = .ok (.iconst 0, 1) := by decide +kernel
theorem dX12_run_110 : decode cX12_run 110 = .ok (.istore_n 2, 1) := by decide +kernel
theorem dX12_run_111 : decode cX12_run 111 = .ok (.iconst 0, 1) := by decide +kernel
theorem dX12_run_112 : decode cX12_run 112 = .ok (.istore_n 3, 1) := by decide +kernel
theorem dX12_run_113 : decode cX12_run 113 = .ok (.iload_n 3, 1) := by decide +kernel
theorem dX12_run_114 : decode cX12_run 114 = .ok (.iload_n 2, 1) := by decide +kernel
theorem dX12_run_115 : decode cX12_run 115 = .ok (.if_icmp .gt 86, 3) := by decide +kernel
theorem dX12_run_118 : decode cX12_run 118 = .ok (.iconst 0, 1) := by decide +kernel
theorem dX12_run_119 : decode cX12_run 119 = .ok (.istore 4, 2) := by decide +kernel
theorem dX12_run_121 : decode cX12_run 121 = .ok (.iload 4, 2) := by decide +kernel
theorem dX12_run_123 : decode cX12_run 123 = .ok (.aload_n 0, 1) := by decide +kernel
theorem dX12_run_124 : decode cX12_run 124 = .ok (.getfield 103, 3) := by decide +kernel
theorem dX12_run_127 : decode cX12_run 127 = .ok (.if_icmp .ge 68, 3) := by decide +kernel
theorem dX12_run_130 : decode cX12_run 130 = .ok (.iload_n 1, 1) := by decide +kernel
theorem dX12_run_131 : decode cX12_run 131 = .ok (.ifCond .eq 14, 3) := by decide +kernel
theorem dX12_run_134 : decode cX12_run 134 = .ok (.aload_n 0, 1) := by decide +kernel
theorem dX12_run_135 : decode cX12_run 135 = .ok (.getfield 45, 3) := by decide +kernel
theorem dX12_run_138 : decode cX12_run 138 = .ok (.iload 4, 2) := by decide +kernel
theorem dX12_run_140 : decode cX12_run 140 = .ok (.iaload, 1) := by decide +kernel
theorem dX12_run_141 : decode cX12_run 141 = .ok (.iload_n 3, 1) := by decide +kernel
theorem dX12_run_142 : decode cX12_run 142 = .ok (.if_icmp .ne 47, 3) := by decide +kernel
theorem dX12_run_145 : decode cX12_run 145 = .ok (.aload_n 0, 1) := by decide +kernel
theorem dX12_run_146 : decode cX12_run 146 = .ok (.getfield 260, 3) := by decide +kernel
theorem dX12_run_149 : decode cX12_run 149 = .ok (.ifCond .lt 15, 3) := by decide +kernel
theorem dX12_run_152 : decode cX12_run 152 = .ok (.iload 4, 2) := by decide +kernel
theorem dX12_run_154 : decode cX12_run 154 = .ok (.aload_n 0, 1) := by decide +kernel
theorem dX12_run_155 : decode cX12_run 155 = .ok (.getfield 260, 3) := by decide +kernel
theorem dX12_run_158 : decode cX12_run 158 = .ok (.if_icmp .le 6, 3) := by decide +kernel
theorem dX12_run_161 : decode cX12_run 161 = .ok (.goto 28, 3) := by decide +kernel
theorem dX12_run_164 : decode cX12_run 164 = .ok (.aload_n 0, 1) := by decide +kernel
theorem dX12_run_165 : decode cX12_run 165 = .ok (.iload 4, 2) := by decide +kernel
theorem dX12_run_167 : decode cX12_run 167 = .ok (.invokevirtual 263, 3) := by decide +kernel
theorem dX12_run_170 : decode cX12_run 170 = .ok (.istore 5, 2) := by decide +kernel
theorem dX12_run_172 : decode cX12_run 172 = .ok (.iload 5, 2) := by decide +kernel
theorem dX12_run_174 : decode cX12_run 174 = .ok (.ifCond .le 15, 3) := by decide +kernel
theorem dX12_run_177 : decode cX12_run 177 = .ok (.aload_n 0, 1) := by decide +kernel
theorem dX12_run_178 : decode cX12_run 178 = .ok (.iload 5, 2) := by decide +kernel
theorem dX12_run_180 : decode cX12_run 180 = .ok (.putfield 257, 3) := by decide +kernel
theorem dX12_run_183 : decode cX12_run 183 = .ok (.aload_n 0, 1) := by decide +kernel
theorem dX12_run_184 : decode cX12_run 184 = .ok (.iload 4, 2) := by decide +kernel
theorem dX12_run_186 : decode cX12_run 186 = .ok (.putfield 260, 3) := by decide +kernel
theorem dX12_run_189 : decode cX12_run 189 = .ok (.iinc 4 1, 3) := by decide +kernel
theorem dX12_run_192 : decode cX12_run 192 = .ok (.goto (-71), 3) := by decide +kernel
theorem dX12_run_195 : decode cX12_run 195 = .ok (.iinc 3 1, 3) := by decide +kernel
theorem dX12_run_198 : decode cX12_run 198 = .ok (.goto (-85), 3) := by decide +kernel
theorem dX12_run_201 : decode cX12_run 201 = .ok (.aload_n 0, 1) := by decide +kernel
theorem dX12_run_202 : decode cX12_run 202 = .ok (.iload_n 1, 1) := by decide +kernel
theorem dX12_run_203 : decode cX12_run 203 = .ok (.ifCond .ne 7, 3) := by decide +kernel
theorem dX12_run_206 : decode cX12_run 206 = .ok (.iconst 0, 1) := by decide +kernel
theorem dX12_run_207 : decode cX12_run 207 = .ok (.goto 26, 3) := by decide +kernel
theorem dX12_run_210 : decode cX12_run 210 = .ok (.aload_n 0, 1) := by decide +kernel
theorem dX12_run_211 : decode cX12_run 211 = .ok (.getfield 260, 3) := by decide +kernel
theorem dX12_run_214 : decode cX12_run 214 = .ok (.ifCond .ge 10, 3) := by decide +kernel
theorem dX12_run_217 : decode cX12_run 217 = .ok (.aload_n 0, 1) := by decide +kernel
theorem dX12_run_218 : decode cX12_run 218 = .ok (.getfield 210, 3) := by decide +kernel
theorem dX12_run_221 : decode cX12_run 221 = .ok (.goto 12, 3) := by decide +kernel
theorem dX12_run_224 : decode cX12_run 224 = .ok (.aload_n 0, 1) := by decide +kernel
theorem dX12_run_225 : decode cX12_run 225 = .ok (.getfield 45, 3) := by decide +kernel
theorem dX12_run_228 : decode cX12_run 228 = .ok (.aload_n 0, 1) := by decide +kernel
theorem dX12_run_229 : decode cX12_run 229 = .ok (.getfield 260, 3) := by decide +kernel
theorem dX12_run_232 : decode cX12_run 232 = .ok (.iaload, 1) := by decide +kernel
theorem dX12_run_233 : decode cX12_run 233 = .ok (.putfield 266, 3) := by decide +kernel
theorem dX12_run_236 : decode cX12_run 236 = .ok (.aload_n 0, 1) := by decide +kernel
theorem dX12_run_237 : decode cX12_run 237 = .ok (.iconst 1, 1) := by decide +kernel
theorem dX12_run_238 : decode cX12_run 238 = .ok (.putfield 110, 3) := by decide +kernel
theorem dX12_run_241 : decode cX12_run 241 = .ok (.aload_n 0, 1) := by decide +kernel
theorem dX12_run_242 : decode cX12_run 242 = .ok (.getfield 257, 3) := by decide +kernel
theorem dX12_run_245 : decode cX12_run 245 = .ok (.ireturn, 1) := by decide +kernel
theorem dX12_told_0 : decode cX12_told 0 = .ok (.aload_n 0, 1) := by decide +kernel
theorem dX12_told_1 : decode cX12_told 1 = .ok (.iconst 0, 1) := by decide +kernel
theorem dX12_told_2 : decode cX12_told 2 = .ok (.putfield 99, 3) := by decide +kernel
theorem dX12_told_5 : decode cX12_told 5 = .ok (.iload_n 1, 1) := by decide +kernel
theorem dX12_told_6 : decode cX12_told 6 = .ok (.i2l, 1) := by decide +kernel
theorem dX12_told_7 : decode cX12_told 7 = .ok (.lconst 0, 1) := by decide +kernel
theorem dX12_told_8 : decode cX12_told 8 = .ok (.ldc2_w 140, 3) := by decide +kernel
theorem dX12_told_11 : decode cX12_told 11 = .ok (.invokestatic 118, 3) := by decide +kernel
theorem dX12_told_14 : decode cX12_told 14 = .ok (.ifCond .ne 5, 3) := by decide +kernel
theorem dX12_told_17 : decode cX12_told 17 = .ok (.iconst (-1), 1) := by decide +kernel
theorem dX12_told_18 : decode cX12_told 18 = .ok (.ireturn, 1) := by decide +kernel
theorem dX12_told_19 : decode cX12_told 19 = .ok (.aload_n 0, 1) := by decide +kernel
theorem dX12_told_20 : decode cX12_told 20 = .ok (.getfield 110, 3) := by decide +kernel
theorem dX12_told_23 : decode cX12_told 23 = .ok (.ifCond .ne 6, 3) := by decide +kernel
theorem dX12_told_26 : decode cX12_told 26 = .ok (.bipush (-3), 2) := by decide +kernel
theorem dX12_told_28 : decode cX12_told 28 = .ok (.ireturn, 1) := by decide +kernel
theorem dX12_told_29 : decode cX12_told 29 = .ok (.iload_n 1, 1) := by decide +kernel
theorem dX12_told_30 : decode cX12_told 30 = .ok (.ifCond .ne 10, 3) := by decide +kernel
theorem dX12_told_33 : decode cX12_told 33 = .ok (.aload_n 0, 1) := by decide +kernel
theorem dX12_told_34 : decode cX12_told 34 = .ok (.getfield 257, 3) := by decide +kernel
theorem dX12_told_37 : decode cX12_told 37 = .ok (.goto 66, 3) := by decide +kernel
theorem dX12_told_40 : decode cX12_told 40 = .ok (.iload_n 1, 1) := by decide +kernel
theorem dX12_told_41 : decode cX12_told 41 = .ok (.iconst 1, 1) := by decide +kernel
theorem dX12_told_42 : decode cX12_told 42 = .ok (.if_icmp .ne 10, 3) := by decide +kernel
theorem dX12_told_45 : decode cX12_told 45 = .ok (.aload_n 0, 1) := by decide +kernel
theorem dX12_told_46 : decode cX12_told 46 = .ok (.getfield 260, 3) := by decide +kernel
theorem dX12_told_49 : decode cX12_told 49 = .ok (.goto 54, 3) := by decide +kernel
theorem dX12_told_52 : decode cX12_told 52 = .ok (.iload_n 1, 1) := by decide +kernel
theorem dX12_told_53 : decode cX12_told 53 = .ok (.iconst 2, 1) := by decide +kernel
theorem dX12_told_54 : decode cX12_told 54 = .ok (.if_icmp .ne 10, 3) := by decide +kernel
theorem dX12_told_57 : decode cX12_told 57 = .ok (.aload_n 0, 1) := by decide +kernel
theorem dX12_told_58 : decode cX12_told 58 = .ok (.getfield 247, 3) := by decide +kernel
theorem dX12_told_61 : decode cX12_told 61 = .ok (.goto 42, 3) := by decide +kernel
theorem dX12_told_64 : decode cX12_told 64 = .ok (.iload_n 1, 1) := by decide +kernel
theorem dX12_told_65 : decode cX12_told 65 = .ok (.iconst 3, 1) := by decide +kernel
theorem dX12_told_66 : decode cX12_told 66 = .ok (.if_icmp .ne 10, 3) := by decide +kernel
theorem dX12_told_69 : decode cX12_told 69 = .ok (.aload_n 0, 1) := by decide +kernel
theorem dX12_told_70 : decode cX12_told 70 = .ok (.getfield 266, 3) := by decide +kernel
theorem dX12_told_73 : decode cX12_told 73 = .ok (.goto 30, 3) := by decide +kernel
theorem dX12_told_76 : decode cX12_told 76 = .ok (.aload_n 0, 1) := by decide +kernel
theorem dX12_told_77 : decode cX12_told 77 = .ok (.getfield 54, 3) := by decide +kernel
theorem dX12_told_80 : decode cX12_told 80 = .ok (.iconst 0, 1) := by decide +kernel
theorem dX12_told_81 : decode cX12_told 81 = .ok (.iaload, 1) := by decide +kernel
theorem dX12_told_82 : decode cX12_told 82 = .ok (.aload_n 0, 1) := by decide +kernel
theorem dX12_told_83 : decode cX12_told 83 = .ok (.getfield 54, 3) := by decide +kernel
theorem dX12_told_86 : decode cX12_told 86 = .ok (.iconst 1, 1) := by decide +kernel
theorem dX12_told_87 : decode cX12_told 87 = .ok (.iaload, 1) := by decide +kernel
theorem dX12_told_88 : decode cX12_told 88 = .ok (.iadd, 1) := by decide +kernel
theorem dX12_told_89 : decode cX12_told 89 = .ok (.aload_n 0, 1) := by decide +kernel
theorem dX12_told_90 : decode cX12_told 90 = .ok (.getfield 54, 3) := by decide +kernel
theorem dX12_told_93 : decode cX12_told 93 = .ok (.iconst 2, 1) := by decide +kernel
theorem dX12_told_94 : decode cX12_told 94 = .ok (.iaload, 1) := by decide +kernel
theorem dX12_told_95 : decode cX12_told 95 = .ok (.iadd, 1) := by decide +kernel
theorem dX12_told_96 : decode cX12_told 96 = .ok (.aload_n 0, 1) := by decide +kernel
theorem dX12_told_97 : decode cX12_told 97 = .ok (.getfield 54, 3) := by decide +kernel
theorem dX12_told_100 : decode cX12_told 100 = .ok (.iconst 3, 1) := by decide +kernel
theorem dX12_told_101 : decode cX12_told 101 = .ok (.iaload, 1) := by decide +kernel
theorem dX12_told_102 : decode cX12_told 102 = .ok (.iadd, 1) := by decide +kernel
theorem dX12_told_103 : decode cX12_told 103 = .ok (.ireturn, 1) := by decide +kernel
theorem dX12_out_0 : decode cX12_out 0 = .ok (.iload_n 1, 1) := by decide +kernel
theorem dX12_out_1 : decode cX12_out 1 = .ok (.i2l, 1) := by decide +kernel
theorem dX12_out_2 : decode cX12_out 2 = .ok (.lconst 0, 1) := by decide +kernel
theorem dX12_out_3 : decode cX12_out 3 = .ok (.ldc2_w 130, 3) := by decide +kernel
theorem dX12_out_6 : decode cX12_out 6 = .ok (.invokestatic 118, 3) := by decide +kernel
theorem dX12_out_9 : decode cX12_out 9 = .ok (.ifCond .eq 28, 3) := by decide +kernel
theorem dX12_out_12 : decode cX12_out 12 = .ok (.iload_n 2, 1) := by decide +kernel
theorem dX12_out_13 : decode cX12_out 13 = .ok (.ifCond .lt 24, 3) := by decide +kernel
theorem dX12_out_16 : decode cX12_out 16 = .ok (.aload_n 0, 1) := by decide +kernel
theorem dX12_out_17 : decode cX12_out 17 = .ok (.getfield 110, 3) := by decide +kernel
theorem dX12_out_20 : decode cX12_out 20 = .ok (.ifCond .eq 13, 3) := by decide +kernel
theorem dX12_out_23 : decode cX12_out 23 = .ok (.iload_n 2, 1) := by decide +kernel
theorem dX12_out_24 : decode cX12_out 24 = .ok (.aload_n 0, 1) := by decide +kernel
theorem dX12_out_25 : decode cX12_out 25 = .ok (.getfield 54, 3) := by decide +kernel
theorem dX12_out_28 : decode cX12_out 28 = .ok (.iload_n 1, 1) := by decide +kernel
theorem dX12_out_29 : decode cX12_out 29 = .ok (.iaload, 1) := by decide +kernel
theorem dX12_out_30 : decode cX12_out 30 = .ok (.if_icmp .ge 7, 3) := by decide +kernel
theorem dX12_out_33 : decode cX12_out 33 = .ok (.iconst 1, 1) := by decide +kernel
theorem dX12_out_34 : decode cX12_out 34 = .ok (.goto 4, 3) := by decide +kernel
theorem dX12_out_37 : decode cX12_out 37 = .ok (.iconst 0, 1) := by decide +kernel
theorem dX12_out_38 : decode cX12_out 38 = .ok (.istore_n 3, 1) := by decide +kernel
theorem dX12_out_39 : decode cX12_out 39 = .ok (.aload_n 0, 1) := by decide +kernel
theorem dX12_out_40 : decode cX12_out 40 = .ok (.iload_n 3, 1) := by decide +kernel
theorem dX12_out_41 : decode cX12_out 41 = .ok (.ifCond .ne 7, 3) := by decide +kernel
theorem dX12_out_44 : decode cX12_out 44 = .ok (.iconst 1, 1) := by decide +kernel
theorem dX12_out_45 : decode cX12_out 45 = .ok (.goto 15, 3) := by decide +kernel
theorem dX12_out_48 : decode cX12_out 48 = .ok (.aload_n 0, 1) := by decide +kernel
theorem dX12_out_49 : decode cX12_out 49 = .ok (.getfield 110, 3) := by decide +kernel
theorem dX12_out_52 : decode cX12_out 52 = .ok (.ifCond .ne 7, 3) := by decide +kernel
theorem dX12_out_55 : decode cX12_out 55 = .ok (.iconst 2, 1) := by decide +kernel
theorem dX12_out_56 : decode cX12_out 56 = .ok (.goto 4, 3) := by decide +kernel
theorem dX12_out_59 : decode cX12_out 59 = .ok (.iconst 0, 1) := by decide +kernel
theorem dX12_out_60 : decode cX12_out 60 = .ok (.putfield 99, 3) := by decide +kernel
theorem dX12_out_63 : decode cX12_out 63 = .ok (.aload_n 0, 1) := by decide +kernel
theorem dX12_out_64 : decode cX12_out 64 = .ok (.getfield 99, 3) := by decide +kernel
theorem dX12_out_67 : decode cX12_out 67 = .ok (.ifCond .le 7, 3) := by decide +kernel
theorem dX12_out_70 : decode cX12_out 70 = .ok (.lconst 0, 1) := by decide +kernel
theorem dX12_out_71 : decode cX12_out 71 = .ok (.goto 14, 3) := by decide +kernel
theorem dX12_out_74 : decode cX12_out 74 = .ok (.aload_n 0, 1) := by decide +kernel
theorem dX12_out_75 : decode cX12_out 75 = .ok (.getfield 57, 3) := by decide +kernel
theorem dX12_out_78 : decode cX12_out 78 = .ok (.bipush 16, 2) := by decide +kernel
theorem dX12_out_80 : decode cX12_out 80 = .ok (.iload_n 1, 1) := by decide +kernel
theorem dX12_out_81 : decode cX12_out 81 = .ok (.imul, 1) := by decide +kernel
theorem dX12_out_82 : decode cX12_out 82 = .ok (.iload_n 2, 1) := by decide +kernel
theorem dX12_out_83 : decode cX12_out 83 = .ok (.iadd, 1) := by decide +kernel
theorem dX12_out_84 : decode cX12_out 84 = .ok (.laload, 1) := by decide +kernel
theorem dX12_out_85 : decode cX12_out 85 = .ok (.lreturn, 1) := by decide +kernel
theorem dX12_outs_0 : decode cX12_outs 0 = .ok (.aload_n 0, 1) := by decide +kernel
theorem dX12_outs_1 : decode cX12_outs 1 = .ok (.iconst 0, 1) := by decide +kernel
theorem dX12_outs_2 : decode cX12_outs 2 = .ok (.putfield 99, 3) := by decide +kernel
theorem dX12_outs_5 : decode cX12_outs 5 = .ok (.iload_n 1, 1) := by decide +kernel
theorem dX12_outs_6 : decode cX12_outs 6 = .ok (.i2l, 1) := by decide +kernel
theorem dX12_outs_7 : decode cX12_outs 7 = .ok (.lconst 0, 1) := by decide +kernel
theorem dX12_outs_8 : decode cX12_outs 8 = .ok (.ldc2_w 130, 3) := by decide +kernel
theorem dX12_outs_11 : decode cX12_outs 11 = .ok (.invokestatic 118, 3) := by decide +kernel
theorem dX12_outs_14 : decode cX12_outs 14 = .ok (.ifCond .ne 7, 3) := by decide +kernel
theorem dX12_outs_17 : decode cX12_outs 17 = .ok (.iconst (-1), 1) := by decide +kernel
theorem dX12_outs_18 : decode cX12_outs 18 = .ok (.goto 21, 3) := by decide +kernel
theorem dX12_outs_21 : decode cX12_outs 21 = .ok (.aload_n 0, 1) := by decide +kernel
theorem dX12_outs_22 : decode cX12_outs 22 = .ok (.getfield 110, 3) := by decide +kernel
theorem dX12_outs_25 : decode cX12_outs 25 = .ok (.ifCond .ne 8, 3) := by decide +kernel
theorem dX12_outs_28 : decode cX12_outs 28 = .ok (.bipush (-3), 2) := by decide +kernel
theorem dX12_outs_30 : decode cX12_outs 30 = .ok (.goto 9, 3) := by decide +kernel
theorem dX12_outs_33 : decode cX12_outs 33 = .ok (.aload_n 0, 1) := by decide +kernel
theorem dX12_outs_34 : decode cX12_outs 34 = .ok (.getfield 54, 3) := by decide +kernel
theorem dX12_outs_37 : decode cX12_outs 37 = .ok (.iload_n 1, 1) := by decide +kernel
theorem dX12_outs_38 : decode cX12_outs 38 = .ok (.iaload, 1) := by decide +kernel
theorem dX12_outs_39 : decode cX12_outs 39 = .ok (.ireturn, 1) := by decide +kernel
theorem dX12_row_0 : decode cX12_row 0 = .ok (.aload_n 0, 1) := by decide +kernel
theorem dX12_row_1 : decode cX12_row 1 = .ok (.iload_n 1, 1) := by decide +kernel
theorem dX12_row_2 : decode cX12_row 2 = .ok (.i2l, 1) := by decide +kernel
theorem dX12_row_3 : decode cX12_row 3 = .ok (.lconst 0, 1) := by decide +kernel
theorem dX12_row_4 : decode cX12_row 4 = .ok (.ldc2_w 144, 3) := by decide +kernel
theorem dX12_row_7 : decode cX12_row 7 = .ok (.invokestatic 118, 3) := by decide +kernel
theorem dX12_row_10 : decode cX12_row 10 = .ok (.ifCond .ne 7, 3) := by decide +kernel
theorem dX12_row_13 : decode cX12_row 13 = .ok (.iconst 1, 1) := by decide +kernel
theorem dX12_row_14 : decode cX12_row 14 = .ok (.goto 15, 3) := by decide +kernel
theorem dX12_row_17 : decode cX12_row 17 = .ok (.aload_n 0, 1) := by decide +kernel
theorem dX12_row_18 : decode cX12_row 18 = .ok (.getfield 110, 3) := by decide +kernel
theorem dX12_row_21 : decode cX12_row 21 = .ok (.ifCond .ne 7, 3) := by decide +kernel
theorem dX12_row_24 : decode cX12_row 24 = .ok (.iconst 2, 1) := by decide +kernel
theorem dX12_row_25 : decode cX12_row 25 = .ok (.goto 4, 3) := by decide +kernel
theorem dX12_row_28 : decode cX12_row 28 = .ok (.iconst 0, 1) := by decide +kernel
theorem dX12_row_29 : decode cX12_row 29 = .ok (.putfield 99, 3) := by decide +kernel
theorem dX12_row_32 : decode cX12_row 32 = .ok (.aload_n 0, 1) := by decide +kernel
theorem dX12_row_33 : decode cX12_row 33 = .ok (.getfield 99, 3) := by decide +kernel
theorem dX12_row_36 : decode cX12_row 36 = .ok (.ifCond .le 7, 3) := by decide +kernel
theorem dX12_row_39 : decode cX12_row 39 = .ok (.lconst 0, 1) := by decide +kernel
theorem dX12_row_40 : decode cX12_row 40 = .ok (.goto 9, 3) := by decide +kernel
theorem dX12_row_43 : decode cX12_row 43 = .ok (.aload_n 0, 1) := by decide +kernel
theorem dX12_row_44 : decode cX12_row 44 = .ok (.getfield 60, 3) := by decide +kernel
theorem dX12_row_47 : decode cX12_row 47 = .ok (.iload_n 1, 1) := by decide +kernel
theorem dX12_row_48 : decode cX12_row 48 = .ok (.laload, 1) := by decide +kernel
theorem dX12_row_49 : decode cX12_row 49 = .ok (.lreturn, 1) := by decide +kernel
theorem dX12_operandsOf_0 : decode cX12_operandsOf 0 = .ok (.iconst 0, 1) := by decide +kernel
theorem dX12_operandsOf_1 : decode cX12_operandsOf 1 = .ok (.istore_n 2, 1) := by decide +kernel
theorem dX12_operandsOf_2 : decode cX12_operandsOf 2 = .ok (.iconst 3, 1) := by decide +kernel
theorem dX12_operandsOf_3 : decode cX12_operandsOf 3 = .ok (.iload_n 1, 1) := by decide +kernel
theorem dX12_operandsOf_4 : decode cX12_operandsOf 4 = .ok (.imul, 1) := by decide +kernel
theorem dX12_operandsOf_5 : decode cX12_operandsOf 5 = .ok (.istore_n 3, 1) := by decide +kernel
theorem dX12_operandsOf_6 : decode cX12_operandsOf 6 = .ok (.iload_n 3, 1) := by decide +kernel
theorem dX12_operandsOf_7 : decode cX12_operandsOf 7 = .ok (.iconst 3, 1) := by decide +kernel
theorem dX12_operandsOf_8 : decode cX12_operandsOf 8 = .ok (.iload_n 1, 1) := by decide +kernel
theorem dX12_operandsOf_9 : decode cX12_operandsOf 9 = .ok (.imul, 1) := by decide +kernel
theorem dX12_operandsOf_10 : decode cX12_operandsOf 10 = .ok (.iconst 3, 1) := by decide +kernel
theorem dX12_operandsOf_11 : decode cX12_operandsOf 11 = .ok (.iadd, 1) := by decide +kernel
theorem dX12_operandsOf_12 : decode cX12_operandsOf 12 = .ok (.if_icmp .ge 26, 3) := by decide +kernel
theorem dX12_operandsOf_15 : decode cX12_operandsOf 15 = .ok (.iload_n 2, 1) := by decide +kernel
theorem dX12_operandsOf_16 : decode cX12_operandsOf 16 = .ok (.aload_n 0, 1) := by decide +kernel
theorem dX12_operandsOf_17 : decode cX12_operandsOf 17 = .ok (.getfield 16, 3) := by decide +kernel
theorem dX12_operandsOf_20 : decode cX12_operandsOf 20 = .ok (.iload_n 3, 1) := by decide +kernel
theorem dX12_operandsOf_21 : decode cX12_operandsOf 21 = .ok (.iaload, 1) := by decide +kernel
theorem dX12_operandsOf_22 : decode cX12_operandsOf 22 = .ok (.ifCond .lt 7, 3) := by decide +kernel
theorem dX12_operandsOf_25 : decode cX12_operandsOf 25 = .ok (.iconst 1, 1) := by decide +kernel
theorem dX12_operandsOf_26 : decode cX12_operandsOf 26 = .ok (.goto 4, 3) := by decide +kernel
theorem dX12_operandsOf_29 : decode cX12_operandsOf 29 = .ok (.iconst 0, 1) := by decide +kernel
theorem dX12_operandsOf_30 : decode cX12_operandsOf 30 = .ok (.iadd, 1) := by decide +kernel
theorem dX12_operandsOf_31 : decode cX12_operandsOf 31 = .ok (.istore_n 2, 1) := by decide +kernel
theorem dX12_operandsOf_32 : decode cX12_operandsOf 32 = .ok (.iinc 3 1, 3) := by decide +kernel
theorem dX12_operandsOf_35 : decode cX12_operandsOf 35 = .ok (.goto (-29), 3) := by decide +kernel
theorem dX12_operandsOf_38 : decode cX12_operandsOf 38 = .ok (.iload_n 2, 1) := by decide +kernel
theorem dX12_operandsOf_39 : decode cX12_operandsOf 39 = .ok (.ireturn, 1) := by decide +kernel
theorem dX12_count_0 : decode cX12_count 0 = .ok (.aload_n 0, 1) := by decide +kernel
theorem dX12_count_1 : decode cX12_count 1 = .ok (.iconst 0, 1) := by decide +kernel
theorem dX12_count_2 : decode cX12_count 2 = .ok (.putfield 99, 3) := by decide +kernel
theorem dX12_count_5 : decode cX12_count 5 = .ok (.iconst 0, 1) := by decide +kernel
theorem dX12_count_6 : decode cX12_count 6 = .ok (.istore_n 2, 1) := by decide +kernel
theorem dX12_count_7 : decode cX12_count 7 = .ok (.iload_n 1, 1) := by decide +kernel
theorem dX12_count_8 : decode cX12_count 8 = .ok (.tableswitch 112 0 6 #[44, 49, 75, 103, 103, 103, 103], 44) := by decide +kernel
theorem dX12_count_52 : decode cX12_count 52 = .ok (.aload_n 0, 1) := by decide +kernel
theorem dX12_count_53 : decode cX12_count 53 = .ok (.getfield 103, 3) := by decide +kernel
theorem dX12_count_56 : decode cX12_count 56 = .ok (.ireturn, 1) := by decide +kernel
theorem dX12_count_57 : decode cX12_count 57 = .ok (.iconst 0, 1) := by decide +kernel
theorem dX12_count_58 : decode cX12_count 58 = .ok (.istore_n 3, 1) := by decide +kernel
theorem dX12_count_59 : decode cX12_count 59 = .ok (.iload_n 3, 1) := by decide +kernel
theorem dX12_count_60 : decode cX12_count 60 = .ok (.aload_n 0, 1) := by decide +kernel
theorem dX12_count_61 : decode cX12_count 61 = .ok (.getfield 103, 3) := by decide +kernel
theorem dX12_count_64 : decode cX12_count 64 = .ok (.if_icmp .ge 17, 3) := by decide +kernel
theorem dX12_count_67 : decode cX12_count 67 = .ok (.iload_n 2, 1) := by decide +kernel
end
section
theorem dX12_count_68 : decode cX12_count 68 = .ok (.aload_n 0, 1) := by decide +kernel
theorem dX12_count_69 : decode cX12_count 69 = .ok (.iload_n 3, 1) := by decide +kernel
theorem dX12_count_70 : decode cX12_count 70 = .ok (.invokevirtual 269, 3) := by decide +kernel
theorem dX12_count_73 : decode cX12_count 73 = .ok (.iadd, 1) := by decide +kernel
theorem dX12_count_74 : decode cX12_count 74 = .ok (.istore_n 2, 1) := by decide +kernel
theorem dX12_count_75 : decode cX12_count 75 = .ok (.iinc 3 1, 3) := by decide +kernel
theorem dX12_count_78 : decode cX12_count 78 = .ok (.goto (-19), 3) := by decide +kernel
theorem dX12_count_81 : decode cX12_count 81 = .ok (.iload_n 2, 1) := by decide +kernel
theorem dX12_count_82 : decode cX12_count 82 = .ok (.ireturn, 1) := by decide +kernel
theorem dX12_count_83 : decode cX12_count 83 = .ok (.aload_n 0, 1) := by decide +kernel
theorem dX12_count_84 : decode cX12_count 84 = .ok (.getfield 36, 3) := by decide +kernel
theorem dX12_count_87 : decode cX12_count 87 = .ok (.iconst 0, 1) := by decide +kernel
theorem dX12_count_88 : decode cX12_count 88 = .ok (.iaload, 1) := by decide +kernel
theorem dX12_count_89 : decode cX12_count 89 = .ok (.aload_n 0, 1) := by decide +kernel
theorem dX12_count_90 : decode cX12_count 90 = .ok (.getfield 36, 3) := by decide +kernel
theorem dX12_count_93 : decode cX12_count 93 = .ok (.iconst 1, 1) := by decide +kernel
theorem dX12_count_94 : decode cX12_count 94 = .ok (.iaload, 1) := by decide +kernel
theorem dX12_count_95 : decode cX12_count 95 = .ok (.iadd, 1) := by decide +kernel
theorem dX12_count_96 : decode cX12_count 96 = .ok (.aload_n 0, 1) := by decide +kernel
theorem dX12_count_97 : decode cX12_count 97 = .ok (.getfield 36, 3) := by decide +kernel
theorem dX12_count_100 : decode cX12_count 100 = .ok (.iconst 2, 1) := by decide +kernel
theorem dX12_count_101 : decode cX12_count 101 = .ok (.iaload, 1) := by decide +kernel
theorem dX12_count_102 : decode cX12_count 102 = .ok (.iadd, 1) := by decide +kernel
theorem dX12_count_103 : decode cX12_count 103 = .ok (.aload_n 0, 1) := by decide +kernel
theorem dX12_count_104 : decode cX12_count 104 = .ok (.getfield 36, 3) := by decide +kernel
theorem dX12_count_107 : decode cX12_count 107 = .ok (.iconst 3, 1) := by decide +kernel
theorem dX12_count_108 : decode cX12_count 108 = .ok (.iaload, 1) := by decide +kernel
theorem dX12_count_109 : decode cX12_count 109 = .ok (.iadd, 1) := by decide +kernel
theorem dX12_count_110 : decode cX12_count 110 = .ok (.ireturn, 1) := by decide +kernel
theorem dX12_count_111 : decode cX12_count 111 = .ok (.aload_n 0, 1) := by decide +kernel
theorem dX12_count_112 : decode cX12_count 112 = .ok (.getfield 26, 3) := by decide +kernel
theorem dX12_count_115 : decode cX12_count 115 = .ok (.iload_n 1, 1) := by decide +kernel
theorem dX12_count_116 : decode cX12_count 116 = .ok (.iconst 3, 1) := by decide +kernel
theorem dX12_count_117 : decode cX12_count 117 = .ok (.isub, 1) := by decide +kernel
theorem dX12_count_118 : decode cX12_count 118 = .ok (.iaload, 1) := by decide +kernel
theorem dX12_count_119 : decode cX12_count 119 = .ok (.ireturn, 1) := by decide +kernel
theorem dX12_count_120 : decode cX12_count 120 = .ok (.iconst (-1), 1) := by decide +kernel
theorem dX12_count_121 : decode cX12_count 121 = .ok (.ireturn, 1) := by decide +kernel
theorem dX12_isShelf_0 : decode cX12_isShelf 0 = .ok (.iload_n 0, 1) := by decide +kernel
theorem dX12_isShelf_1 : decode cX12_isShelf 1 = .ok (.ifCond .lt 13, 3) := by decide +kernel
theorem dX12_isShelf_4 : decode cX12_isShelf 4 = .ok (.iload_n 0, 1) := by decide +kernel
theorem dX12_isShelf_5 : decode cX12_isShelf 5 = .ok (.bipush 8, 2) := by decide +kernel
theorem dX12_isShelf_7 : decode cX12_isShelf 7 = .ok (.if_icmp .ge 7, 3) := by decide +kernel
theorem dX12_isShelf_10 : decode cX12_isShelf 10 = .ok (.iconst 1, 1) := by decide +kernel
theorem dX12_isShelf_11 : decode cX12_isShelf 11 = .ok (.goto 4, 3) := by decide +kernel
theorem dX12_isShelf_14 : decode cX12_isShelf 14 = .ok (.iconst 0, 1) := by decide +kernel
theorem dX12_isShelf_15 : decode cX12_isShelf 15 = .ok (.ireturn, 1) := by decide +kernel
theorem dX12_weightOf_0 : decode cX12_weightOf 0 = .ok (.aload_n 0, 1) := by decide +kernel
theorem dX12_weightOf_1 : decode cX12_weightOf 1 = .ok (.getfield 13, 3) := by decide +kernel
theorem dX12_weightOf_4 : decode cX12_weightOf 4 = .ok (.iload_n 1, 1) := by decide +kernel
theorem dX12_weightOf_5 : decode cX12_weightOf 5 = .ok (.iaload, 1) := by decide +kernel
theorem dX12_weightOf_6 : decode cX12_weightOf 6 = .ok (.bipush 10, 2) := by decide +kernel
theorem dX12_weightOf_8 : decode cX12_weightOf 8 = .ok (.aload_n 0, 1) := by decide +kernel
theorem dX12_weightOf_9 : decode cX12_weightOf 9 = .ok (.iload_n 1, 1) := by decide +kernel
theorem dX12_weightOf_10 : decode cX12_weightOf 10 = .ok (.invokevirtual 269, 3) := by decide +kernel
theorem dX12_weightOf_13 : decode cX12_weightOf 13 = .ok (.imul, 1) := by decide +kernel
theorem dX12_weightOf_14 : decode cX12_weightOf 14 = .ok (.iadd, 1) := by decide +kernel
theorem dX12_weightOf_15 : decode cX12_weightOf 15 = .ok (.istore_n 2, 1) := by decide +kernel
theorem dX12_weightOf_16 : decode cX12_weightOf 16 = .ok (.aload_n 0, 1) := by decide +kernel
theorem dX12_weightOf_17 : decode cX12_weightOf 17 = .ok (.getfield 7, 3) := by decide +kernel
theorem dX12_weightOf_20 : decode cX12_weightOf 20 = .ok (.iload_n 1, 1) := by decide +kernel
theorem dX12_weightOf_21 : decode cX12_weightOf 21 = .ok (.iaload, 1) := by decide +kernel
theorem dX12_weightOf_22 : decode cX12_weightOf 22 = .ok (.tableswitch 77 1 10 #[71, 77, 77, 54, 59, 77, 77, 66, 66, 71], 54) := by decide +kernel
theorem dX12_weightOf_76 : decode cX12_weightOf 76 = .ok (.iload_n 2, 1) := by decide +kernel
theorem dX12_weightOf_77 : decode cX12_weightOf 77 = .ok (.bipush 100, 2) := by decide +kernel
theorem dX12_weightOf_79 : decode cX12_weightOf 79 = .ok (.iadd, 1) := by decide +kernel
theorem dX12_weightOf_80 : decode cX12_weightOf 80 = .ok (.ireturn, 1) := by decide +kernel
theorem dX12_weightOf_81 : decode cX12_weightOf 81 = .ok (.iconst 2, 1) := by decide +kernel
theorem dX12_weightOf_82 : decode cX12_weightOf 82 = .ok (.iload_n 2, 1) := by decide +kernel
theorem dX12_weightOf_83 : decode cX12_weightOf 83 = .ok (.bipush 100, 2) := by decide +kernel
theorem dX12_weightOf_85 : decode cX12_weightOf 85 = .ok (.iadd, 1) := by decide +kernel
theorem dX12_weightOf_86 : decode cX12_weightOf 86 = .ok (.imul, 1) := by decide +kernel
theorem dX12_weightOf_87 : decode cX12_weightOf 87 = .ok (.ireturn, 1) := by decide +kernel
theorem dX12_weightOf_88 : decode cX12_weightOf 88 = .ok (.iload_n 2, 1) := by decide +kernel
theorem dX12_weightOf_89 : decode cX12_weightOf 89 = .ok (.bipush 7, 2) := by decide +kernel
theorem dX12_weightOf_91 : decode cX12_weightOf 91 = .ok (.iadd, 1) := by decide +kernel
theorem dX12_weightOf_92 : decode cX12_weightOf 92 = .ok (.ireturn, 1) := by decide +kernel
theorem dX12_weightOf_93 : decode cX12_weightOf 93 = .ok (.iload_n 2, 1) := by decide +kernel
theorem dX12_weightOf_94 : decode cX12_weightOf 94 = .ok (.sipush 1007, 3) := by decide +kernel
theorem dX12_weightOf_97 : decode cX12_weightOf 97 = .ok (.iadd, 1) := by decide +kernel
theorem dX12_weightOf_98 : decode cX12_weightOf 98 = .ok (.ireturn, 1) := by decide +kernel
theorem dX12_weightOf_99 : decode cX12_weightOf 99 = .ok (.iload_n 2, 1) := by decide +kernel
theorem dX12_weightOf_100 : decode cX12_weightOf 100 = .ok (.ireturn, 1) := by decide +kernel
theorem dX12_keep_0 : decode cX12_keep 0 = .ok (.aload_n 0, 1) := by decide +kernel
theorem dX12_keep_1 : decode cX12_keep 1 = .ok (.iconst 0, 1) := by decide +kernel
theorem dX12_keep_2 : decode cX12_keep 2 = .ok (.putfield 99, 3) := by decide +kernel
theorem dX12_keep_5 : decode cX12_keep 5 = .ok (.iload_n 1, 1) := by decide +kernel
theorem dX12_keep_6 : decode cX12_keep 6 = .ok (.invokestatic 272, 3) := by decide +kernel
theorem dX12_keep_9 : decode cX12_keep 9 = .ok (.ifCond .eq 34, 3) := by decide +kernel
theorem dX12_keep_12 : decode cX12_keep 12 = .ok (.iload_n 2, 1) := by decide +kernel
theorem dX12_keep_13 : decode cX12_keep 13 = .ok (.ifCond .eq 26, 3) := by decide +kernel
theorem dX12_keep_16 : decode cX12_keep 16 = .ok (.iload_n 2, 1) := by decide +kernel
theorem dX12_keep_17 : decode cX12_keep 17 = .ok (.iconst 1, 1) := by decide +kernel
theorem dX12_keep_18 : decode cX12_keep 18 = .ok (.if_icmp .ne 11, 3) := by decide +kernel
theorem dX12_keep_21 : decode cX12_keep 21 = .ok (.aload_n 0, 1) := by decide +kernel
theorem dX12_keep_22 : decode cX12_keep 22 = .ok (.iload_n 3, 1) := by decide +kernel
theorem dX12_keep_23 : decode cX12_keep 23 = .ok (.invokevirtual 132, 3) := by decide +kernel
theorem dX12_keep_26 : decode cX12_keep 26 = .ok (.ifCond .ne 13, 3) := by decide +kernel
theorem dX12_keep_29 : decode cX12_keep 29 = .ok (.iload_n 2, 1) := by decide +kernel
theorem dX12_keep_30 : decode cX12_keep 30 = .ok (.iconst 3, 1) := by decide +kernel
theorem dX12_keep_31 : decode cX12_keep 31 = .ok (.if_icmp .eq 8, 3) := by decide +kernel
theorem dX12_keep_34 : decode cX12_keep 34 = .ok (.iload_n 2, 1) := by decide +kernel
theorem dX12_keep_35 : decode cX12_keep 35 = .ok (.iconst 4, 1) := by decide +kernel
theorem dX12_keep_36 : decode cX12_keep 36 = .ok (.if_icmp .ne 7, 3) := by decide +kernel
theorem dX12_keep_39 : decode cX12_keep 39 = .ok (.iconst 1, 1) := by decide +kernel
theorem dX12_keep_40 : decode cX12_keep 40 = .ok (.goto 4, 3) := by decide +kernel
theorem dX12_keep_43 : decode cX12_keep 43 = .ok (.iconst 0, 1) := by decide +kernel
theorem dX12_keep_44 : decode cX12_keep 44 = .ok (.istore 4, 2) := by decide +kernel
theorem dX12_keep_46 : decode cX12_keep 46 = .ok (.iload 4, 2) := by decide +kernel
theorem dX12_keep_48 : decode cX12_keep 48 = .ok (.ifCond .ne 5, 3) := by decide +kernel
theorem dX12_keep_51 : decode cX12_keep 51 = .ok (.iconst (-1), 1) := by decide +kernel
theorem dX12_keep_52 : decode cX12_keep 52 = .ok (.ireturn, 1) := by decide +kernel
theorem dX12_keep_53 : decode cX12_keep 53 = .ok (.iload_n 2, 1) := by decide +kernel
theorem dX12_keep_54 : decode cX12_keep 54 = .ok (.iconst 3, 1) := by decide +kernel
theorem dX12_keep_55 : decode cX12_keep 55 = .ok (.if_icmp .ne 13, 3) := by decide +kernel
theorem dX12_keep_58 : decode cX12_keep 58 = .ok (.aload_n 0, 1) := by decide +kernel
theorem dX12_keep_59 : decode cX12_keep 59 = .ok (.getfield 106, 3) := by decide +kernel
theorem dX12_keep_62 : decode cX12_keep 62 = .ok (.ifCond .ne 6, 3) := by decide +kernel
theorem dX12_keep_65 : decode cX12_keep 65 = .ok (.bipush (-3), 2) := by decide +kernel
theorem dX12_keep_67 : decode cX12_keep 67 = .ok (.ireturn, 1) := by decide +kernel
theorem dX12_keep_68 : decode cX12_keep 68 = .ok (.aload_n 0, 1) := by decide +kernel
theorem dX12_keep_69 : decode cX12_keep 69 = .ok (.getfield 81, 3) := by decide +kernel
theorem dX12_keep_72 : decode cX12_keep 72 = .ok (.iload_n 1, 1) := by decide +kernel
theorem dX12_keep_73 : decode cX12_keep 73 = .ok (.iload_n 2, 1) := by decide +kernel
theorem dX12_keep_74 : decode cX12_keep 74 = .ok (.iastore, 1) := by decide +kernel
theorem dX12_keep_75 : decode cX12_keep 75 = .ok (.aload_n 0, 1) := by decide +kernel
theorem dX12_keep_76 : decode cX12_keep 76 = .ok (.getfield 84, 3) := by decide +kernel
theorem dX12_keep_79 : decode cX12_keep 79 = .ok (.iload_n 1, 1) := by decide +kernel
theorem dX12_keep_80 : decode cX12_keep 80 = .ok (.iload_n 2, 1) := by decide +kernel
theorem dX12_keep_81 : decode cX12_keep 81 = .ok (.iconst 3, 1) := by decide +kernel
theorem dX12_keep_82 : decode cX12_keep 82 = .ok (.if_icmp .ne 10, 3) := by decide +kernel
theorem dX12_keep_85 : decode cX12_keep 85 = .ok (.aload_n 0, 1) := by decide +kernel
theorem dX12_keep_86 : decode cX12_keep 86 = .ok (.getfield 103, 3) := by decide +kernel
theorem dX12_keep_89 : decode cX12_keep 89 = .ok (.goto 14, 3) := by decide +kernel
theorem dX12_keep_92 : decode cX12_keep 92 = .ok (.iload_n 2, 1) := by decide +kernel
theorem dX12_keep_93 : decode cX12_keep 93 = .ok (.iconst 4, 1) := by decide +kernel
theorem dX12_keep_94 : decode cX12_keep 94 = .ok (.if_icmp .ne 8, 3) := by decide +kernel
theorem dX12_keep_97 : decode cX12_keep 97 = .ok (.bipush 16, 2) := by decide +kernel
theorem dX12_keep_99 : decode cX12_keep 99 = .ok (.goto 4, 3) := by decide +kernel
theorem dX12_keep_102 : decode cX12_keep 102 = .ok (.iconst 0, 1) := by decide +kernel
theorem dX12_keep_103 : decode cX12_keep 103 = .ok (.iastore, 1) := by decide +kernel
theorem dX12_keep_104 : decode cX12_keep 104 = .ok (.iload_n 2, 1) := by decide +kernel
theorem dX12_keep_105 : decode cX12_keep 105 = .ok (.iconst 1, 1) := by decide +kernel
theorem dX12_keep_106 : decode cX12_keep 106 = .ok (.if_icmp .ne 76, 3) := by decide +kernel
theorem dX12_keep_109 : decode cX12_keep 109 = .ok (.aload_n 0, 1) := by decide +kernel
theorem dX12_keep_110 : decode cX12_keep 110 = .ok (.getfield 87, 3) := by decide +kernel
theorem dX12_keep_113 : decode cX12_keep 113 = .ok (.iload_n 1, 1) := by decide +kernel
theorem dX12_keep_114 : decode cX12_keep 114 = .ok (.aload_n 0, 1) := by decide +kernel
theorem dX12_keep_115 : decode cX12_keep 115 = .ok (.iload_n 3, 1) := by decide +kernel
theorem dX12_keep_116 : decode cX12_keep 116 = .ok (.invokevirtual 275, 3) := by decide +kernel
theorem dX12_keep_119 : decode cX12_keep 119 = .ok (.iastore, 1) := by decide +kernel
theorem dX12_keep_120 : decode cX12_keep 120 = .ok (.aload_n 0, 1) := by decide +kernel
theorem dX12_keep_121 : decode cX12_keep 121 = .ok (.getfield 90, 3) := by decide +kernel
theorem dX12_keep_124 : decode cX12_keep 124 = .ok (.iload_n 1, 1) := by decide +kernel
theorem dX12_keep_125 : decode cX12_keep 125 = .ok (.aload_n 0, 1) := by decide +kernel
theorem dX12_keep_126 : decode cX12_keep 126 = .ok (.getfield 7, 3) := by decide +kernel
theorem dX12_keep_129 : decode cX12_keep 129 = .ok (.iload_n 3, 1) := by decide +kernel
theorem dX12_keep_130 : decode cX12_keep 130 = .ok (.iaload, 1) := by decide +kernel
theorem dX12_keep_131 : decode cX12_keep 131 = .ok (.iconst 5, 1) := by decide +kernel
theorem dX12_keep_132 : decode cX12_keep 132 = .ok (.if_icmp .ne 7, 3) := by decide +kernel
theorem dX12_keep_135 : decode cX12_keep 135 = .ok (.iconst 1, 1) := by decide +kernel
theorem dX12_keep_136 : decode cX12_keep 136 = .ok (.goto 45, 3) := by decide +kernel
theorem dX12_keep_139 : decode cX12_keep 139 = .ok (.aload_n 0, 1) := by decide +kernel
theorem dX12_keep_140 : decode cX12_keep 140 = .ok (.getfield 7, 3) := by decide +kernel
theorem dX12_keep_143 : decode cX12_keep 143 = .ok (.iload_n 3, 1) := by decide +kernel
theorem dX12_keep_144 : decode cX12_keep 144 = .ok (.iaload, 1) := by decide +kernel
theorem dX12_keep_145 : decode cX12_keep 145 = .ok (.bipush 8, 2) := by decide +kernel
theorem dX12_keep_147 : decode cX12_keep 147 = .ok (.if_icmp .eq 14, 3) := by decide +kernel
theorem dX12_keep_150 : decode cX12_keep 150 = .ok (.aload_n 0, 1) := by decide +kernel
theorem dX12_keep_151 : decode cX12_keep 151 = .ok (.getfield 7, 3) := by decide +kernel
theorem dX12_keep_154 : decode cX12_keep 154 = .ok (.iload_n 3, 1) := by decide +kernel
theorem dX12_keep_155 : decode cX12_keep 155 = .ok (.iaload, 1) := by decide +kernel
theorem dX12_keep_156 : decode cX12_keep 156 = .ok (.bipush 9, 2) := by decide +kernel
theorem dX12_keep_158 : decode cX12_keep 158 = .ok (.if_icmp .ne 7, 3) := by decide +kernel
theorem dX12_keep_161 : decode cX12_keep 161 = .ok (.iconst 2, 1) := by decide +kernel
theorem dX12_keep_162 : decode cX12_keep 162 = .ok (.goto 19, 3) := by decide +kernel
theorem dX12_keep_165 : decode cX12_keep 165 = .ok (.aload_n 0, 1) := by decide +kernel
theorem dX12_keep_166 : decode cX12_keep 166 = .ok (.getfield 7, 3) := by decide +kernel
theorem dX12_keep_169 : decode cX12_keep 169 = .ok (.iload_n 3, 1) := by decide +kernel
theorem dX12_keep_170 : decode cX12_keep 170 = .ok (.iaload, 1) := by decide +kernel
theorem dX12_keep_171 : decode cX12_keep 171 = .ok (.iconst 1, 1) := by decide +kernel
theorem dX12_keep_172 : decode cX12_keep 172 = .ok (.if_icmp .ne 7, 3) := by decide +kernel
theorem dX12_keep_175 : decode cX12_keep 175 = .ok (.iconst 3, 1) := by decide +kernel
theorem dX12_keep_176 : decode cX12_keep 176 = .ok (.goto 5, 3) := by decide +kernel
theorem dX12_keep_179 : decode cX12_keep 179 = .ok (.bipush (-15), 2) := by decide +kernel
theorem dX12_keep_181 : decode cX12_keep 181 = .ok (.iastore, 1) := by decide +kernel
theorem dX12_keep_182 : decode cX12_keep 182 = .ok (.iconst 0, 1) := by decide +kernel
theorem dX12_keep_183 : decode cX12_keep 183 = .ok (.istore 5, 2) := by decide +kernel
theorem dX12_keep_185 : decode cX12_keep 185 = .ok (.iload 5, 2) := by decide +kernel
theorem dX12_keep_187 : decode cX12_keep 187 = .ok (.aload_n 0, 1) := by decide +kernel
theorem dX12_keep_188 : decode cX12_keep 188 = .ok (.getfield 84, 3) := by decide +kernel
theorem dX12_keep_191 : decode cX12_keep 191 = .ok (.iload_n 1, 1) := by decide +kernel
theorem dX12_keep_192 : decode cX12_keep 192 = .ok (.iaload, 1) := by decide +kernel
theorem dX12_keep_193 : decode cX12_keep 193 = .ok (.if_icmp .ge 44, 3) := by decide +kernel
theorem dX12_keep_196 : decode cX12_keep 196 = .ok (.aload_n 0, 1) := by decide +kernel
theorem dX12_keep_197 : decode cX12_keep 197 = .ok (.getfield 93, 3) := by decide +kernel
theorem dX12_keep_200 : decode cX12_keep 200 = .ok (.bipush 60, 2) := by decide +kernel
theorem dX12_keep_202 : decode cX12_keep 202 = .ok (.iload_n 1, 1) := by decide +kernel
theorem dX12_keep_203 : decode cX12_keep 203 = .ok (.imul, 1) := by decide +kernel
theorem dX12_keep_204 : decode cX12_keep 204 = .ok (.iload 5, 2) := by decide +kernel
theorem dX12_keep_206 : decode cX12_keep 206 = .ok (.iadd, 1) := by decide +kernel
theorem dX12_keep_207 : decode cX12_keep 207 = .ok (.iload_n 2, 1) := by decide +kernel
theorem dX12_keep_208 : decode cX12_keep 208 = .ok (.iconst 3, 1) := by decide +kernel
theorem dX12_keep_209 : decode cX12_keep 209 = .ok (.if_icmp .ne 14, 3) := by decide +kernel
theorem dX12_keep_212 : decode cX12_keep 212 = .ok (.aload_n 0, 1) := by decide +kernel
theorem dX12_keep_213 : decode cX12_keep 213 = .ok (.getfield 45, 3) := by decide +kernel
theorem dX12_keep_216 : decode cX12_keep 216 = .ok (.iload 5, 2) := by decide +kernel
theorem dX12_keep_218 : decode cX12_keep 218 = .ok (.iaload, 1) := by decide +kernel
theorem dX12_keep_219 : decode cX12_keep 219 = .ok (.i2l, 1) := by decide +kernel
theorem dX12_keep_220 : decode cX12_keep 220 = .ok (.goto 10, 3) := by decide +kernel
theorem dX12_keep_223 : decode cX12_keep 223 = .ok (.aload_n 0, 1) := by decide +kernel
theorem dX12_keep_224 : decode cX12_keep 224 = .ok (.getfield 42, 3) := by decide +kernel
theorem dX12_keep_227 : decode cX12_keep 227 = .ok (.iload 5, 2) := by decide +kernel
theorem dX12_keep_229 : decode cX12_keep 229 = .ok (.laload, 1) := by decide +kernel
theorem dX12_keep_230 : decode cX12_keep 230 = .ok (.lastore, 1) := by decide +kernel
theorem dX12_keep_231 : decode cX12_keep 231 = .ok (.iinc 5 1, 3) := by decide +kernel
theorem dX12_keep_234 : decode cX12_keep 234 = .ok (.goto (-49), 3) := by decide +kernel
theorem dX12_keep_237 : decode cX12_keep 237 = .ok (.iconst 0, 1) := by decide +kernel
theorem dX12_keep_238 : decode cX12_keep 238 = .ok (.ireturn, 1) := by decide +kernel
theorem dX12_make_0 : decode cX12_make 0 = .ok (.aload_n 0, 1) := by decide +kernel
theorem dX12_make_1 : decode cX12_make 1 = .ok (.iconst 0, 1) := by decide +kernel
theorem dX12_make_2 : decode cX12_make 2 = .ok (.putfield 99, 3) := by decide +kernel
theorem dX12_make_5 : decode cX12_make 5 = .ok (.iload_n 1, 1) := by decide +kernel
theorem dX12_make_6 : decode cX12_make 6 = .ok (.invokestatic 272, 3) := by decide +kernel
theorem dX12_make_9 : decode cX12_make 9 = .ok (.ifCond .eq 23, 3) := by decide +kernel
theorem dX12_make_12 : decode cX12_make 12 = .ok (.iload_n 2, 1) := by decide +kernel
theorem dX12_make_13 : decode cX12_make 13 = .ok (.i2l, 1) := by decide +kernel
theorem dX12_make_14 : decode cX12_make 14 = .ok (.ldc2_w 130, 3) := by decide +kernel
theorem dX12_make_17 : decode cX12_make 17 = .ok (.ldc2_w 140, 3) := by decide +kernel
theorem dX12_make_20 : decode cX12_make 20 = .ok (.invokestatic 118, 3) := by decide +kernel
theorem dX12_make_23 : decode cX12_make 23 = .ok (.ifCond .eq 9, 3) := by decide +kernel
theorem dX12_make_26 : decode cX12_make 26 = .ok (.iload_n 3, 1) := by decide +kernel
theorem dX12_make_27 : decode cX12_make 27 = .ok (.bipush 60, 2) := by decide +kernel
theorem dX12_make_29 : decode cX12_make 29 = .ok (.if_icmp .le 5, 3) := by decide +kernel
theorem dX12_make_32 : decode cX12_make 32 = .ok (.iconst (-1), 1) := by decide +kernel
theorem dX12_make_33 : decode cX12_make 33 = .ok (.ireturn, 1) := by decide +kernel
theorem dX12_make_34 : decode cX12_make 34 = .ok (.iload_n 3, 1) := by decide +kernel
theorem dX12_make_35 : decode cX12_make 35 = .ok (.ifCond .ge 6, 3) := by decide +kernel
theorem dX12_make_38 : decode cX12_make 38 = .ok (.bipush (-14), 2) := by decide +kernel
theorem dX12_make_40 : decode cX12_make 40 = .ok (.ireturn, 1) := by decide +kernel
theorem dX12_make_41 : decode cX12_make 41 = .ok (.aload_n 0, 1) := by decide +kernel
theorem dX12_make_42 : decode cX12_make 42 = .ok (.getfield 81, 3) := by decide +kernel
theorem dX12_make_45 : decode cX12_make 45 = .ok (.iload_n 1, 1) := by decide +kernel
theorem dX12_make_46 : decode cX12_make 46 = .ok (.iload_n 2, 1) := by decide +kernel
theorem dX12_make_47 : decode cX12_make 47 = .ok (.iastore, 1) := by decide +kernel
theorem dX12_make_48 : decode cX12_make 48 = .ok (.aload_n 0, 1) := by decide +kernel
theorem dX12_make_49 : decode cX12_make 49 = .ok (.getfield 84, 3) := by decide +kernel
theorem dX12_make_52 : decode cX12_make 52 = .ok (.iload_n 1, 1) := by decide +kernel
theorem dX12_make_53 : decode cX12_make 53 = .ok (.iload_n 3, 1) := by decide +kernel
theorem dX12_make_54 : decode cX12_make 54 = .ok (.iastore, 1) := by decide +kernel
theorem dX12_make_55 : decode cX12_make 55 = .ok (.iconst 0, 1) := by decide +kernel
theorem dX12_make_56 : decode cX12_make 56 = .ok (.istore 4, 2) := by decide +kernel
theorem dX12_make_58 : decode cX12_make 58 = .ok (.iload 4, 2) := by decide +kernel
theorem dX12_make_60 : decode cX12_make 60 = .ok (.iload_n 3, 1) := by decide +kernel
theorem dX12_make_61 : decode cX12_make 61 = .ok (.if_icmp .ge 22, 3) := by decide +kernel
theorem dX12_make_64 : decode cX12_make 64 = .ok (.aload_n 0, 1) := by decide +kernel
theorem dX12_make_65 : decode cX12_make 65 = .ok (.getfield 93, 3) := by decide +kernel
theorem dX12_make_68 : decode cX12_make 68 = .ok (.bipush 60, 2) := by decide +kernel
theorem dX12_make_70 : decode cX12_make 70 = .ok (.iload_n 1, 1) := by decide +kernel
theorem dX12_make_71 : decode cX12_make 71 = .ok (.imul, 1) := by decide +kernel
theorem dX12_make_72 : decode cX12_make 72 = .ok (.iload 4, 2) := by decide +kernel
theorem dX12_make_74 : decode cX12_make 74 = .ok (.iadd, 1) := by decide +kernel
theorem dX12_make_75 : decode cX12_make 75 = .ok (.lconst 0, 1) := by decide +kernel
theorem dX12_make_76 : decode cX12_make 76 = .ok (.lastore, 1) := by decide +kernel
theorem dX12_make_77 : decode cX12_make 77 = .ok (.iinc 4 1, 3) := by decide +kernel
theorem dX12_make_80 : decode cX12_make 80 = .ok (.goto (-22), 3) := by decide +kernel
theorem dX12_make_83 : decode cX12_make 83 = .ok (.iconst 0, 1) := by decide +kernel
theorem dX12_make_84 : decode cX12_make 84 = .ok (.ireturn, 1) := by decide +kernel
theorem dX12_element_0 : decode cX12_element 0 = .ok (.iload_n 1, 1) := by decide +kernel
theorem dX12_element_1 : decode cX12_element 1 = .ok (.invokestatic 272, 3) := by decide +kernel
theorem dX12_element_4 : decode cX12_element 4 = .ok (.ifCond .eq 35, 3) := by decide +kernel
theorem dX12_element_7 : decode cX12_element 7 = .ok (.aload_n 0, 1) := by decide +kernel
theorem dX12_element_8 : decode cX12_element 8 = .ok (.getfield 81, 3) := by decide +kernel
theorem dX12_element_11 : decode cX12_element 11 = .ok (.iload_n 1, 1) := by decide +kernel
theorem dX12_element_12 : decode cX12_element 12 = .ok (.iaload, 1) := by decide +kernel
theorem dX12_element_13 : decode cX12_element 13 = .ok (.iconst 2, 1) := by decide +kernel
theorem dX12_element_14 : decode cX12_element 14 = .ok (.if_icmp .le 25, 3) := by decide +kernel
theorem dX12_element_17 : decode cX12_element 17 = .ok (.iload_n 2, 1) := by decide +kernel
theorem dX12_element_18 : decode cX12_element 18 = .ok (.i2l, 1) := by decide +kernel
theorem dX12_element_19 : decode cX12_element 19 = .ok (.lconst 0, 1) := by decide +kernel
theorem dX12_element_20 : decode cX12_element 20 = .ok (.aload_n 0, 1) := by decide +kernel
theorem dX12_element_21 : decode cX12_element 21 = .ok (.getfield 84, 3) := by decide +kernel
theorem dX12_element_24 : decode cX12_element 24 = .ok (.iload_n 1, 1) := by decide +kernel
theorem dX12_element_25 : decode cX12_element 25 = .ok (.iaload, 1) := by decide +kernel
theorem dX12_element_26 : decode cX12_element 26 = .ok (.iconst 1, 1) := by decide +kernel
theorem dX12_element_27 : decode cX12_element 27 = .ok (.isub, 1) := by decide +kernel
theorem dX12_element_28 : decode cX12_element 28 = .ok (.i2l, 1) := by decide +kernel
theorem dX12_element_29 : decode cX12_element 29 = .ok (.invokestatic 118, 3) := by decide +kernel
theorem dX12_element_32 : decode cX12_element 32 = .ok (.ifCond .eq 7, 3) := by decide +kernel
theorem dX12_element_35 : decode cX12_element 35 = .ok (.iconst 1, 1) := by decide +kernel
theorem dX12_element_36 : decode cX12_element 36 = .ok (.goto 4, 3) := by decide +kernel
theorem dX12_element_39 : decode cX12_element 39 = .ok (.iconst 0, 1) := by decide +kernel
theorem dX12_element_40 : decode cX12_element 40 = .ok (.istore_n 3, 1) := by decide +kernel
theorem dX12_element_41 : decode cX12_element 41 = .ok (.aload_n 0, 1) := by decide +kernel
theorem dX12_element_42 : decode cX12_element 42 = .ok (.iload_n 1, 1) := by decide +kernel
theorem dX12_element_43 : decode cX12_element 43 = .ok (.invokestatic 272, 3) := by decide +kernel
theorem dX12_element_46 : decode cX12_element 46 = .ok (.ifCond .ne 7, 3) := by decide +kernel
theorem dX12_element_49 : decode cX12_element 49 = .ok (.iconst 1, 1) := by decide +kernel
theorem dX12_element_50 : decode cX12_element 50 = .ok (.goto 12, 3) := by decide +kernel
theorem dX12_element_53 : decode cX12_element 53 = .ok (.iload_n 3, 1) := by decide +kernel
theorem dX12_element_54 : decode cX12_element 54 = .ok (.ifCond .eq 7, 3) := by decide +kernel
theorem dX12_element_57 : decode cX12_element 57 = .ok (.iconst 0, 1) := by decide +kernel
theorem dX12_element_58 : decode cX12_element 58 = .ok (.goto 4, 3) := by decide +kernel
theorem dX12_element_61 : decode cX12_element 61 = .ok (.iconst 2, 1) := by decide +kernel
theorem dX12_element_62 : decode cX12_element 62 = .ok (.putfield 99, 3) := by decide +kernel
theorem dX12_element_65 : decode cX12_element 65 = .ok (.iload_n 3, 1) := by decide +kernel
theorem dX12_element_66 : decode cX12_element 66 = .ok (.ifCond .eq 17, 3) := by decide +kernel
theorem dX12_element_69 : decode cX12_element 69 = .ok (.aload_n 0, 1) := by decide +kernel
theorem dX12_element_70 : decode cX12_element 70 = .ok (.getfield 93, 3) := by decide +kernel
theorem dX12_element_73 : decode cX12_element 73 = .ok (.bipush 60, 2) := by decide +kernel
theorem dX12_element_75 : decode cX12_element 75 = .ok (.iload_n 1, 1) := by decide +kernel
theorem dX12_element_76 : decode cX12_element 76 = .ok (.imul, 1) := by decide +kernel
theorem dX12_element_77 : decode cX12_element 77 = .ok (.iload_n 2, 1) := by decide +kernel
theorem dX12_element_78 : decode cX12_element 78 = .ok (.iadd, 1) := by decide +kernel
theorem dX12_element_79 : decode cX12_element 79 = .ok (.laload, 1) := by decide +kernel
theorem dX12_element_80 : decode cX12_element 80 = .ok (.goto 4, 3) := by decide +kernel
theorem dX12_element_83 : decode cX12_element 83 = .ok (.lconst 0, 1) := by decide +kernel
theorem dX12_element_84 : decode cX12_element 84 = .ok (.lreturn, 1) := by decide +kernel
theorem dX12_hasPlaces_0 : decode cX12_hasPlaces 0 = .ok (.iload_n 3, 1) := by decide +kernel
theorem dX12_hasPlaces_1 : decode cX12_hasPlaces 1 = .ok (.ifCond .lt 33, 3) := by decide +kernel
theorem dX12_hasPlaces_4 : decode cX12_hasPlaces 4 = .ok (.iload_n 2, 1) := by decide +kernel
theorem dX12_hasPlaces_5 : decode cX12_hasPlaces 5 = .ok (.ifCond .lt 29, 3) := by decide +kernel
theorem dX12_hasPlaces_8 : decode cX12_hasPlaces 8 = .ok (.iload_n 2, 1) := by decide +kernel
theorem dX12_hasPlaces_9 : decode cX12_hasPlaces 9 = .ok (.aload_n 0, 1) := by decide +kernel
theorem dX12_hasPlaces_10 : decode cX12_hasPlaces 10 = .ok (.getfield 84, 3) := by decide +kernel
theorem dX12_hasPlaces_13 : decode cX12_hasPlaces 13 = .ok (.iload_n 1, 1) := by decide +kernel
theorem dX12_hasPlaces_14 : decode cX12_hasPlaces 14 = .ok (.iaload, 1) := by decide +kernel
theorem dX12_hasPlaces_15 : decode cX12_hasPlaces 15 = .ok (.if_icmp .gt 19, 3) := by decide +kernel
theorem dX12_hasPlaces_18 : decode cX12_hasPlaces 18 = .ok (.iload_n 3, 1) := by decide +kernel
theorem dX12_hasPlaces_19 : decode cX12_hasPlaces 19 = .ok (.aload_n 0, 1) := by decide +kernel
theorem dX12_hasPlaces_20 : decode cX12_hasPlaces 20 = .ok (.getfield 84, 3) := by decide +kernel
theorem dX12_hasPlaces_23 : decode cX12_hasPlaces 23 = .ok (.iload_n 1, 1) := by decide +kernel
theorem dX12_hasPlaces_24 : decode cX12_hasPlaces 24 = .ok (.iaload, 1) := by decide +kernel
theorem dX12_hasPlaces_25 : decode cX12_hasPlaces 25 = .ok (.iload_n 2, 1) := by decide +kernel
theorem dX12_hasPlaces_26 : decode cX12_hasPlaces 26 = .ok (.isub, 1) := by decide +kernel
theorem dX12_hasPlaces_27 : decode cX12_hasPlaces 27 = .ok (.if_icmp .gt 7, 3) := by decide +kernel
theorem dX12_hasPlaces_30 : decode cX12_hasPlaces 30 = .ok (.iconst 1, 1) := by decide +kernel
theorem dX12_hasPlaces_31 : decode cX12_hasPlaces 31 = .ok (.goto 4, 3) := by decide +kernel
theorem dX12_hasPlaces_34 : decode cX12_hasPlaces 34 = .ok (.iconst 0, 1) := by decide +kernel
theorem dX12_hasPlaces_35 : decode cX12_hasPlaces 35 = .ok (.ireturn, 1) := by decide +kernel
theorem dX12_copy_0 : decode cX12_copy 0 = .ok (.aload_n 0, 1) := by decide +kernel
theorem dX12_copy_1 : decode cX12_copy 1 = .ok (.iconst 0, 1) := by decide +kernel
theorem dX12_copy_2 : decode cX12_copy 2 = .ok (.putfield 99, 3) := by decide +kernel
theorem dX12_copy_5 : decode cX12_copy 5 = .ok (.iload_n 1, 1) := by decide +kernel
theorem dX12_copy_6 : decode cX12_copy 6 = .ok (.invokestatic 272, 3) := by decide +kernel
theorem dX12_copy_9 : decode cX12_copy 9 = .ok (.ifCond .eq 10, 3) := by decide +kernel
theorem dX12_copy_12 : decode cX12_copy 12 = .ok (.iload_n 3, 1) := by decide +kernel
theorem dX12_copy_13 : decode cX12_copy 13 = .ok (.invokestatic 272, 3) := by decide +kernel
theorem dX12_copy_16 : decode cX12_copy 16 = .ok (.ifCond .ne 5, 3) := by decide +kernel
theorem dX12_copy_19 : decode cX12_copy 19 = .ok (.iconst (-1), 1) := by decide +kernel
theorem dX12_copy_20 : decode cX12_copy 20 = .ok (.ireturn, 1) := by decide +kernel
theorem dX12_copy_21 : decode cX12_copy 21 = .ok (.aload_n 0, 1) := by decide +kernel
theorem dX12_copy_22 : decode cX12_copy 22 = .ok (.getfield 81, 3) := by decide +kernel
theorem dX12_copy_25 : decode cX12_copy 25 = .ok (.iload_n 1, 1) := by decide +kernel
theorem dX12_copy_26 : decode cX12_copy 26 = .ok (.iaload, 1) := by decide +kernel
theorem dX12_copy_27 : decode cX12_copy 27 = .ok (.ifCond .eq 12, 3) := by decide +kernel
theorem dX12_copy_30 : decode cX12_copy 30 = .ok (.aload_n 0, 1) := by decide +kernel
theorem dX12_copy_31 : decode cX12_copy 31 = .ok (.getfield 81, 3) := by decide +kernel
theorem dX12_copy_34 : decode cX12_copy 34 = .ok (.iload_n 3, 1) := by decide +kernel
theorem dX12_copy_35 : decode cX12_copy 35 = .ok (.iaload, 1) := by decide +kernel
theorem dX12_copy_36 : decode cX12_copy 36 = .ok (.ifCond .ne 6, 3) := by decide +kernel
theorem dX12_copy_39 : decode cX12_copy 39 = .ok (.bipush (-11), 2) := by decide +kernel
theorem dX12_copy_41 : decode cX12_copy 41 = .ok (.ireturn, 1) := by decide +kernel
theorem dX12_copy_42 : decode cX12_copy 42 = .ok (.aload_n 0, 1) := by decide +kernel
theorem dX12_copy_43 : decode cX12_copy 43 = .ok (.getfield 81, 3) := by decide +kernel
theorem dX12_copy_46 : decode cX12_copy 46 = .ok (.iload_n 1, 1) := by decide +kernel
theorem dX12_copy_47 : decode cX12_copy 47 = .ok (.iaload, 1) := by decide +kernel
theorem dX12_copy_48 : decode cX12_copy 48 = .ok (.iconst 3, 1) := by decide +kernel
theorem dX12_copy_49 : decode cX12_copy 49 = .ok (.if_icmp .lt 18, 3) := by decide +kernel
theorem dX12_copy_52 : decode cX12_copy 52 = .ok (.aload_n 0, 1) := by decide +kernel
theorem dX12_copy_53 : decode cX12_copy 53 = .ok (.getfield 81, 3) := by decide +kernel
theorem dX12_copy_56 : decode cX12_copy 56 = .ok (.iload_n 1, 1) := by decide +kernel
theorem dX12_copy_57 : decode cX12_copy 57 = .ok (.iaload, 1) := by decide +kernel
theorem dX12_copy_58 : decode cX12_copy 58 = .ok (.aload_n 0, 1) := by decide +kernel
theorem dX12_copy_59 : decode cX12_copy 59 = .ok (.getfield 81, 3) := by decide +kernel
theorem dX12_copy_62 : decode cX12_copy 62 = .ok (.iload_n 3, 1) := by decide +kernel
theorem dX12_copy_63 : decode cX12_copy 63 = .ok (.iaload, 1) := by decide +kernel
theorem dX12_copy_64 : decode cX12_copy 64 = .ok (.if_icmp .eq 6, 3) := by decide +kernel
theorem dX12_copy_67 : decode cX12_copy 67 = .ok (.bipush (-12), 2) := by decide +kernel
theorem dX12_copy_69 : decode cX12_copy 69 = .ok (.ireturn, 1) := by decide +kernel
theorem dX12_copy_70 : decode cX12_copy 70 = .ok (.aload_n 0, 1) := by decide +kernel
theorem dX12_copy_71 : decode cX12_copy 71 = .ok (.iload_n 1, 1) := by decide +kernel
theorem dX12_copy_72 : decode cX12_copy 72 = .ok (.iload_n 2, 1) := by decide +kernel
theorem dX12_copy_73 : decode cX12_copy 73 = .ok (.iload 5, 2) := by decide +kernel
theorem dX12_copy_75 : decode cX12_copy 75 = .ok (.invokevirtual 278, 3) := by decide +kernel
theorem dX12_copy_78 : decode cX12_copy 78 = .ok (.ifCond .eq 15, 3) := by decide +kernel
theorem dX12_copy_81 : decode cX12_copy 81 = .ok (.aload_n 0, 1) := by decide +kernel
theorem dX12_copy_82 : decode cX12_copy 82 = .ok (.iload_n 3, 1) := by decide +kernel
theorem dX12_copy_83 : decode cX12_copy 83 = .ok (.iload 4, 2) := by decide +kernel
theorem dX12_copy_85 : decode cX12_copy 85 = .ok (.iload 5, 2) := by decide +kernel
theorem dX12_copy_87 : decode cX12_copy 87 = .ok (.invokevirtual 278, 3) := by decide +kernel
theorem dX12_copy_90 : decode cX12_copy 90 = .ok (.ifCond .ne 6, 3) := by decide +kernel
theorem dX12_copy_93 : decode cX12_copy 93 = .ok (.bipush (-13), 2) := by decide +kernel
theorem dX12_copy_95 : decode cX12_copy 95 = .ok (.ireturn, 1) := by decide +kernel
theorem dX12_copy_96 : decode cX12_copy 96 = .ok (.iconst 0, 1) := by decide +kernel
theorem dX12_copy_97 : decode cX12_copy 97 = .ok (.istore 6, 2) := by decide +kernel
theorem dX12_copy_99 : decode cX12_copy 99 = .ok (.iload 6, 2) := by decide +kernel
theorem dX12_copy_101 : decode cX12_copy 101 = .ok (.iload 5, 2) := by decide +kernel
theorem dX12_copy_103 : decode cX12_copy 103 = .ok (.if_icmp .ge 30, 3) := by decide +kernel
theorem dX12_copy_106 : decode cX12_copy 106 = .ok (.aload_n 0, 1) := by decide +kernel
theorem dX12_copy_107 : decode cX12_copy 107 = .ok (.getfield 96, 3) := by decide +kernel
theorem dX12_copy_110 : decode cX12_copy 110 = .ok (.iload 6, 2) := by decide +kernel
theorem dX12_copy_112 : decode cX12_copy 112 = .ok (.aload_n 0, 1) := by decide +kernel
theorem dX12_copy_113 : decode cX12_copy 113 = .ok (.getfield 93, 3) := by decide +kernel
theorem dX12_copy_116 : decode cX12_copy 116 = .ok (.bipush 60, 2) := by decide +kernel
theorem dX12_copy_118 : decode cX12_copy 118 = .ok (.iload_n 1, 1) := by decide +kernel
theorem dX12_copy_119 : decode cX12_copy 119 = .ok (.imul, 1) := by decide +kernel
theorem dX12_copy_120 : decode cX12_copy 120 = .ok (.iload_n 2, 1) := by decide +kernel
theorem dX12_copy_121 : decode cX12_copy 121 = .ok (.iadd, 1) := by decide +kernel
theorem dX12_copy_122 : decode cX12_copy 122 = .ok (.iload 6, 2) := by decide +kernel
theorem dX12_copy_124 : decode cX12_copy 124 = .ok (.iadd, 1) := by decide +kernel
theorem dX12_copy_125 : decode cX12_copy 125 = .ok (.laload, 1) := by decide +kernel
theorem dX12_copy_126 : decode cX12_copy 126 = .ok (.lastore, 1) := by decide +kernel
theorem dX12_copy_127 : decode cX12_copy 127 = .ok (.iinc 6 1, 3) := by decide +kernel
theorem dX12_copy_130 : decode cX12_copy 130 = .ok (.goto (-31), 3) := by decide +kernel
theorem dX12_copy_133 : decode cX12_copy 133 = .ok (.iconst 0, 1) := by decide +kernel
theorem dX12_copy_134 : decode cX12_copy 134 = .ok (.istore 6, 2) := by decide +kernel
theorem dX12_copy_136 : decode cX12_copy 136 = .ok (.iload 6, 2) := by decide +kernel
theorem dX12_copy_138 : decode cX12_copy 138 = .ok (.iload 5, 2) := by decide +kernel
theorem dX12_copy_140 : decode cX12_copy 140 = .ok (.if_icmp .ge 31, 3) := by decide +kernel
theorem dX12_copy_143 : decode cX12_copy 143 = .ok (.aload_n 0, 1) := by decide +kernel
theorem dX12_copy_144 : decode cX12_copy 144 = .ok (.getfield 93, 3) := by decide +kernel
theorem dX12_copy_147 : decode cX12_copy 147 = .ok (.bipush 60, 2) := by decide +kernel
theorem dX12_copy_149 : decode cX12_copy 149 = .ok (.iload_n 3, 1) := by decide +kernel
theorem dX12_copy_150 : decode cX12_copy 150 = .ok (.imul, 1) := by decide +kernel
theorem dX12_copy_151 : decode cX12_copy 151 = .ok (.iload 4, 2) := by decide +kernel
theorem dX12_copy_153 : decode cX12_copy 153 = .ok (.iadd, 1) := by decide +kernel
theorem dX12_copy_154 : decode cX12_copy 154 = .ok (.iload 6, 2) := by decide +kernel
theorem dX12_copy_156 : decode cX12_copy 156 = .ok (.iadd, 1) := by decide +kernel
theorem dX12_copy_157 : decode cX12_copy 157 = .ok (.aload_n 0, 1) := by decide +kernel
theorem dX12_copy_158 : decode cX12_copy 158 = .ok (.getfield 96, 3) := by decide +kernel
theorem dX12_copy_161 : decode cX12_copy 161 = .ok (.iload 6, 2) := by decide +kernel
theorem dX12_copy_163 : decode cX12_copy 163 = .ok (.laload, 1) := by decide +kernel
theorem dX12_copy_164 : decode cX12_copy 164 = .ok (.lastore, 1) := by decide +kernel
theorem dX12_copy_165 : decode cX12_copy 165 = .ok (.iinc 6 1, 3) := by decide +kernel
theorem dX12_copy_168 : decode cX12_copy 168 = .ok (.goto (-32), 3) := by decide +kernel
theorem dX12_copy_171 : decode cX12_copy 171 = .ok (.iload 5, 2) := by decide +kernel
theorem dX12_copy_173 : decode cX12_copy 173 = .ok (.ireturn, 1) := by decide +kernel
theorem dX12_denied_0 : decode cX12_denied 0 = .ok (.iload_n 1, 1) := by decide +kernel
theorem dX12_denied_1 : decode cX12_denied 1 = .ok (.invokestatic 272, 3) := by decide +kernel
theorem dX12_denied_4 : decode cX12_denied 4 = .ok (.ifCond .ne 7, 3) := by decide +kernel
theorem dX12_denied_7 : decode cX12_denied 7 = .ok (.iconst (-1), 1) := by decide +kernel
theorem dX12_denied_8 : decode cX12_denied 8 = .ok (.goto 33, 3) := by decide +kernel
theorem dX12_denied_11 : decode cX12_denied 11 = .ok (.aload_n 0, 1) := by decide +kernel
theorem dX12_denied_12 : decode cX12_denied 12 = .ok (.getfield 81, 3) := by decide +kernel
theorem dX12_denied_15 : decode cX12_denied 15 = .ok (.iload_n 1, 1) := by decide +kernel
theorem dX12_denied_16 : decode cX12_denied 16 = .ok (.iaload, 1) := by decide +kernel
theorem dX12_denied_17 : decode cX12_denied 17 = .ok (.ifCond .ne 8, 3) := by decide +kernel
theorem dX12_denied_20 : decode cX12_denied 20 = .ok (.bipush (-11), 2) := by decide +kernel
theorem dX12_denied_22 : decode cX12_denied 22 = .ok (.goto 19, 3) := by decide +kernel
theorem dX12_denied_25 : decode cX12_denied 25 = .ok (.aload_n 0, 1) := by decide +kernel
theorem dX12_denied_26 : decode cX12_denied 26 = .ok (.getfield 81, 3) := by decide +kernel
theorem dX12_denied_29 : decode cX12_denied 29 = .ok (.iload_n 1, 1) := by decide +kernel
theorem dX12_denied_30 : decode cX12_denied 30 = .ok (.iaload, 1) := by decide +kernel
theorem dX12_denied_31 : decode cX12_denied 31 = .ok (.iconst 1, 1) := by decide +kernel
theorem dX12_denied_32 : decode cX12_denied 32 = .ok (.if_icmp .le 8, 3) := by decide +kernel
theorem dX12_denied_35 : decode cX12_denied 35 = .ok (.bipush (-12), 2) := by decide +kernel
theorem dX12_denied_37 : decode cX12_denied 37 = .ok (.goto 4, 3) := by decide +kernel
theorem dX12_denied_40 : decode cX12_denied 40 = .ok (.iconst 0, 1) := by decide +kernel
theorem dX12_denied_41 : decode cX12_denied 41 = .ok (.ireturn, 1) := by decide +kernel
theorem dX12_weight_0 : decode cX12_weight 0 = .ok (.aload_n 0, 1) := by decide +kernel
theorem dX12_weight_1 : decode cX12_weight 1 = .ok (.iconst 0, 1) := by decide +kernel
theorem dX12_weight_2 : decode cX12_weight 2 = .ok (.putfield 99, 3) := by decide +kernel
theorem dX12_weight_5 : decode cX12_weight 5 = .ok (.aload_n 0, 1) := by decide +kernel
theorem dX12_weight_6 : decode cX12_weight 6 = .ok (.iload_n 1, 1) := by decide +kernel
theorem dX12_weight_7 : decode cX12_weight 7 = .ok (.invokevirtual 281, 3) := by decide +kernel
theorem dX12_weight_10 : decode cX12_weight 10 = .ok (.istore_n 2, 1) := by decide +kernel
theorem dX12_weight_11 : decode cX12_weight 11 = .ok (.iload_n 2, 1) := by decide +kernel
theorem dX12_weight_12 : decode cX12_weight 12 = .ok (.ifCond .ge 7, 3) := by decide +kernel
theorem dX12_weight_15 : decode cX12_weight 15 = .ok (.iload_n 2, 1) := by decide +kernel
theorem dX12_weight_16 : decode cX12_weight 16 = .ok (.goto 9, 3) := by decide +kernel
theorem dX12_weight_19 : decode cX12_weight 19 = .ok (.aload_n 0, 1) := by decide +kernel
theorem dX12_weight_20 : decode cX12_weight 20 = .ok (.getfield 87, 3) := by decide +kernel
theorem dX12_weight_23 : decode cX12_weight 23 = .ok (.iload_n 1, 1) := by decide +kernel
theorem dX12_weight_24 : decode cX12_weight 24 = .ok (.iaload, 1) := by decide +kernel
theorem dX12_weight_25 : decode cX12_weight 25 = .ok (.ireturn, 1) := by decide +kernel
theorem dX12_toss_0 : decode cX12_toss 0 = .ok (.aload_n 0, 1) := by decide +kernel
theorem dX12_toss_1 : decode cX12_toss 1 = .ok (.iconst 0, 1) := by decide +kernel
theorem dX12_toss_2 : decode cX12_toss 2 = .ok (.putfield 99, 3) := by decide +kernel
theorem dX12_toss_5 : decode cX12_toss 5 = .ok (.aload_n 0, 1) := by decide +kernel
theorem dX12_toss_6 : decode cX12_toss 6 = .ok (.iload_n 1, 1) := by decide +kernel
theorem dX12_toss_7 : decode cX12_toss 7 = .ok (.invokevirtual 281, 3) := by decide +kernel
theorem dX12_toss_10 : decode cX12_toss 10 = .ok (.istore_n 2, 1) := by decide +kernel
theorem dX12_toss_11 : decode cX12_toss 11 = .ok (.iload_n 2, 1) := by decide +kernel
theorem dX12_toss_12 : decode cX12_toss 12 = .ok (.ifCond .ge 7, 3) := by decide +kernel
theorem dX12_toss_15 : decode cX12_toss 15 = .ok (.iload_n 2, 1) := by decide +kernel
theorem dX12_toss_16 : decode cX12_toss 16 = .ok (.goto 9, 3) := by decide +kernel
theorem dX12_toss_19 : decode cX12_toss 19 = .ok (.aload_n 0, 1) := by decide +kernel
theorem dX12_toss_20 : decode cX12_toss 20 = .ok (.getfield 90, 3) := by decide +kernel
theorem dX12_toss_23 : decode cX12_toss 23 = .ok (.iload_n 1, 1) := by decide +kernel
theorem dX12_toss_24 : decode cX12_toss 24 = .ok (.iaload, 1) := by decide +kernel
theorem dX12_toss_25 : decode cX12_toss 25 = .ok (.ireturn, 1) := by decide +kernel
theorem dJ6_bitCount_0f7a4_0 : decode cJ6_bitCount_0f7a4 0 = .ok (.iload_n 0, 1) := by decide +kernel
theorem dJ6_bitCount_0f7a4_1 : decode cJ6_bitCount_0f7a4 1 = .ok (.iload_n 0, 1) := by decide +kernel
theorem dJ6_bitCount_0f7a4_2 : decode cJ6_bitCount_0f7a4 2 = .ok (.iconst 1, 1) := by decide +kernel
theorem dJ6_bitCount_0f7a4_3 : decode cJ6_bitCount_0f7a4 3 = .ok (.iushr, 1) := by decide +kernel
theorem dJ6_bitCount_0f7a4_4 : decode cJ6_bitCount_0f7a4 4 = .ok (.ldc_w 265, 3) := by decide +kernel
theorem dJ6_bitCount_0f7a4_7 : decode cJ6_bitCount_0f7a4 7 = .ok (.iand, 1) := by decide +kernel
theorem dJ6_bitCount_0f7a4_8 : decode cJ6_bitCount_0f7a4 8 = .ok (.isub, 1) := by decide +kernel
theorem dJ6_bitCount_0f7a4_9 : decode cJ6_bitCount_0f7a4 9 = .ok (.istore_n 0, 1) := by decide +kernel
theorem dJ6_bitCount_0f7a4_10 : decode cJ6_bitCount_0f7a4 10 = .ok (.iload_n 0, 1) := by decide +kernel
theorem dJ6_bitCount_0f7a4_11 : decode cJ6_bitCount_0f7a4 11 = .ok (.ldc_w 266, 3) := by decide +kernel
theorem dJ6_bitCount_0f7a4_14 : decode cJ6_bitCount_0f7a4 14 = .ok (.iand, 1) := by decide +kernel
theorem dJ6_bitCount_0f7a4_15 : decode cJ6_bitCount_0f7a4 15 = .ok (.iload_n 0, 1) := by decide +kernel
theorem dJ6_bitCount_0f7a4_16 : decode cJ6_bitCount_0f7a4 16 = .ok (.iconst 2, 1) := by decide +kernel
theorem dJ6_bitCount_0f7a4_17 : decode cJ6_bitCount_0f7a4 17 = .ok (.iushr, 1) := by decide +kernel
theorem dJ6_bitCount_0f7a4_18 : decode cJ6_bitCount_0f7a4 18 = .ok (.ldc_w 266, 3) := by decide +kernel
theorem dJ6_bitCount_0f7a4_21 : decode cJ6_bitCount_0f7a4 21 = .ok (.iand, 1) := by decide +kernel
theorem dJ6_bitCount_0f7a4_22 : decode cJ6_bitCount_0f7a4 22 = .ok (.iadd, 1) := by decide +kernel
theorem dJ6_bitCount_0f7a4_23 : decode cJ6_bitCount_0f7a4 23 = .ok (.istore_n 0, 1) := by decide +kernel
theorem dJ6_bitCount_0f7a4_24 : decode cJ6_bitCount_0f7a4 24 = .ok (.iload_n 0, 1) := by decide +kernel
theorem dJ6_bitCount_0f7a4_25 : decode cJ6_bitCount_0f7a4 25 = .ok (.iload_n 0, 1) := by decide +kernel
theorem dJ6_bitCount_0f7a4_26 : decode cJ6_bitCount_0f7a4 26 = .ok (.iconst 4, 1) := by decide +kernel
theorem dJ6_bitCount_0f7a4_27 : decode cJ6_bitCount_0f7a4 27 = .ok (.iushr, 1) := by decide +kernel
theorem dJ6_bitCount_0f7a4_28 : decode cJ6_bitCount_0f7a4 28 = .ok (.iadd, 1) := by decide +kernel
theorem dJ6_bitCount_0f7a4_29 : decode cJ6_bitCount_0f7a4 29 = .ok (.ldc_w 267, 3) := by decide +kernel
theorem dJ6_bitCount_0f7a4_32 : decode cJ6_bitCount_0f7a4 32 = .ok (.iand, 1) := by decide +kernel
theorem dJ6_bitCount_0f7a4_33 : decode cJ6_bitCount_0f7a4 33 = .ok (.istore_n 0, 1) := by decide +kernel
theorem dJ6_bitCount_0f7a4_34 : decode cJ6_bitCount_0f7a4 34 = .ok (.iload_n 0, 1) := by decide +kernel
theorem dJ6_bitCount_0f7a4_35 : decode cJ6_bitCount_0f7a4 35 = .ok (.iload_n 0, 1) := by decide +kernel
theorem dJ6_bitCount_0f7a4_36 : decode cJ6_bitCount_0f7a4 36 = .ok (.bipush 8, 2) := by decide +kernel
theorem dJ6_bitCount_0f7a4_38 : decode cJ6_bitCount_0f7a4 38 = .ok (.iushr, 1) := by decide +kernel
theorem dJ6_bitCount_0f7a4_39 : decode cJ6_bitCount_0f7a4 39 = .ok (.iadd, 1) := by decide +kernel
theorem dJ6_bitCount_0f7a4_40 : decode cJ6_bitCount_0f7a4 40 = .ok (.istore_n 0, 1) := by decide +kernel
theorem dJ6_bitCount_0f7a4_41 : decode cJ6_bitCount_0f7a4 41 = .ok (.iload_n 0, 1) := by decide +kernel
theorem dJ6_bitCount_0f7a4_42 : decode cJ6_bitCount_0f7a4 42 = .ok (.iload_n 0, 1) := by decide +kernel
theorem dJ6_bitCount_0f7a4_43 : decode cJ6_bitCount_0f7a4 43 = .ok (.bipush 16, 2) := by decide +kernel
theorem dJ6_bitCount_0f7a4_45 : decode cJ6_bitCount_0f7a4 45 = .ok (.iushr, 1) := by decide +kernel
theorem dJ6_bitCount_0f7a4_46 : decode cJ6_bitCount_0f7a4 46 = .ok (.iadd, 1) := by decide +kernel
theorem dJ6_bitCount_0f7a4_47 : decode cJ6_bitCount_0f7a4 47 = .ok (.istore_n 0, 1) := by decide +kernel
theorem dJ6_bitCount_0f7a4_48 : decode cJ6_bitCount_0f7a4 48 = .ok (.iload_n 0, 1) := by decide +kernel
theorem dJ6_bitCount_0f7a4_49 : decode cJ6_bitCount_0f7a4 49 = .ok (.bipush 63, 2) := by decide +kernel
theorem dJ6_bitCount_0f7a4_51 : decode cJ6_bitCount_0f7a4 51 = .ok (.iand, 1) := by decide +kernel
theorem dJ6_bitCount_0f7a4_52 : decode cJ6_bitCount_0f7a4 52 = .ok (.ireturn, 1) := by decide +kernel
theorem dJ9_abs_067f4_0 : decode cJ9_abs_067f4 0 = .ok (.lload_n 0, 1) := by decide +kernel
theorem dJ9_abs_067f4_1 : decode cJ9_abs_067f4 1 = .ok (.lconst 0, 1) := by decide +kernel
theorem dJ9_abs_067f4_2 : decode cJ9_abs_067f4 2 = .ok (.lcmp, 1) := by decide +kernel
theorem dJ9_abs_067f4_3 : decode cJ9_abs_067f4 3 = .ok (.ifCond .ge 8, 3) := by decide +kernel
theorem dJ9_abs_067f4_6 : decode cJ9_abs_067f4 6 = .ok (.lload_n 0, 1) := by decide +kernel
theorem dJ9_abs_067f4_7 : decode cJ9_abs_067f4 7 = .ok (.lneg, 1) := by decide +kernel
theorem dJ9_abs_067f4_8 : decode cJ9_abs_067f4 8 = .ok (.goto 4, 3) := by decide +kernel
theorem dJ9_abs_067f4_11 : decode cJ9_abs_067f4 11 = .ok (.lload_n 0, 1) := by decide +kernel
theorem dJ9_abs_067f4_12 : decode cJ9_abs_067f4 12 = .ok (.lreturn, 1) := by decide +kernel
theorem dJ9_max_7cf53_0 : decode cJ9_max_7cf53 0 = .ok (.iload_n 0, 1) := by decide +kernel
theorem dJ9_max_7cf53_1 : decode cJ9_max_7cf53 1 = .ok (.iload_n 1, 1) := by decide +kernel
theorem dJ9_max_7cf53_2 : decode cJ9_max_7cf53 2 = .ok (.if_icmp .lt 7, 3) := by decide +kernel
theorem dJ9_max_7cf53_5 : decode cJ9_max_7cf53 5 = .ok (.iload_n 0, 1) := by decide +kernel
theorem dJ9_max_7cf53_6 : decode cJ9_max_7cf53 6 = .ok (.goto 4, 3) := by decide +kernel
theorem dJ9_max_7cf53_9 : decode cJ9_max_7cf53 9 = .ok (.iload_n 1, 1) := by decide +kernel
theorem dJ9_max_7cf53_10 : decode cJ9_max_7cf53 10 = .ok (.ireturn, 1) := by decide +kernel
theorem dJ9_max_f86c9_0 : decode cJ9_max_f86c9 0 = .ok (.lload_n 0, 1) := by decide +kernel
theorem dJ9_max_f86c9_1 : decode cJ9_max_f86c9 1 = .ok (.lload_n 2, 1) := by decide +kernel
theorem dJ9_max_f86c9_2 : decode cJ9_max_f86c9 2 = .ok (.lcmp, 1) := by decide +kernel
theorem dJ9_max_f86c9_3 : decode cJ9_max_f86c9 3 = .ok (.ifCond .lt 7, 3) := by decide +kernel
theorem dJ9_max_f86c9_6 : decode cJ9_max_f86c9 6 = .ok (.lload_n 0, 1) := by decide +kernel
theorem dJ9_max_f86c9_7 : decode cJ9_max_f86c9 7 = .ok (.goto 4, 3) := by decide +kernel
theorem dJ9_max_f86c9_10 : decode cJ9_max_f86c9 10 = .ok (.lload_n 2, 1) := by decide +kernel
theorem dJ9_max_f86c9_11 : decode cJ9_max_f86c9 11 = .ok (.lreturn, 1) := by decide +kernel
theorem dJ9_min_f86c9_0 : decode cJ9_min_f86c9 0 = .ok (.lload_n 0, 1) := by decide +kernel
theorem dJ9_min_f86c9_1 : decode cJ9_min_f86c9 1 = .ok (.lload_n 2, 1) := by decide +kernel
theorem dJ9_min_f86c9_2 : decode cJ9_min_f86c9 2 = .ok (.lcmp, 1) := by decide +kernel
theorem dJ9_min_f86c9_3 : decode cJ9_min_f86c9 3 = .ok (.ifCond .gt 7, 3) := by decide +kernel
theorem dJ9_min_f86c9_6 : decode cJ9_min_f86c9 6 = .ok (.lload_n 0, 1) := by decide +kernel
theorem dJ9_min_f86c9_7 : decode cJ9_min_f86c9 7 = .ok (.goto 4, 3) := by decide +kernel
theorem dJ9_min_f86c9_10 : decode cJ9_min_f86c9 10 = .ok (.lload_n 2, 1) := by decide +kernel
theorem dJ9_min_f86c9_11 : decode cJ9_min_f86c9 11 = .ok (.lreturn, 1) := by decide +kernel
theorem dL_span_0 : decode cL_span 0 = .ok (.aload_n 3, 1) := by decide +kernel
theorem dL_span_1 : decode cL_span 1 = .ok (.iconst 0, 1) := by decide +kernel
theorem dL_span_2 : decode cL_span 2 = .ok (.aload_n 0, 1) := by decide +kernel
theorem dL_span_3 : decode cL_span 3 = .ok (.iload_n 1, 1) := by decide +kernel
theorem dL_span_4 : decode cL_span 4 = .ok (.iload_n 2, 1) := by decide +kernel
theorem dL_span_5 : decode cL_span 5 = .ok (.invokevirtual 7, 3) := by decide +kernel
theorem dL_span_8 : decode cL_span 8 = .ok (.lastore, 1) := by decide +kernel
theorem dL_span_9 : decode cL_span 9 = .ok (.goto 7, 3) := by decide +kernel
theorem dL_span_12 : decode cL_span 12 = .ok (.astore 4, 2) := by decide +kernel
theorem dL_span_14 : decode cL_span 14 = .ok (.iconst 1, 1) := by decide +kernel
theorem dL_span_15 : decode cL_span 15 = .ok (.ireturn, 1) := by decide +kernel
theorem dL_span_16 : decode cL_span 16 = .ok (.iconst 0, 1) := by decide +kernel
theorem dL_span_17 : decode cL_span 17 = .ok (.ireturn, 1) := by decide +kernel
theorem dL_out_0 : decode cL_out 0 = .ok (.aload_n 3, 1) := by decide +kernel
theorem dL_out_1 : decode cL_out 1 = .ok (.iconst 0, 1) := by decide +kernel
theorem dL_out_2 : decode cL_out 2 = .ok (.aload_n 0, 1) := by decide +kernel
theorem dL_out_3 : decode cL_out 3 = .ok (.iload_n 1, 1) := by decide +kernel
theorem dL_out_4 : decode cL_out 4 = .ok (.iload_n 2, 1) := by decide +kernel
theorem dL_out_5 : decode cL_out 5 = .ok (.invokevirtual 15, 3) := by decide +kernel
theorem dL_out_8 : decode cL_out 8 = .ok (.lastore, 1) := by decide +kernel
theorem dL_out_9 : decode cL_out 9 = .ok (.goto 11, 3) := by decide +kernel
theorem dL_out_12 : decode cL_out 12 = .ok (.astore 4, 2) := by decide +kernel
theorem dL_out_14 : decode cL_out 14 = .ok (.iconst 1, 1) := by decide +kernel
theorem dL_out_15 : decode cL_out 15 = .ok (.ireturn, 1) := by decide +kernel
theorem dL_out_16 : decode cL_out 16 = .ok (.astore 4, 2) := by decide +kernel
theorem dL_out_18 : decode cL_out 18 = .ok (.iconst 2, 1) := by decide +kernel
theorem dL_out_19 : decode cL_out 19 = .ok (.ireturn, 1) := by decide +kernel
theorem dL_out_20 : decode cL_out 20 = .ok (.iconst 0, 1) := by decide +kernel
theorem dL_out_21 : decode cL_out 21 = .ok (.ireturn, 1) := by decide +kernel
theorem dL_row_0 : decode cL_row 0 = .ok (.aload_n 2, 1) := by decide +kernel
theorem dL_row_1 : decode cL_row 1 = .ok (.iconst 0, 1) := by decide +kernel
theorem dL_row_2 : decode cL_row 2 = .ok (.aload_n 0, 1) := by decide +kernel
theorem dL_row_3 : decode cL_row 3 = .ok (.iload_n 1, 1) := by decide +kernel
theorem dL_row_4 : decode cL_row 4 = .ok (.invokevirtual 21, 3) := by decide +kernel
theorem dL_row_7 : decode cL_row 7 = .ok (.lastore, 1) := by decide +kernel
theorem dL_row_8 : decode cL_row 8 = .ok (.goto 9, 3) := by decide +kernel
theorem dL_row_11 : decode cL_row 11 = .ok (.astore_n 3, 1) := by decide +kernel
theorem dL_row_12 : decode cL_row 12 = .ok (.iconst 1, 1) := by decide +kernel
theorem dL_row_13 : decode cL_row 13 = .ok (.ireturn, 1) := by decide +kernel
theorem dL_row_14 : decode cL_row 14 = .ok (.astore_n 3, 1) := by decide +kernel
theorem dL_row_15 : decode cL_row 15 = .ok (.iconst 2, 1) := by decide +kernel
theorem dL_row_16 : decode cL_row 16 = .ok (.ireturn, 1) := by decide +kernel
theorem dL_row_17 : decode cL_row 17 = .ok (.iconst 0, 1) := by decide +kernel
theorem dL_row_18 : decode cL_row 18 = .ok (.ireturn, 1) := by decide +kernel
theorem dL_element_0 : decode cL_element 0 = .ok (.aload_n 3, 1) := by decide +kernel
theorem dL_element_1 : decode cL_element 1 = .ok (.iconst 0, 1) := by decide +kernel
theorem dL_element_2 : decode cL_element 2 = .ok (.aload_n 0, 1) := by decide +kernel
theorem dL_element_3 : decode cL_element 3 = .ok (.iload_n 1, 1) := by decide +kernel
theorem dL_element_4 : decode cL_element 4 = .ok (.iload_n 2, 1) := by decide +kernel
theorem dL_element_5 : decode cL_element 5 = .ok (.invokevirtual 25, 3) := by decide +kernel
theorem dL_element_8 : decode cL_element 8 = .ok (.lastore, 1) := by decide +kernel
theorem dL_element_9 : decode cL_element 9 = .ok (.goto 11, 3) := by decide +kernel
theorem dL_element_12 : decode cL_element 12 = .ok (.astore 4, 2) := by decide +kernel
theorem dL_element_14 : decode cL_element 14 = .ok (.iconst 1, 1) := by decide +kernel
theorem dL_element_15 : decode cL_element 15 = .ok (.ireturn, 1) := by decide +kernel
theorem dL_element_16 : decode cL_element 16 = .ok (.astore 4, 2) := by decide +kernel
theorem dL_element_18 : decode cL_element 18 = .ok (.iconst 2, 1) := by decide +kernel
theorem dL_element_19 : decode cL_element 19 = .ok (.ireturn, 1) := by decide +kernel
theorem dL_element_20 : decode cL_element 20 = .ok (.iconst 0, 1) := by decide +kernel
theorem dL_element_21 : decode cL_element 21 = .ok (.ireturn, 1) := by decide +kernel
theorem dL_law_0 : decode cL_law 0 = .ok (.new 8, 3) := by decide +kernel
theorem dL_law_3 : decode cL_law 3 = .ok (.dup, 1) := by decide +kernel
theorem dL_law_4 : decode cL_law 4 = .ok (.invokespecial 28, 3) := by decide +kernel
theorem dL_law_7 : decode cL_law 7 = .ok (.astore_n 1, 1) := by decide +kernel
theorem dL_law_8 : decode cL_law 8 = .ok (.new 29, 3) := by decide +kernel
theorem dL_law_11 : decode cL_law 11 = .ok (.dup, 1) := by decide +kernel
theorem dL_law_12 : decode cL_law 12 = .ok (.invokespecial 31, 3) := by decide +kernel
theorem dL_law_15 : decode cL_law 15 = .ok (.astore_n 2, 1) := by decide +kernel
theorem dL_law_16 : decode cL_law 16 = .ok (.iconst 1, 1) := by decide +kernel
theorem dL_law_17 : decode cL_law 17 = .ok (.newarray .long, 2) := by decide +kernel
theorem dL_law_19 : decode cL_law 19 = .ok (.astore_n 3, 1) := by decide +kernel
theorem dL_law_20 : decode cL_law 20 = .ok (.iconst 0, 1) := by decide +kernel
theorem dL_law_21 : decode cL_law 21 = .ok (.istore 4, 2) := by decide +kernel
theorem dL_law_23 : decode cL_law 23 = .ok (.iload 4, 2) := by decide +kernel
theorem dL_law_25 : decode cL_law 25 = .ok (.aload_n 0, 1) := by decide +kernel
theorem dL_law_26 : decode cL_law 26 = .ok (.arraylength, 1) := by decide +kernel
theorem dL_law_27 : decode cL_law 27 = .ok (.bipush 6, 2) := by decide +kernel
theorem dL_law_29 : decode cL_law 29 = .ok (.isub, 1) := by decide +kernel
theorem dL_law_30 : decode cL_law 30 = .ok (.if_icmp .gt 1571, 3) := by decide +kernel
theorem dL_law_33 : decode cL_law 33 = .ok (.aload_n 0, 1) := by decide +kernel
theorem dL_law_34 : decode cL_law 34 = .ok (.iload 4, 2) := by decide +kernel
theorem dL_law_36 : decode cL_law 36 = .ok (.iaload, 1) := by decide +kernel
theorem dL_law_37 : decode cL_law 37 = .ok (.bipush 31, 2) := by decide +kernel
theorem dL_law_39 : decode cL_law 39 = .ok (.iand, 1) := by decide +kernel
theorem dL_law_40 : decode cL_law 40 = .ok (.tableswitch 1555 0 30 #[140, 209, 258, 319, 380, 429, 442, 479, 544, 613, 682, 719, 802, 839, 852, 889, 914, 927, 992, 1029, 1070, 1095, 1162, 1187, 1242, 1267, 1316, 1365, 1432, 1505, 1530], 140) := by decide +kernel
theorem dL_law_180 : decode cL_law 180 = .ok (.aload_n 1, 1) := by decide +kernel
theorem dL_law_181 : decode cL_law 181 = .ok (.aload_n 0, 1) := by decide +kernel
theorem dL_law_182 : decode cL_law 182 = .ok (.iload 4, 2) := by decide +kernel
theorem dL_law_184 : decode cL_law 184 = .ok (.iconst 1, 1) := by decide +kernel
theorem dL_law_185 : decode cL_law 185 = .ok (.iadd, 1) := by decide +kernel
theorem dL_law_186 : decode cL_law 186 = .ok (.iaload, 1) := by decide +kernel
theorem dL_law_187 : decode cL_law 187 = .ok (.i2l, 1) := by decide +kernel
theorem dL_law_188 : decode cL_law 188 = .ok (.bipush 32, 2) := by decide +kernel
theorem dL_law_190 : decode cL_law 190 = .ok (.lshl, 1) := by decide +kernel
theorem dL_law_191 : decode cL_law 191 = .ok (.aload_n 0, 1) := by decide +kernel
theorem dL_law_192 : decode cL_law 192 = .ok (.iload 4, 2) := by decide +kernel
theorem dL_law_194 : decode cL_law 194 = .ok (.iconst 2, 1) := by decide +kernel
theorem dL_law_195 : decode cL_law 195 = .ok (.iadd, 1) := by decide +kernel
theorem dL_law_196 : decode cL_law 196 = .ok (.iaload, 1) := by decide +kernel
theorem dL_law_197 : decode cL_law 197 = .ok (.i2l, 1) := by decide +kernel
theorem dL_law_198 : decode cL_law 198 = .ok (.ldc2_w 32, 3) := by decide +kernel
theorem dL_law_201 : decode cL_law 201 = .ok (.land, 1) := by decide +kernel
theorem dL_law_202 : decode cL_law 202 = .ok (.lor, 1) := by decide +kernel
theorem dL_law_203 : decode cL_law 203 = .ok (.aload_n 0, 1) := by decide +kernel
theorem dL_law_204 : decode cL_law 204 = .ok (.iload 4, 2) := by decide +kernel
theorem dL_law_206 : decode cL_law 206 = .ok (.iconst 3, 1) := by decide +kernel
theorem dL_law_207 : decode cL_law 207 = .ok (.iadd, 1) := by decide +kernel
theorem dL_law_208 : decode cL_law 208 = .ok (.iaload, 1) := by decide +kernel
theorem dL_law_209 : decode cL_law 209 = .ok (.invokevirtual 34, 3) := by decide +kernel
theorem dL_law_212 : decode cL_law 212 = .ok (.aload_n 2, 1) := by decide +kernel
theorem dL_law_213 : decode cL_law 213 = .ok (.aload_n 0, 1) := by decide +kernel
theorem dL_law_214 : decode cL_law 214 = .ok (.iload 4, 2) := by decide +kernel
theorem dL_law_216 : decode cL_law 216 = .ok (.iconst 1, 1) := by decide +kernel
theorem dL_law_217 : decode cL_law 217 = .ok (.iadd, 1) := by decide +kernel
theorem dL_law_218 : decode cL_law 218 = .ok (.iaload, 1) := by decide +kernel
theorem dL_law_219 : decode cL_law 219 = .ok (.i2l, 1) := by decide +kernel
theorem dL_law_220 : decode cL_law 220 = .ok (.bipush 32, 2) := by decide +kernel
theorem dL_law_222 : decode cL_law 222 = .ok (.lshl, 1) := by decide +kernel
theorem dL_law_223 : decode cL_law 223 = .ok (.aload_n 0, 1) := by decide +kernel
theorem dL_law_224 : decode cL_law 224 = .ok (.iload 4, 2) := by decide +kernel
theorem dL_law_226 : decode cL_law 226 = .ok (.iconst 2, 1) := by decide +kernel
theorem dL_law_227 : decode cL_law 227 = .ok (.iadd, 1) := by decide +kernel
theorem dL_law_228 : decode cL_law 228 = .ok (.iaload, 1) := by decide +kernel
theorem dL_law_229 : decode cL_law 229 = .ok (.i2l, 1) := by decide +kernel
theorem dL_law_230 : decode cL_law 230 = .ok (.ldc2_w 32, 3) := by decide +kernel
theorem dL_law_233 : decode cL_law 233 = .ok (.land, 1) := by decide +kernel
theorem dL_law_234 : decode cL_law 234 = .ok (.lor, 1) := by decide +kernel
theorem dL_law_235 : decode cL_law 235 = .ok (.aload_n 0, 1) := by decide +kernel
theorem dL_law_236 : decode cL_law 236 = .ok (.iload 4, 2) := by decide +kernel
theorem dL_law_238 : decode cL_law 238 = .ok (.iconst 3, 1) := by decide +kernel
theorem dL_law_239 : decode cL_law 239 = .ok (.iadd, 1) := by decide +kernel
theorem dL_law_240 : decode cL_law 240 = .ok (.iaload, 1) := by decide +kernel
theorem dL_law_241 : decode cL_law 241 = .ok (.invokevirtual 38, 3) := by decide +kernel
theorem dL_law_244 : decode cL_law 244 = .ok (.if_icmp .eq 1351, 3) := by decide +kernel
theorem dL_law_247 : decode cL_law 247 = .ok (.iconst 0, 1) := by decide +kernel
theorem dL_law_248 : decode cL_law 248 = .ok (.ireturn, 1) := by decide +kernel
theorem dL_law_249 : decode cL_law 249 = .ok (.aload_n 1, 1) := by decide +kernel
theorem dL_law_250 : decode cL_law 250 = .ok (.aload_n 0, 1) := by decide +kernel
theorem dL_law_251 : decode cL_law 251 = .ok (.iload 4, 2) := by decide +kernel
theorem dL_law_253 : decode cL_law 253 = .ok (.iconst 1, 1) := by decide +kernel
theorem dL_law_254 : decode cL_law 254 = .ok (.iadd, 1) := by decide +kernel
theorem dL_law_255 : decode cL_law 255 = .ok (.iaload, 1) := by decide +kernel
theorem dL_law_256 : decode cL_law 256 = .ok (.aload_n 0, 1) := by decide +kernel
theorem dL_law_257 : decode cL_law 257 = .ok (.iload 4, 2) := by decide +kernel
theorem dL_law_259 : decode cL_law 259 = .ok (.iconst 2, 1) := by decide +kernel
theorem dL_law_260 : decode cL_law 260 = .ok (.iadd, 1) := by decide +kernel
theorem dL_law_261 : decode cL_law 261 = .ok (.iaload, 1) := by decide +kernel
theorem dL_law_262 : decode cL_law 262 = .ok (.aload_n 0, 1) := by decide +kernel
theorem dL_law_263 : decode cL_law 263 = .ok (.iload 4, 2) := by decide +kernel
theorem dL_law_265 : decode cL_law 265 = .ok (.iconst 3, 1) := by decide +kernel
theorem dL_law_266 : decode cL_law 266 = .ok (.iadd, 1) := by decide +kernel
theorem dL_law_267 : decode cL_law 267 = .ok (.iaload, 1) := by decide +kernel
theorem dL_law_268 : decode cL_law 268 = .ok (.invokevirtual 39, 3) := by decide +kernel
theorem dL_law_271 : decode cL_law 271 = .ok (.aload_n 2, 1) := by decide +kernel
theorem dL_law_272 : decode cL_law 272 = .ok (.aload_n 0, 1) := by decide +kernel
theorem dL_law_273 : decode cL_law 273 = .ok (.iload 4, 2) := by decide +kernel
theorem dL_law_275 : decode cL_law 275 = .ok (.iconst 1, 1) := by decide +kernel
theorem dL_law_276 : decode cL_law 276 = .ok (.iadd, 1) := by decide +kernel
theorem dL_law_277 : decode cL_law 277 = .ok (.iaload, 1) := by decide +kernel
theorem dL_law_278 : decode cL_law 278 = .ok (.aload_n 0, 1) := by decide +kernel
theorem dL_law_279 : decode cL_law 279 = .ok (.iload 4, 2) := by decide +kernel
theorem dL_law_281 : decode cL_law 281 = .ok (.iconst 2, 1) := by decide +kernel
theorem dL_law_282 : decode cL_law 282 = .ok (.iadd, 1) := by decide +kernel
theorem dL_law_283 : decode cL_law 283 = .ok (.iaload, 1) := by decide +kernel
theorem dL_law_284 : decode cL_law 284 = .ok (.aload_n 0, 1) := by decide +kernel
theorem dL_law_285 : decode cL_law 285 = .ok (.iload 4, 2) := by decide +kernel
theorem dL_law_287 : decode cL_law 287 = .ok (.iconst 3, 1) := by decide +kernel
theorem dL_law_288 : decode cL_law 288 = .ok (.iadd, 1) := by decide +kernel
theorem dL_law_289 : decode cL_law 289 = .ok (.iaload, 1) := by decide +kernel
theorem dL_law_290 : decode cL_law 290 = .ok (.invokevirtual 43, 3) := by decide +kernel
theorem dL_law_293 : decode cL_law 293 = .ok (.if_icmp .eq 1302, 3) := by decide +kernel
theorem dL_law_296 : decode cL_law 296 = .ok (.iconst 0, 1) := by decide +kernel
theorem dL_law_297 : decode cL_law 297 = .ok (.ireturn, 1) := by decide +kernel
theorem dL_law_298 : decode cL_law 298 = .ok (.aload_n 1, 1) := by decide +kernel
theorem dL_law_299 : decode cL_law 299 = .ok (.aload_n 0, 1) := by decide +kernel
theorem dL_law_300 : decode cL_law 300 = .ok (.iload 4, 2) := by decide +kernel
theorem dL_law_302 : decode cL_law 302 = .ok (.iconst 1, 1) := by decide +kernel
theorem dL_law_303 : decode cL_law 303 = .ok (.iadd, 1) := by decide +kernel
theorem dL_law_304 : decode cL_law 304 = .ok (.iaload, 1) := by decide +kernel
theorem dL_law_305 : decode cL_law 305 = .ok (.aload_n 0, 1) := by decide +kernel
theorem dL_law_306 : decode cL_law 306 = .ok (.iload 4, 2) := by decide +kernel
theorem dL_law_308 : decode cL_law 308 = .ok (.iconst 2, 1) := by decide +kernel
theorem dL_law_309 : decode cL_law 309 = .ok (.iadd, 1) := by decide +kernel
theorem dL_law_310 : decode cL_law 310 = .ok (.iaload, 1) := by decide +kernel
theorem dL_law_311 : decode cL_law 311 = .ok (.aload_n 0, 1) := by decide +kernel
theorem dL_law_312 : decode cL_law 312 = .ok (.iload 4, 2) := by decide +kernel
theorem dL_law_314 : decode cL_law 314 = .ok (.iconst 3, 1) := by decide +kernel
theorem dL_law_315 : decode cL_law 315 = .ok (.iadd, 1) := by decide +kernel
theorem dL_law_316 : decode cL_law 316 = .ok (.iaload, 1) := by decide +kernel
theorem dL_law_317 : decode cL_law 317 = .ok (.aload_n 0, 1) := by decide +kernel
theorem dL_law_318 : decode cL_law 318 = .ok (.iload 4, 2) := by decide +kernel
theorem dL_law_320 : decode cL_law 320 = .ok (.iconst 4, 1) := by decide +kernel
theorem dL_law_321 : decode cL_law 321 = .ok (.iadd, 1) := by decide +kernel
theorem dL_law_322 : decode cL_law 322 = .ok (.iaload, 1) := by decide +kernel
theorem dL_law_323 : decode cL_law 323 = .ok (.invokevirtual 44, 3) := by decide +kernel
theorem dL_law_326 : decode cL_law 326 = .ok (.aload_n 2, 1) := by decide +kernel
theorem dL_law_327 : decode cL_law 327 = .ok (.aload_n 0, 1) := by decide +kernel
theorem dL_law_328 : decode cL_law 328 = .ok (.iload 4, 2) := by decide +kernel
theorem dL_law_330 : decode cL_law 330 = .ok (.iconst 1, 1) := by decide +kernel
theorem dL_law_331 : decode cL_law 331 = .ok (.iadd, 1) := by decide +kernel
theorem dL_law_332 : decode cL_law 332 = .ok (.iaload, 1) := by decide +kernel
theorem dL_law_333 : decode cL_law 333 = .ok (.aload_n 0, 1) := by decide +kernel
theorem dL_law_334 : decode cL_law 334 = .ok (.iload 4, 2) := by decide +kernel
theorem dL_law_336 : decode cL_law 336 = .ok (.iconst 2, 1) := by decide +kernel
theorem dL_law_337 : decode cL_law 337 = .ok (.iadd, 1) := by decide +kernel
theorem dL_law_338 : decode cL_law 338 = .ok (.iaload, 1) := by decide +kernel
theorem dL_law_339 : decode cL_law 339 = .ok (.aload_n 0, 1) := by decide +kernel
theorem dL_law_340 : decode cL_law 340 = .ok (.iload 4, 2) := by decide +kernel
theorem dL_law_342 : decode cL_law 342 = .ok (.iconst 3, 1) := by decide +kernel
theorem dL_law_343 : decode cL_law 343 = .ok (.iadd, 1) := by decide +kernel
theorem dL_law_344 : decode cL_law 344 = .ok (.iaload, 1) := by decide +kernel
theorem dL_law_345 : decode cL_law 345 = .ok (.aload_n 0, 1) := by decide +kernel
theorem dL_law_346 : decode cL_law 346 = .ok (.iload 4, 2) := by decide +kernel
theorem dL_law_348 : decode cL_law 348 = .ok (.iconst 4, 1) := by decide +kernel
theorem dL_law_349 : decode cL_law 349 = .ok (.iadd, 1) := by decide +kernel
theorem dL_law_350 : decode cL_law 350 = .ok (.iaload, 1) := by decide +kernel
theorem dL_law_351 : decode cL_law 351 = .ok (.invokevirtual 48, 3) := by decide +kernel
theorem dL_law_354 : decode cL_law 354 = .ok (.if_icmp .eq 1241, 3) := by decide +kernel
theorem dL_law_357 : decode cL_law 357 = .ok (.iconst 0, 1) := by decide +kernel
theorem dL_law_358 : decode cL_law 358 = .ok (.ireturn, 1) := by decide +kernel
theorem dL_law_359 : decode cL_law 359 = .ok (.aload_n 1, 1) := by decide +kernel
theorem dL_law_360 : decode cL_law 360 = .ok (.aload_n 0, 1) := by decide +kernel
theorem dL_law_361 : decode cL_law 361 = .ok (.iload 4, 2) := by decide +kernel
theorem dL_law_363 : decode cL_law 363 = .ok (.iconst 1, 1) := by decide +kernel
theorem dL_law_364 : decode cL_law 364 = .ok (.iadd, 1) := by decide +kernel
theorem dL_law_365 : decode cL_law 365 = .ok (.iaload, 1) := by decide +kernel
theorem dL_law_366 : decode cL_law 366 = .ok (.aload_n 0, 1) := by decide +kernel
theorem dL_law_367 : decode cL_law 367 = .ok (.iload 4, 2) := by decide +kernel
theorem dL_law_369 : decode cL_law 369 = .ok (.iconst 2, 1) := by decide +kernel
theorem dL_law_370 : decode cL_law 370 = .ok (.iadd, 1) := by decide +kernel
theorem dL_law_371 : decode cL_law 371 = .ok (.iaload, 1) := by decide +kernel
theorem dL_law_372 : decode cL_law 372 = .ok (.aload_n 0, 1) := by decide +kernel
theorem dL_law_373 : decode cL_law 373 = .ok (.iload 4, 2) := by decide +kernel
theorem dL_law_375 : decode cL_law 375 = .ok (.iconst 3, 1) := by decide +kernel
theorem dL_law_376 : decode cL_law 376 = .ok (.iadd, 1) := by decide +kernel
theorem dL_law_377 : decode cL_law 377 = .ok (.iaload, 1) := by decide +kernel
theorem dL_law_378 : decode cL_law 378 = .ok (.aload_n 0, 1) := by decide +kernel
theorem dL_law_379 : decode cL_law 379 = .ok (.iload 4, 2) := by decide +kernel
theorem dL_law_381 : decode cL_law 381 = .ok (.iconst 4, 1) := by decide +kernel
theorem dL_law_382 : decode cL_law 382 = .ok (.iadd, 1) := by decide +kernel
theorem dL_law_383 : decode cL_law 383 = .ok (.iaload, 1) := by decide +kernel
theorem dL_law_384 : decode cL_law 384 = .ok (.invokevirtual 49, 3) := by decide +kernel
theorem dL_law_387 : decode cL_law 387 = .ok (.aload_n 2, 1) := by decide +kernel
theorem dL_law_388 : decode cL_law 388 = .ok (.aload_n 0, 1) := by decide +kernel
theorem dL_law_389 : decode cL_law 389 = .ok (.iload 4, 2) := by decide +kernel
theorem dL_law_391 : decode cL_law 391 = .ok (.iconst 1, 1) := by decide +kernel
theorem dL_law_392 : decode cL_law 392 = .ok (.iadd, 1) := by decide +kernel
theorem dL_law_393 : decode cL_law 393 = .ok (.iaload, 1) := by decide +kernel
theorem dL_law_394 : decode cL_law 394 = .ok (.aload_n 0, 1) := by decide +kernel
theorem dL_law_395 : decode cL_law 395 = .ok (.iload 4, 2) := by decide +kernel
theorem dL_law_397 : decode cL_law 397 = .ok (.iconst 2, 1) := by decide +kernel
theorem dL_law_398 : decode cL_law 398 = .ok (.iadd, 1) := by decide +kernel
theorem dL_law_399 : decode cL_law 399 = .ok (.iaload, 1) := by decide +kernel
theorem dL_law_400 : decode cL_law 400 = .ok (.aload_n 0, 1) := by decide +kernel
theorem dL_law_401 : decode cL_law 401 = .ok (.iload 4, 2) := by decide +kernel
theorem dL_law_403 : decode cL_law 403 = .ok (.iconst 3, 1) := by decide +kernel
theorem dL_law_404 : decode cL_law 404 = .ok (.iadd, 1) := by decide +kernel
theorem dL_law_405 : decode cL_law 405 = .ok (.iaload, 1) := by decide +kernel
theorem dL_law_406 : decode cL_law 406 = .ok (.aload_n 0, 1) := by decide +kernel
theorem dL_law_407 : decode cL_law 407 = .ok (.iload 4, 2) := by decide +kernel
theorem dL_law_409 : decode cL_law 409 = .ok (.iconst 4, 1) := by decide +kernel
theorem dL_law_410 : decode cL_law 410 = .ok (.iadd, 1) := by decide +kernel
theorem dL_law_411 : decode cL_law 411 = .ok (.iaload, 1) := by decide +kernel
theorem dL_law_412 : decode cL_law 412 = .ok (.invokevirtual 52, 3) := by decide +kernel
theorem dL_law_415 : decode cL_law 415 = .ok (.if_icmp .eq 1180, 3) := by decide +kernel
theorem dL_law_418 : decode cL_law 418 = .ok (.iconst 0, 1) := by decide +kernel
theorem dL_law_419 : decode cL_law 419 = .ok (.ireturn, 1) := by decide +kernel
theorem dL_law_420 : decode cL_law 420 = .ok (.aload_n 1, 1) := by decide +kernel
theorem dL_law_421 : decode cL_law 421 = .ok (.aload_n 0, 1) := by decide +kernel
theorem dL_law_422 : decode cL_law 422 = .ok (.iload 4, 2) := by decide +kernel
theorem dL_law_424 : decode cL_law 424 = .ok (.iconst 1, 1) := by decide +kernel
theorem dL_law_425 : decode cL_law 425 = .ok (.iadd, 1) := by decide +kernel
theorem dL_law_426 : decode cL_law 426 = .ok (.iaload, 1) := by decide +kernel
theorem dL_law_427 : decode cL_law 427 = .ok (.aload_n 0, 1) := by decide +kernel
theorem dL_law_428 : decode cL_law 428 = .ok (.iload 4, 2) := by decide +kernel
theorem dL_law_430 : decode cL_law 430 = .ok (.iconst 2, 1) := by decide +kernel
theorem dL_law_431 : decode cL_law 431 = .ok (.iadd, 1) := by decide +kernel
theorem dL_law_432 : decode cL_law 432 = .ok (.iaload, 1) := by decide +kernel
theorem dL_law_433 : decode cL_law 433 = .ok (.aload_n 0, 1) := by decide +kernel
theorem dL_law_434 : decode cL_law 434 = .ok (.iload 4, 2) := by decide +kernel
theorem dL_law_436 : decode cL_law 436 = .ok (.iconst 3, 1) := by decide +kernel
theorem dL_law_437 : decode cL_law 437 = .ok (.iadd, 1) := by decide +kernel
theorem dL_law_438 : decode cL_law 438 = .ok (.iaload, 1) := by decide +kernel
theorem dL_law_439 : decode cL_law 439 = .ok (.invokevirtual 53, 3) := by decide +kernel
theorem dL_law_442 : decode cL_law 442 = .ok (.aload_n 2, 1) := by decide +kernel
theorem dL_law_443 : decode cL_law 443 = .ok (.aload_n 0, 1) := by decide +kernel
theorem dL_law_444 : decode cL_law 444 = .ok (.iload 4, 2) := by decide +kernel
theorem dL_law_446 : decode cL_law 446 = .ok (.iconst 1, 1) := by decide +kernel
theorem dL_law_447 : decode cL_law 447 = .ok (.iadd, 1) := by decide +kernel
theorem dL_law_448 : decode cL_law 448 = .ok (.iaload, 1) := by decide +kernel
theorem dL_law_449 : decode cL_law 449 = .ok (.aload_n 0, 1) := by decide +kernel
theorem dL_law_450 : decode cL_law 450 = .ok (.iload 4, 2) := by decide +kernel
theorem dL_law_452 : decode cL_law 452 = .ok (.iconst 2, 1) := by decide +kernel
theorem dL_law_453 : decode cL_law 453 = .ok (.iadd, 1) := by decide +kernel
theorem dL_law_454 : decode cL_law 454 = .ok (.iaload, 1) := by decide +kernel
theorem dL_law_455 : decode cL_law 455 = .ok (.aload_n 0, 1) := by decide +kernel
theorem dL_law_456 : decode cL_law 456 = .ok (.iload 4, 2) := by decide +kernel
theorem dL_law_458 : decode cL_law 458 = .ok (.iconst 3, 1) := by decide +kernel
theorem dL_law_459 : decode cL_law 459 = .ok (.iadd, 1) := by decide +kernel
theorem dL_law_460 : decode cL_law 460 = .ok (.iaload, 1) := by decide +kernel
theorem dL_law_461 : decode cL_law 461 = .ok (.invokevirtual 56, 3) := by decide +kernel
theorem dL_law_464 : decode cL_law 464 = .ok (.if_icmp .eq 1131, 3) := by decide +kernel
theorem dL_law_467 : decode cL_law 467 = .ok (.iconst 0, 1) := by decide +kernel
theorem dL_law_468 : decode cL_law 468 = .ok (.ireturn, 1) := by decide +kernel
theorem dL_law_469 : decode cL_law 469 = .ok (.aload_n 1, 1) := by decide +kernel
theorem dL_law_470 : decode cL_law 470 = .ok (.invokevirtual 57, 3) := by decide +kernel
theorem dL_law_473 : decode cL_law 473 = .ok (.aload_n 2, 1) := by decide +kernel
theorem dL_law_474 : decode cL_law 474 = .ok (.invokevirtual 61, 3) := by decide +kernel
theorem dL_law_477 : decode cL_law 477 = .ok (.if_icmp .eq 1118, 3) := by decide +kernel
theorem dL_law_480 : decode cL_law 480 = .ok (.iconst 0, 1) := by decide +kernel
theorem dL_law_481 : decode cL_law 481 = .ok (.ireturn, 1) := by decide +kernel
theorem dL_law_482 : decode cL_law 482 = .ok (.aload_n 1, 1) := by decide +kernel
theorem dL_law_483 : decode cL_law 483 = .ok (.aload_n 0, 1) := by decide +kernel
theorem dL_law_484 : decode cL_law 484 = .ok (.iload 4, 2) := by decide +kernel
theorem dL_law_486 : decode cL_law 486 = .ok (.iconst 1, 1) := by decide +kernel
theorem dL_law_487 : decode cL_law 487 = .ok (.iadd, 1) := by decide +kernel
theorem dL_law_488 : decode cL_law 488 = .ok (.iaload, 1) := by decide +kernel
theorem dL_law_489 : decode cL_law 489 = .ok (.aload_n 0, 1) := by decide +kernel
theorem dL_law_490 : decode cL_law 490 = .ok (.iload 4, 2) := by decide +kernel
theorem dL_law_492 : decode cL_law 492 = .ok (.iconst 2, 1) := by decide +kernel
theorem dL_law_493 : decode cL_law 493 = .ok (.iadd, 1) := by decide +kernel
theorem dL_law_494 : decode cL_law 494 = .ok (.iaload, 1) := by decide +kernel
theorem dL_law_495 : decode cL_law 495 = .ok (.invokevirtual 62, 3) := by decide +kernel
theorem dL_law_498 : decode cL_law 498 = .ok (.aload_n 2, 1) := by decide +kernel
theorem dL_law_499 : decode cL_law 499 = .ok (.aload_n 0, 1) := by decide +kernel
theorem dL_law_500 : decode cL_law 500 = .ok (.iload 4, 2) := by decide +kernel
theorem dL_law_502 : decode cL_law 502 = .ok (.iconst 1, 1) := by decide +kernel
theorem dL_law_503 : decode cL_law 503 = .ok (.iadd, 1) := by decide +kernel
theorem dL_law_504 : decode cL_law 504 = .ok (.iaload, 1) := by decide +kernel
theorem dL_law_505 : decode cL_law 505 = .ok (.aload_n 0, 1) := by decide +kernel
theorem dL_law_506 : decode cL_law 506 = .ok (.iload 4, 2) := by decide +kernel
theorem dL_law_508 : decode cL_law 508 = .ok (.iconst 2, 1) := by decide +kernel
theorem dL_law_509 : decode cL_law 509 = .ok (.iadd, 1) := by decide +kernel
theorem dL_law_510 : decode cL_law 510 = .ok (.iaload, 1) := by decide +kernel
theorem dL_law_511 : decode cL_law 511 = .ok (.invokevirtual 66, 3) := by decide +kernel
theorem dL_law_514 : decode cL_law 514 = .ok (.if_icmp .eq 1081, 3) := by decide +kernel
theorem dL_law_517 : decode cL_law 517 = .ok (.iconst 0, 1) := by decide +kernel
theorem dL_law_518 : decode cL_law 518 = .ok (.ireturn, 1) := by decide +kernel
theorem dL_law_519 : decode cL_law 519 = .ok (.aload_n 1, 1) := by decide +kernel
theorem dL_law_520 : decode cL_law 520 = .ok (.aload_n 0, 1) := by decide +kernel
theorem dL_law_521 : decode cL_law 521 = .ok (.iload 4, 2) := by decide +kernel
theorem dL_law_523 : decode cL_law 523 = .ok (.iconst 1, 1) := by decide +kernel
theorem dL_law_524 : decode cL_law 524 = .ok (.iadd, 1) := by decide +kernel
theorem dL_law_525 : decode cL_law 525 = .ok (.iaload, 1) := by decide +kernel
theorem dL_law_526 : decode cL_law 526 = .ok (.aload_n 0, 1) := by decide +kernel
theorem dL_law_527 : decode cL_law 527 = .ok (.iload 4, 2) := by decide +kernel
theorem dL_law_529 : decode cL_law 529 = .ok (.iconst 2, 1) := by decide +kernel
theorem dL_law_530 : decode cL_law 530 = .ok (.iadd, 1) := by decide +kernel
theorem dL_law_531 : decode cL_law 531 = .ok (.iaload, 1) := by decide +kernel
theorem dL_law_532 : decode cL_law 532 = .ok (.aload_n 0, 1) := by decide +kernel
theorem dL_law_533 : decode cL_law 533 = .ok (.iload 4, 2) := by decide +kernel
theorem dL_law_535 : decode cL_law 535 = .ok (.iconst 3, 1) := by decide +kernel
theorem dL_law_536 : decode cL_law 536 = .ok (.iadd, 1) := by decide +kernel
theorem dL_law_537 : decode cL_law 537 = .ok (.iaload, 1) := by decide +kernel
theorem dL_law_538 : decode cL_law 538 = .ok (.ifCond .eq 7, 3) := by decide +kernel
theorem dL_law_541 : decode cL_law 541 = .ok (.iconst 1, 1) := by decide +kernel
theorem dL_law_542 : decode cL_law 542 = .ok (.goto 4, 3) := by decide +kernel
theorem dL_law_545 : decode cL_law 545 = .ok (.iconst 0, 1) := by decide +kernel
theorem dL_law_546 : decode cL_law 546 = .ok (.invokevirtual 67, 3) := by decide +kernel
theorem dL_law_549 : decode cL_law 549 = .ok (.aload_n 2, 1) := by decide +kernel
theorem dL_law_550 : decode cL_law 550 = .ok (.aload_n 0, 1) := by decide +kernel
theorem dL_law_551 : decode cL_law 551 = .ok (.iload 4, 2) := by decide +kernel
theorem dL_law_553 : decode cL_law 553 = .ok (.iconst 1, 1) := by decide +kernel
theorem dL_law_554 : decode cL_law 554 = .ok (.iadd, 1) := by decide +kernel
theorem dL_law_555 : decode cL_law 555 = .ok (.iaload, 1) := by decide +kernel
theorem dL_law_556 : decode cL_law 556 = .ok (.aload_n 0, 1) := by decide +kernel
theorem dL_law_557 : decode cL_law 557 = .ok (.iload 4, 2) := by decide +kernel
theorem dL_law_559 : decode cL_law 559 = .ok (.iconst 2, 1) := by decide +kernel
theorem dL_law_560 : decode cL_law 560 = .ok (.iadd, 1) := by decide +kernel
theorem dL_law_561 : decode cL_law 561 = .ok (.iaload, 1) := by decide +kernel
theorem dL_law_562 : decode cL_law 562 = .ok (.aload_n 0, 1) := by decide +kernel
theorem dL_law_563 : decode cL_law 563 = .ok (.iload 4, 2) := by decide +kernel
theorem dL_law_565 : decode cL_law 565 = .ok (.iconst 3, 1) := by decide +kernel
theorem dL_law_566 : decode cL_law 566 = .ok (.iadd, 1) := by decide +kernel
theorem dL_law_567 : decode cL_law 567 = .ok (.iaload, 1) := by decide +kernel
theorem dL_law_568 : decode cL_law 568 = .ok (.ifCond .eq 7, 3) := by decide +kernel
theorem dL_law_571 : decode cL_law 571 = .ok (.iconst 1, 1) := by decide +kernel
theorem dL_law_572 : decode cL_law 572 = .ok (.goto 4, 3) := by decide +kernel
theorem dL_law_575 : decode cL_law 575 = .ok (.iconst 0, 1) := by decide +kernel
theorem dL_law_576 : decode cL_law 576 = .ok (.invokevirtual 71, 3) := by decide +kernel
theorem dL_law_579 : decode cL_law 579 = .ok (.if_icmp .eq 1016, 3) := by decide +kernel
theorem dL_law_582 : decode cL_law 582 = .ok (.iconst 0, 1) := by decide +kernel
theorem dL_law_583 : decode cL_law 583 = .ok (.ireturn, 1) := by decide +kernel
theorem dL_law_584 : decode cL_law 584 = .ok (.aload_n 1, 1) := by decide +kernel
theorem dL_law_585 : decode cL_law 585 = .ok (.aload_n 0, 1) := by decide +kernel
theorem dL_law_586 : decode cL_law 586 = .ok (.iload 4, 2) := by decide +kernel
theorem dL_law_588 : decode cL_law 588 = .ok (.iconst 1, 1) := by decide +kernel
theorem dL_law_589 : decode cL_law 589 = .ok (.iadd, 1) := by decide +kernel
theorem dL_law_590 : decode cL_law 590 = .ok (.iaload, 1) := by decide +kernel
theorem dL_law_591 : decode cL_law 591 = .ok (.aload_n 0, 1) := by decide +kernel
theorem dL_law_592 : decode cL_law 592 = .ok (.iload 4, 2) := by decide +kernel
theorem dL_law_594 : decode cL_law 594 = .ok (.iconst 2, 1) := by decide +kernel
theorem dL_law_595 : decode cL_law 595 = .ok (.iadd, 1) := by decide +kernel
theorem dL_law_596 : decode cL_law 596 = .ok (.iaload, 1) := by decide +kernel
theorem dL_law_597 : decode cL_law 597 = .ok (.i2l, 1) := by decide +kernel
theorem dL_law_598 : decode cL_law 598 = .ok (.bipush 32, 2) := by decide +kernel
theorem dL_law_600 : decode cL_law 600 = .ok (.lshl, 1) := by decide +kernel
theorem dL_law_601 : decode cL_law 601 = .ok (.aload_n 0, 1) := by decide +kernel
theorem dL_law_602 : decode cL_law 602 = .ok (.iload 4, 2) := by decide +kernel
theorem dL_law_604 : decode cL_law 604 = .ok (.iconst 3, 1) := by decide +kernel
theorem dL_law_605 : decode cL_law 605 = .ok (.iadd, 1) := by decide +kernel
theorem dL_law_606 : decode cL_law 606 = .ok (.iaload, 1) := by decide +kernel
theorem dL_law_607 : decode cL_law 607 = .ok (.i2l, 1) := by decide +kernel
theorem dL_law_608 : decode cL_law 608 = .ok (.ldc2_w 32, 3) := by decide +kernel
theorem dL_law_611 : decode cL_law 611 = .ok (.land, 1) := by decide +kernel
theorem dL_law_612 : decode cL_law 612 = .ok (.lor, 1) := by decide +kernel
theorem dL_law_613 : decode cL_law 613 = .ok (.invokevirtual 72, 3) := by decide +kernel
theorem dL_law_616 : decode cL_law 616 = .ok (.aload_n 2, 1) := by decide +kernel
theorem dL_law_617 : decode cL_law 617 = .ok (.aload_n 0, 1) := by decide +kernel
theorem dL_law_618 : decode cL_law 618 = .ok (.iload 4, 2) := by decide +kernel
theorem dL_law_620 : decode cL_law 620 = .ok (.iconst 1, 1) := by decide +kernel
theorem dL_law_621 : decode cL_law 621 = .ok (.iadd, 1) := by decide +kernel
theorem dL_law_622 : decode cL_law 622 = .ok (.iaload, 1) := by decide +kernel
theorem dL_law_623 : decode cL_law 623 = .ok (.aload_n 0, 1) := by decide +kernel
theorem dL_law_624 : decode cL_law 624 = .ok (.iload 4, 2) := by decide +kernel
theorem dL_law_626 : decode cL_law 626 = .ok (.iconst 2, 1) := by decide +kernel
theorem dL_law_627 : decode cL_law 627 = .ok (.iadd, 1) := by decide +kernel
theorem dL_law_628 : decode cL_law 628 = .ok (.iaload, 1) := by decide +kernel
theorem dL_law_629 : decode cL_law 629 = .ok (.i2l, 1) := by decide +kernel
theorem dL_law_630 : decode cL_law 630 = .ok (.bipush 32, 2) := by decide +kernel
theorem dL_law_632 : decode cL_law 632 = .ok (.lshl, 1) := by decide +kernel
theorem dL_law_633 : decode cL_law 633 = .ok (.aload_n 0, 1) := by decide +kernel
theorem dL_law_634 : decode cL_law 634 = .ok (.iload 4, 2) := by decide +kernel
theorem dL_law_636 : decode cL_law 636 = .ok (.iconst 3, 1) := by decide +kernel
theorem dL_law_637 : decode cL_law 637 = .ok (.iadd, 1) := by decide +kernel
theorem dL_law_638 : decode cL_law 638 = .ok (.iaload, 1) := by decide +kernel
theorem dL_law_639 : decode cL_law 639 = .ok (.i2l, 1) := by decide +kernel
theorem dL_law_640 : decode cL_law 640 = .ok (.ldc2_w 32, 3) := by decide +kernel
theorem dL_law_643 : decode cL_law 643 = .ok (.land, 1) := by decide +kernel
theorem dL_law_644 : decode cL_law 644 = .ok (.lor, 1) := by decide +kernel
theorem dL_law_645 : decode cL_law 645 = .ok (.invokevirtual 76, 3) := by decide +kernel
theorem dL_law_648 : decode cL_law 648 = .ok (.if_icmp .eq 947, 3) := by decide +kernel
theorem dL_law_651 : decode cL_law 651 = .ok (.iconst 0, 1) := by decide +kernel
theorem dL_law_652 : decode cL_law 652 = .ok (.ireturn, 1) := by decide +kernel
theorem dL_law_653 : decode cL_law 653 = .ok (.aload_n 1, 1) := by decide +kernel
theorem dL_law_654 : decode cL_law 654 = .ok (.aload_n 0, 1) := by decide +kernel
theorem dL_law_655 : decode cL_law 655 = .ok (.iload 4, 2) := by decide +kernel
theorem dL_law_657 : decode cL_law 657 = .ok (.iconst 1, 1) := by decide +kernel
theorem dL_law_658 : decode cL_law 658 = .ok (.iadd, 1) := by decide +kernel
theorem dL_law_659 : decode cL_law 659 = .ok (.iaload, 1) := by decide +kernel
theorem dL_law_660 : decode cL_law 660 = .ok (.aload_n 0, 1) := by decide +kernel
theorem dL_law_661 : decode cL_law 661 = .ok (.iload 4, 2) := by decide +kernel
theorem dL_law_663 : decode cL_law 663 = .ok (.iconst 2, 1) := by decide +kernel
theorem dL_law_664 : decode cL_law 664 = .ok (.iadd, 1) := by decide +kernel
theorem dL_law_665 : decode cL_law 665 = .ok (.iaload, 1) := by decide +kernel
theorem dL_law_666 : decode cL_law 666 = .ok (.i2l, 1) := by decide +kernel
theorem dL_law_667 : decode cL_law 667 = .ok (.bipush 32, 2) := by decide +kernel
theorem dL_law_669 : decode cL_law 669 = .ok (.lshl, 1) := by decide +kernel
theorem dL_law_670 : decode cL_law 670 = .ok (.aload_n 0, 1) := by decide +kernel
theorem dL_law_671 : decode cL_law 671 = .ok (.iload 4, 2) := by decide +kernel
theorem dL_law_673 : decode cL_law 673 = .ok (.iconst 3, 1) := by decide +kernel
theorem dL_law_674 : decode cL_law 674 = .ok (.iadd, 1) := by decide +kernel
theorem dL_law_675 : decode cL_law 675 = .ok (.iaload, 1) := by decide +kernel
theorem dL_law_676 : decode cL_law 676 = .ok (.i2l, 1) := by decide +kernel
theorem dL_law_677 : decode cL_law 677 = .ok (.ldc2_w 32, 3) := by decide +kernel
theorem dL_law_680 : decode cL_law 680 = .ok (.land, 1) := by decide +kernel
theorem dL_law_681 : decode cL_law 681 = .ok (.lor, 1) := by decide +kernel
theorem dL_law_682 : decode cL_law 682 = .ok (.invokevirtual 77, 3) := by decide +kernel
theorem dL_law_685 : decode cL_law 685 = .ok (.aload_n 2, 1) := by decide +kernel
theorem dL_law_686 : decode cL_law 686 = .ok (.aload_n 0, 1) := by decide +kernel
theorem dL_law_687 : decode cL_law 687 = .ok (.iload 4, 2) := by decide +kernel
theorem dL_law_689 : decode cL_law 689 = .ok (.iconst 1, 1) := by decide +kernel
theorem dL_law_690 : decode cL_law 690 = .ok (.iadd, 1) := by decide +kernel
theorem dL_law_691 : decode cL_law 691 = .ok (.iaload, 1) := by decide +kernel
theorem dL_law_692 : decode cL_law 692 = .ok (.aload_n 0, 1) := by decide +kernel
theorem dL_law_693 : decode cL_law 693 = .ok (.iload 4, 2) := by decide +kernel
theorem dL_law_695 : decode cL_law 695 = .ok (.iconst 2, 1) := by decide +kernel
theorem dL_law_696 : decode cL_law 696 = .ok (.iadd, 1) := by decide +kernel
theorem dL_law_697 : decode cL_law 697 = .ok (.iaload, 1) := by decide +kernel
theorem dL_law_698 : decode cL_law 698 = .ok (.i2l, 1) := by decide +kernel
theorem dL_law_699 : decode cL_law 699 = .ok (.bipush 32, 2) := by decide +kernel
theorem dL_law_701 : decode cL_law 701 = .ok (.lshl, 1) := by decide +kernel
theorem dL_law_702 : decode cL_law 702 = .ok (.aload_n 0, 1) := by decide +kernel
theorem dL_law_703 : decode cL_law 703 = .ok (.iload 4, 2) := by decide +kernel
theorem dL_law_705 : decode cL_law 705 = .ok (.iconst 3, 1) := by decide +kernel
theorem dL_law_706 : decode cL_law 706 = .ok (.iadd, 1) := by decide +kernel
theorem dL_law_707 : decode cL_law 707 = .ok (.iaload, 1) := by decide +kernel
theorem dL_law_708 : decode cL_law 708 = .ok (.i2l, 1) := by decide +kernel
theorem dL_law_709 : decode cL_law 709 = .ok (.ldc2_w 32, 3) := by decide +kernel
theorem dL_law_712 : decode cL_law 712 = .ok (.land, 1) := by decide +kernel
theorem dL_law_713 : decode cL_law 713 = .ok (.lor, 1) := by decide +kernel
theorem dL_law_714 : decode cL_law 714 = .ok (.invokevirtual 80, 3) := by decide +kernel
theorem dL_law_717 : decode cL_law 717 = .ok (.if_icmp .eq 878, 3) := by decide +kernel
theorem dL_law_720 : decode cL_law 720 = .ok (.iconst 0, 1) := by decide +kernel
theorem dL_law_721 : decode cL_law 721 = .ok (.ireturn, 1) := by decide +kernel
theorem dL_law_722 : decode cL_law 722 = .ok (.aload_n 1, 1) := by decide +kernel
theorem dL_law_723 : decode cL_law 723 = .ok (.aload_n 0, 1) := by decide +kernel
theorem dL_law_724 : decode cL_law 724 = .ok (.iload 4, 2) := by decide +kernel
theorem dL_law_726 : decode cL_law 726 = .ok (.iconst 1, 1) := by decide +kernel
theorem dL_law_727 : decode cL_law 727 = .ok (.iadd, 1) := by decide +kernel
theorem dL_law_728 : decode cL_law 728 = .ok (.iaload, 1) := by decide +kernel
theorem dL_law_729 : decode cL_law 729 = .ok (.aload_n 0, 1) := by decide +kernel
theorem dL_law_730 : decode cL_law 730 = .ok (.iload 4, 2) := by decide +kernel
theorem dL_law_732 : decode cL_law 732 = .ok (.iconst 2, 1) := by decide +kernel
theorem dL_law_733 : decode cL_law 733 = .ok (.iadd, 1) := by decide +kernel
theorem dL_law_734 : decode cL_law 734 = .ok (.iaload, 1) := by decide +kernel
theorem dL_law_735 : decode cL_law 735 = .ok (.invokevirtual 81, 3) := by decide +kernel
theorem dL_law_738 : decode cL_law 738 = .ok (.aload_n 2, 1) := by decide +kernel
theorem dL_law_739 : decode cL_law 739 = .ok (.aload_n 0, 1) := by decide +kernel
theorem dL_law_740 : decode cL_law 740 = .ok (.iload 4, 2) := by decide +kernel
theorem dL_law_742 : decode cL_law 742 = .ok (.iconst 1, 1) := by decide +kernel
theorem dL_law_743 : decode cL_law 743 = .ok (.iadd, 1) := by decide +kernel
theorem dL_law_744 : decode cL_law 744 = .ok (.iaload, 1) := by decide +kernel
theorem dL_law_745 : decode cL_law 745 = .ok (.aload_n 0, 1) := by decide +kernel
theorem dL_law_746 : decode cL_law 746 = .ok (.iload 4, 2) := by decide +kernel
theorem dL_law_748 : decode cL_law 748 = .ok (.iconst 2, 1) := by decide +kernel
theorem dL_law_749 : decode cL_law 749 = .ok (.iadd, 1) := by decide +kernel
theorem dL_law_750 : decode cL_law 750 = .ok (.iaload, 1) := by decide +kernel
theorem dL_law_751 : decode cL_law 751 = .ok (.invokevirtual 84, 3) := by decide +kernel
theorem dL_law_754 : decode cL_law 754 = .ok (.if_icmp .eq 841, 3) := by decide +kernel
theorem dL_law_757 : decode cL_law 757 = .ok (.iconst 0, 1) := by decide +kernel
theorem dL_law_758 : decode cL_law 758 = .ok (.ireturn, 1) := by decide +kernel
theorem dL_law_759 : decode cL_law 759 = .ok (.aload_n 1, 1) := by decide +kernel
theorem dL_law_760 : decode cL_law 760 = .ok (.aload_n 0, 1) := by decide +kernel
theorem dL_law_761 : decode cL_law 761 = .ok (.iload 4, 2) := by decide +kernel
theorem dL_law_763 : decode cL_law 763 = .ok (.iconst 1, 1) := by decide +kernel
theorem dL_law_764 : decode cL_law 764 = .ok (.iadd, 1) := by decide +kernel
theorem dL_law_765 : decode cL_law 765 = .ok (.iaload, 1) := by decide +kernel
theorem dL_law_766 : decode cL_law 766 = .ok (.aload_n 0, 1) := by decide +kernel
theorem dL_law_767 : decode cL_law 767 = .ok (.iload 4, 2) := by decide +kernel
theorem dL_law_769 : decode cL_law 769 = .ok (.iconst 2, 1) := by decide +kernel
theorem dL_law_770 : decode cL_law 770 = .ok (.iadd, 1) := by decide +kernel
theorem dL_law_771 : decode cL_law 771 = .ok (.iaload, 1) := by decide +kernel
theorem dL_law_772 : decode cL_law 772 = .ok (.ifCond .eq 7, 3) := by decide +kernel
theorem dL_law_775 : decode cL_law 775 = .ok (.iconst 1, 1) := by decide +kernel
theorem dL_law_776 : decode cL_law 776 = .ok (.goto 4, 3) := by decide +kernel
theorem dL_law_779 : decode cL_law 779 = .ok (.iconst 0, 1) := by decide +kernel
theorem dL_law_780 : decode cL_law 780 = .ok (.aload_n 3, 1) := by decide +kernel
theorem dL_law_781 : decode cL_law 781 = .ok (.invokestatic 85, 3) := by decide +kernel
theorem dL_law_784 : decode cL_law 784 = .ok (.istore 5, 2) := by decide +kernel
theorem dL_law_786 : decode cL_law 786 = .ok (.aload_n 2, 1) := by decide +kernel
theorem dL_law_787 : decode cL_law 787 = .ok (.aload_n 0, 1) := by decide +kernel
theorem dL_law_788 : decode cL_law 788 = .ok (.iload 4, 2) := by decide +kernel
theorem dL_law_790 : decode cL_law 790 = .ok (.iconst 1, 1) := by decide +kernel
theorem dL_law_791 : decode cL_law 791 = .ok (.iadd, 1) := by decide +kernel
theorem dL_law_792 : decode cL_law 792 = .ok (.iaload, 1) := by decide +kernel
theorem dL_law_793 : decode cL_law 793 = .ok (.aload_n 0, 1) := by decide +kernel
theorem dL_law_794 : decode cL_law 794 = .ok (.iload 4, 2) := by decide +kernel
theorem dL_law_796 : decode cL_law 796 = .ok (.iconst 2, 1) := by decide +kernel
theorem dL_law_797 : decode cL_law 797 = .ok (.iadd, 1) := by decide +kernel
theorem dL_law_798 : decode cL_law 798 = .ok (.iaload, 1) := by decide +kernel
theorem dL_law_799 : decode cL_law 799 = .ok (.ifCond .eq 7, 3) := by decide +kernel
theorem dL_law_802 : decode cL_law 802 = .ok (.iconst 1, 1) := by decide +kernel
theorem dL_law_803 : decode cL_law 803 = .ok (.goto 4, 3) := by decide +kernel
theorem dL_law_806 : decode cL_law 806 = .ok (.iconst 0, 1) := by decide +kernel
theorem dL_law_807 : decode cL_law 807 = .ok (.invokevirtual 90, 3) := by decide +kernel
theorem dL_law_810 : decode cL_law 810 = .ok (.lstore 6, 2) := by decide +kernel
theorem dL_law_812 : decode cL_law 812 = .ok (.aload_n 2, 1) := by decide +kernel
theorem dL_law_813 : decode cL_law 813 = .ok (.invokevirtual 91, 3) := by decide +kernel
theorem dL_law_816 : decode cL_law 816 = .ok (.iload 5, 2) := by decide +kernel
theorem dL_law_818 : decode cL_law 818 = .ok (.if_icmp .eq 5, 3) := by decide +kernel
theorem dL_law_821 : decode cL_law 821 = .ok (.iconst 0, 1) := by decide +kernel
theorem dL_law_822 : decode cL_law 822 = .ok (.ireturn, 1) := by decide +kernel
theorem dL_law_823 : decode cL_law 823 = .ok (.iload 5, 2) := by decide +kernel
theorem dL_law_825 : decode cL_law 825 = .ok (.ifCond .ne 14, 3) := by decide +kernel
theorem dL_law_828 : decode cL_law 828 = .ok (.aload_n 3, 1) := by decide +kernel
theorem dL_law_829 : decode cL_law 829 = .ok (.iconst 0, 1) := by decide +kernel
theorem dL_law_830 : decode cL_law 830 = .ok (.laload, 1) := by decide +kernel
theorem dL_law_831 : decode cL_law 831 = .ok (.lload 6, 2) := by decide +kernel
theorem dL_law_833 : decode cL_law 833 = .ok (.lcmp, 1) := by decide +kernel
theorem dL_law_834 : decode cL_law 834 = .ok (.ifCond .eq 5, 3) := by decide +kernel
theorem dL_law_837 : decode cL_law 837 = .ok (.iconst 0, 1) := by decide +kernel
theorem dL_law_838 : decode cL_law 838 = .ok (.ireturn, 1) := by decide +kernel
theorem dL_law_839 : decode cL_law 839 = .ok (.goto 756, 3) := by decide +kernel
theorem dL_law_842 : decode cL_law 842 = .ok (.aload_n 1, 1) := by decide +kernel
theorem dL_law_843 : decode cL_law 843 = .ok (.aload_n 0, 1) := by decide +kernel
theorem dL_law_844 : decode cL_law 844 = .ok (.iload 4, 2) := by decide +kernel
theorem dL_law_846 : decode cL_law 846 = .ok (.iconst 1, 1) := by decide +kernel
theorem dL_law_847 : decode cL_law 847 = .ok (.iadd, 1) := by decide +kernel
theorem dL_law_848 : decode cL_law 848 = .ok (.iaload, 1) := by decide +kernel
theorem dL_law_849 : decode cL_law 849 = .ok (.aload_n 0, 1) := by decide +kernel
theorem dL_law_850 : decode cL_law 850 = .ok (.iload 4, 2) := by decide +kernel
theorem dL_law_852 : decode cL_law 852 = .ok (.iconst 2, 1) := by decide +kernel
theorem dL_law_853 : decode cL_law 853 = .ok (.iadd, 1) := by decide +kernel
theorem dL_law_854 : decode cL_law 854 = .ok (.iaload, 1) := by decide +kernel
theorem dL_law_855 : decode cL_law 855 = .ok (.invokevirtual 94, 3) := by decide +kernel
theorem dL_law_858 : decode cL_law 858 = .ok (.aload_n 2, 1) := by decide +kernel
theorem dL_law_859 : decode cL_law 859 = .ok (.aload_n 0, 1) := by decide +kernel
theorem dL_law_860 : decode cL_law 860 = .ok (.iload 4, 2) := by decide +kernel
theorem dL_law_862 : decode cL_law 862 = .ok (.iconst 1, 1) := by decide +kernel
theorem dL_law_863 : decode cL_law 863 = .ok (.iadd, 1) := by decide +kernel
theorem dL_law_864 : decode cL_law 864 = .ok (.iaload, 1) := by decide +kernel
theorem dL_law_865 : decode cL_law 865 = .ok (.aload_n 0, 1) := by decide +kernel
theorem dL_law_866 : decode cL_law 866 = .ok (.iload 4, 2) := by decide +kernel
theorem dL_law_868 : decode cL_law 868 = .ok (.iconst 2, 1) := by decide +kernel
theorem dL_law_869 : decode cL_law 869 = .ok (.iadd, 1) := by decide +kernel
theorem dL_law_870 : decode cL_law 870 = .ok (.iaload, 1) := by decide +kernel
theorem dL_law_871 : decode cL_law 871 = .ok (.invokevirtual 97, 3) := by decide +kernel
theorem dL_law_874 : decode cL_law 874 = .ok (.if_icmp .eq 721, 3) := by decide +kernel
theorem dL_law_877 : decode cL_law 877 = .ok (.iconst 0, 1) := by decide +kernel
theorem dL_law_878 : decode cL_law 878 = .ok (.ireturn, 1) := by decide +kernel
theorem dL_law_879 : decode cL_law 879 = .ok (.aload_n 1, 1) := by decide +kernel
theorem dL_law_880 : decode cL_law 880 = .ok (.invokevirtual 98, 3) := by decide +kernel
theorem dL_law_883 : decode cL_law 883 = .ok (.aload_n 2, 1) := by decide +kernel
theorem dL_law_884 : decode cL_law 884 = .ok (.invokevirtual 101, 3) := by decide +kernel
theorem dL_law_887 : decode cL_law 887 = .ok (.if_icmp .eq 708, 3) := by decide +kernel
theorem dL_law_890 : decode cL_law 890 = .ok (.iconst 0, 1) := by decide +kernel
theorem dL_law_891 : decode cL_law 891 = .ok (.ireturn, 1) := by decide +kernel
theorem dL_law_892 : decode cL_law 892 = .ok (.aload_n 1, 1) := by decide +kernel
theorem dL_law_893 : decode cL_law 893 = .ok (.aload_n 0, 1) := by decide +kernel
theorem dL_law_894 : decode cL_law 894 = .ok (.iload 4, 2) := by decide +kernel
theorem dL_law_896 : decode cL_law 896 = .ok (.iconst 1, 1) := by decide +kernel
theorem dL_law_897 : decode cL_law 897 = .ok (.iadd, 1) := by decide +kernel
theorem dL_law_898 : decode cL_law 898 = .ok (.iaload, 1) := by decide +kernel
theorem dL_law_899 : decode cL_law 899 = .ok (.aload_n 0, 1) := by decide +kernel
theorem dL_law_900 : decode cL_law 900 = .ok (.iload 4, 2) := by decide +kernel
theorem dL_law_902 : decode cL_law 902 = .ok (.iconst 2, 1) := by decide +kernel
theorem dL_law_903 : decode cL_law 903 = .ok (.iadd, 1) := by decide +kernel
theorem dL_law_904 : decode cL_law 904 = .ok (.iaload, 1) := by decide +kernel
theorem dL_law_905 : decode cL_law 905 = .ok (.invokevirtual 102, 3) := by decide +kernel
theorem dL_law_908 : decode cL_law 908 = .ok (.aload_n 2, 1) := by decide +kernel
theorem dL_law_909 : decode cL_law 909 = .ok (.aload_n 0, 1) := by decide +kernel
theorem dL_law_910 : decode cL_law 910 = .ok (.iload 4, 2) := by decide +kernel
theorem dL_law_912 : decode cL_law 912 = .ok (.iconst 1, 1) := by decide +kernel
theorem dL_law_913 : decode cL_law 913 = .ok (.iadd, 1) := by decide +kernel
theorem dL_law_914 : decode cL_law 914 = .ok (.iaload, 1) := by decide +kernel
theorem dL_law_915 : decode cL_law 915 = .ok (.aload_n 0, 1) := by decide +kernel
theorem dL_law_916 : decode cL_law 916 = .ok (.iload 4, 2) := by decide +kernel
theorem dL_law_918 : decode cL_law 918 = .ok (.iconst 2, 1) := by decide +kernel
theorem dL_law_919 : decode cL_law 919 = .ok (.iadd, 1) := by decide +kernel
theorem dL_law_920 : decode cL_law 920 = .ok (.iaload, 1) := by decide +kernel
theorem dL_law_921 : decode cL_law 921 = .ok (.invokevirtual 105, 3) := by decide +kernel
theorem dL_law_924 : decode cL_law 924 = .ok (.if_icmp .eq 671, 3) := by decide +kernel
theorem dL_law_927 : decode cL_law 927 = .ok (.iconst 0, 1) := by decide +kernel
theorem dL_law_928 : decode cL_law 928 = .ok (.ireturn, 1) := by decide +kernel
theorem dL_law_929 : decode cL_law 929 = .ok (.aload_n 1, 1) := by decide +kernel
theorem dL_law_930 : decode cL_law 930 = .ok (.aload_n 0, 1) := by decide +kernel
theorem dL_law_931 : decode cL_law 931 = .ok (.iload 4, 2) := by decide +kernel
theorem dL_law_933 : decode cL_law 933 = .ok (.iconst 1, 1) := by decide +kernel
theorem dL_law_934 : decode cL_law 934 = .ok (.iadd, 1) := by decide +kernel
theorem dL_law_935 : decode cL_law 935 = .ok (.iaload, 1) := by decide +kernel
theorem dL_law_936 : decode cL_law 936 = .ok (.invokevirtual 106, 3) := by decide +kernel
theorem dL_law_939 : decode cL_law 939 = .ok (.aload_n 2, 1) := by decide +kernel
theorem dL_law_940 : decode cL_law 940 = .ok (.aload_n 0, 1) := by decide +kernel
theorem dL_law_941 : decode cL_law 941 = .ok (.iload 4, 2) := by decide +kernel
theorem dL_law_943 : decode cL_law 943 = .ok (.iconst 1, 1) := by decide +kernel
theorem dL_law_944 : decode cL_law 944 = .ok (.iadd, 1) := by decide +kernel
theorem dL_law_945 : decode cL_law 945 = .ok (.iaload, 1) := by decide +kernel
theorem dL_law_946 : decode cL_law 946 = .ok (.invokevirtual 110, 3) := by decide +kernel
theorem dL_law_949 : decode cL_law 949 = .ok (.if_icmp .eq 646, 3) := by decide +kernel
theorem dL_law_952 : decode cL_law 952 = .ok (.iconst 0, 1) := by decide +kernel
theorem dL_law_953 : decode cL_law 953 = .ok (.ireturn, 1) := by decide +kernel
theorem dL_law_954 : decode cL_law 954 = .ok (.aload_n 1, 1) := by decide +kernel
theorem dL_law_955 : decode cL_law 955 = .ok (.invokevirtual 111, 3) := by decide +kernel
theorem dL_law_958 : decode cL_law 958 = .ok (.aload_n 2, 1) := by decide +kernel
theorem dL_law_959 : decode cL_law 959 = .ok (.invokevirtual 114, 3) := by decide +kernel
theorem dL_law_962 : decode cL_law 962 = .ok (.if_icmp .eq 633, 3) := by decide +kernel
theorem dL_law_965 : decode cL_law 965 = .ok (.iconst 0, 1) := by decide +kernel
theorem dL_law_966 : decode cL_law 966 = .ok (.ireturn, 1) := by decide +kernel
theorem dL_law_967 : decode cL_law 967 = .ok (.aload_n 1, 1) := by decide +kernel
theorem dL_law_968 : decode cL_law 968 = .ok (.aload_n 0, 1) := by decide +kernel
theorem dL_law_969 : decode cL_law 969 = .ok (.iload 4, 2) := by decide +kernel
theorem dL_law_971 : decode cL_law 971 = .ok (.iconst 1, 1) := by decide +kernel
theorem dL_law_972 : decode cL_law 972 = .ok (.iadd, 1) := by decide +kernel
theorem dL_law_973 : decode cL_law 973 = .ok (.iaload, 1) := by decide +kernel
theorem dL_law_974 : decode cL_law 974 = .ok (.aload_n 0, 1) := by decide +kernel
theorem dL_law_975 : decode cL_law 975 = .ok (.iload 4, 2) := by decide +kernel
theorem dL_law_977 : decode cL_law 977 = .ok (.iconst 2, 1) := by decide +kernel
theorem dL_law_978 : decode cL_law 978 = .ok (.iadd, 1) := by decide +kernel
theorem dL_law_979 : decode cL_law 979 = .ok (.iaload, 1) := by decide +kernel
theorem dL_law_980 : decode cL_law 980 = .ok (.aload_n 0, 1) := by decide +kernel
theorem dL_law_981 : decode cL_law 981 = .ok (.iload 4, 2) := by decide +kernel
theorem dL_law_983 : decode cL_law 983 = .ok (.iconst 3, 1) := by decide +kernel
theorem dL_law_984 : decode cL_law 984 = .ok (.iadd, 1) := by decide +kernel
theorem dL_law_985 : decode cL_law 985 = .ok (.iaload, 1) := by decide +kernel
theorem dL_law_986 : decode cL_law 986 = .ok (.ifCond .eq 7, 3) := by decide +kernel
theorem dL_law_989 : decode cL_law 989 = .ok (.iconst 1, 1) := by decide +kernel
theorem dL_law_990 : decode cL_law 990 = .ok (.goto 4, 3) := by decide +kernel
theorem dL_law_993 : decode cL_law 993 = .ok (.iconst 0, 1) := by decide +kernel
theorem dL_law_994 : decode cL_law 994 = .ok (.invokevirtual 115, 3) := by decide +kernel
theorem dL_law_997 : decode cL_law 997 = .ok (.aload_n 2, 1) := by decide +kernel
theorem dL_law_998 : decode cL_law 998 = .ok (.aload_n 0, 1) := by decide +kernel
theorem dL_law_999 : decode cL_law 999 = .ok (.iload 4, 2) := by decide +kernel
theorem dL_law_1001 : decode cL_law 1001 = .ok (.iconst 1, 1) := by decide +kernel
theorem dL_law_1002 : decode cL_law 1002 = .ok (.iadd, 1) := by decide +kernel
theorem dL_law_1003 : decode cL_law 1003 = .ok (.iaload, 1) := by decide +kernel
theorem dL_law_1004 : decode cL_law 1004 = .ok (.aload_n 0, 1) := by decide +kernel
theorem dL_law_1005 : decode cL_law 1005 = .ok (.iload 4, 2) := by decide +kernel
theorem dL_law_1007 : decode cL_law 1007 = .ok (.iconst 2, 1) := by decide +kernel
theorem dL_law_1008 : decode cL_law 1008 = .ok (.iadd, 1) := by decide +kernel
theorem dL_law_1009 : decode cL_law 1009 = .ok (.iaload, 1) := by decide +kernel
theorem dL_law_1010 : decode cL_law 1010 = .ok (.aload_n 0, 1) := by decide +kernel
theorem dL_law_1011 : decode cL_law 1011 = .ok (.iload 4, 2) := by decide +kernel
theorem dL_law_1013 : decode cL_law 1013 = .ok (.iconst 3, 1) := by decide +kernel
theorem dL_law_1014 : decode cL_law 1014 = .ok (.iadd, 1) := by decide +kernel
theorem dL_law_1015 : decode cL_law 1015 = .ok (.iaload, 1) := by decide +kernel
theorem dL_law_1016 : decode cL_law 1016 = .ok (.ifCond .eq 7, 3) := by decide +kernel
theorem dL_law_1019 : decode cL_law 1019 = .ok (.iconst 1, 1) := by decide +kernel
theorem dL_law_1020 : decode cL_law 1020 = .ok (.goto 4, 3) := by decide +kernel
theorem dL_law_1023 : decode cL_law 1023 = .ok (.iconst 0, 1) := by decide +kernel
theorem dL_law_1024 : decode cL_law 1024 = .ok (.invokevirtual 118, 3) := by decide +kernel
theorem dL_law_1027 : decode cL_law 1027 = .ok (.if_icmp .eq 568, 3) := by decide +kernel
theorem dL_law_1030 : decode cL_law 1030 = .ok (.iconst 0, 1) := by decide +kernel
theorem dL_law_1031 : decode cL_law 1031 = .ok (.ireturn, 1) := by decide +kernel
theorem dL_law_1032 : decode cL_law 1032 = .ok (.aload_n 1, 1) := by decide +kernel
theorem dL_law_1033 : decode cL_law 1033 = .ok (.aload_n 0, 1) := by decide +kernel
theorem dL_law_1034 : decode cL_law 1034 = .ok (.iload 4, 2) := by decide +kernel
theorem dL_law_1036 : decode cL_law 1036 = .ok (.iconst 1, 1) := by decide +kernel
theorem dL_law_1037 : decode cL_law 1037 = .ok (.iadd, 1) := by decide +kernel
theorem dL_law_1038 : decode cL_law 1038 = .ok (.iaload, 1) := by decide +kernel
theorem dL_law_1039 : decode cL_law 1039 = .ok (.aload_n 0, 1) := by decide +kernel
theorem dL_law_1040 : decode cL_law 1040 = .ok (.iload 4, 2) := by decide +kernel
theorem dL_law_1042 : decode cL_law 1042 = .ok (.iconst 2, 1) := by decide +kernel
theorem dL_law_1043 : decode cL_law 1043 = .ok (.iadd, 1) := by decide +kernel
theorem dL_law_1044 : decode cL_law 1044 = .ok (.iaload, 1) := by decide +kernel
theorem dL_law_1045 : decode cL_law 1045 = .ok (.invokevirtual 119, 3) := by decide +kernel
theorem dL_law_1048 : decode cL_law 1048 = .ok (.aload_n 2, 1) := by decide +kernel
theorem dL_law_1049 : decode cL_law 1049 = .ok (.aload_n 0, 1) := by decide +kernel
theorem dL_law_1050 : decode cL_law 1050 = .ok (.iload 4, 2) := by decide +kernel
theorem dL_law_1052 : decode cL_law 1052 = .ok (.iconst 1, 1) := by decide +kernel
theorem dL_law_1053 : decode cL_law 1053 = .ok (.iadd, 1) := by decide +kernel
theorem dL_law_1054 : decode cL_law 1054 = .ok (.iaload, 1) := by decide +kernel
theorem dL_law_1055 : decode cL_law 1055 = .ok (.aload_n 0, 1) := by decide +kernel
theorem dL_law_1056 : decode cL_law 1056 = .ok (.iload 4, 2) := by decide +kernel
theorem dL_law_1058 : decode cL_law 1058 = .ok (.iconst 2, 1) := by decide +kernel
theorem dL_law_1059 : decode cL_law 1059 = .ok (.iadd, 1) := by decide +kernel
theorem dL_law_1060 : decode cL_law 1060 = .ok (.iaload, 1) := by decide +kernel
theorem dL_law_1061 : decode cL_law 1061 = .ok (.invokevirtual 122, 3) := by decide +kernel
theorem dL_law_1064 : decode cL_law 1064 = .ok (.if_icmp .eq 531, 3) := by decide +kernel
theorem dL_law_1067 : decode cL_law 1067 = .ok (.iconst 0, 1) := by decide +kernel
theorem dL_law_1068 : decode cL_law 1068 = .ok (.ireturn, 1) := by decide +kernel
theorem dL_law_1069 : decode cL_law 1069 = .ok (.aload_n 1, 1) := by decide +kernel
theorem dL_law_1070 : decode cL_law 1070 = .ok (.aload_n 0, 1) := by decide +kernel
theorem dL_law_1071 : decode cL_law 1071 = .ok (.iload 4, 2) := by decide +kernel
theorem dL_law_1073 : decode cL_law 1073 = .ok (.iconst 1, 1) := by decide +kernel
theorem dL_law_1074 : decode cL_law 1074 = .ok (.iadd, 1) := by decide +kernel
theorem dL_law_1075 : decode cL_law 1075 = .ok (.iaload, 1) := by decide +kernel
theorem dL_law_1076 : decode cL_law 1076 = .ok (.ifCond .eq 7, 3) := by decide +kernel
theorem dL_law_1079 : decode cL_law 1079 = .ok (.iconst 1, 1) := by decide +kernel
theorem dL_law_1080 : decode cL_law 1080 = .ok (.goto 4, 3) := by decide +kernel
theorem dL_law_1083 : decode cL_law 1083 = .ok (.iconst 0, 1) := by decide +kernel
theorem dL_law_1084 : decode cL_law 1084 = .ok (.invokevirtual 123, 3) := by decide +kernel
theorem dL_law_1087 : decode cL_law 1087 = .ok (.aload_n 2, 1) := by decide +kernel
theorem dL_law_1088 : decode cL_law 1088 = .ok (.aload_n 0, 1) := by decide +kernel
theorem dL_law_1089 : decode cL_law 1089 = .ok (.iload 4, 2) := by decide +kernel
theorem dL_law_1091 : decode cL_law 1091 = .ok (.iconst 1, 1) := by decide +kernel
theorem dL_law_1092 : decode cL_law 1092 = .ok (.iadd, 1) := by decide +kernel
theorem dL_law_1093 : decode cL_law 1093 = .ok (.iaload, 1) := by decide +kernel
theorem dL_law_1094 : decode cL_law 1094 = .ok (.ifCond .eq 7, 3) := by decide +kernel
theorem dL_law_1097 : decode cL_law 1097 = .ok (.iconst 1, 1) := by decide +kernel
theorem dL_law_1098 : decode cL_law 1098 = .ok (.goto 4, 3) := by decide +kernel
theorem dL_law_1101 : decode cL_law 1101 = .ok (.iconst 0, 1) := by decide +kernel
theorem dL_law_1102 : decode cL_law 1102 = .ok (.invokevirtual 127, 3) := by decide +kernel
theorem dL_law_1105 : decode cL_law 1105 = .ok (.if_icmp .eq 490, 3) := by decide +kernel
theorem dL_law_1108 : decode cL_law 1108 = .ok (.iconst 0, 1) := by decide +kernel
theorem dL_law_1109 : decode cL_law 1109 = .ok (.ireturn, 1) := by decide +kernel
theorem dL_law_1110 : decode cL_law 1110 = .ok (.aload_n 1, 1) := by decide +kernel
theorem dL_law_1111 : decode cL_law 1111 = .ok (.aload_n 0, 1) := by decide +kernel
theorem dL_law_1112 : decode cL_law 1112 = .ok (.iload 4, 2) := by decide +kernel
theorem dL_law_1114 : decode cL_law 1114 = .ok (.iconst 1, 1) := by decide +kernel
theorem dL_law_1115 : decode cL_law 1115 = .ok (.iadd, 1) := by decide +kernel
theorem dL_law_1116 : decode cL_law 1116 = .ok (.iaload, 1) := by decide +kernel
theorem dL_law_1117 : decode cL_law 1117 = .ok (.invokevirtual 128, 3) := by decide +kernel
theorem dL_law_1120 : decode cL_law 1120 = .ok (.aload_n 2, 1) := by decide +kernel
theorem dL_law_1121 : decode cL_law 1121 = .ok (.aload_n 0, 1) := by decide +kernel
theorem dL_law_1122 : decode cL_law 1122 = .ok (.iload 4, 2) := by decide +kernel
theorem dL_law_1124 : decode cL_law 1124 = .ok (.iconst 1, 1) := by decide +kernel
theorem dL_law_1125 : decode cL_law 1125 = .ok (.iadd, 1) := by decide +kernel
theorem dL_law_1126 : decode cL_law 1126 = .ok (.iaload, 1) := by decide +kernel
theorem dL_law_1127 : decode cL_law 1127 = .ok (.invokevirtual 131, 3) := by decide +kernel
theorem dL_law_1130 : decode cL_law 1130 = .ok (.if_icmp .eq 465, 3) := by decide +kernel
theorem dL_law_1133 : decode cL_law 1133 = .ok (.iconst 0, 1) := by decide +kernel
theorem dL_law_1134 : decode cL_law 1134 = .ok (.ireturn, 1) := by decide +kernel
theorem dL_law_1135 : decode cL_law 1135 = .ok (.aload_n 1, 1) := by decide +kernel
theorem dL_law_1136 : decode cL_law 1136 = .ok (.aload_n 0, 1) := by decide +kernel
theorem dL_law_1137 : decode cL_law 1137 = .ok (.iload 4, 2) := by decide +kernel
theorem dL_law_1139 : decode cL_law 1139 = .ok (.iconst 1, 1) := by decide +kernel
theorem dL_law_1140 : decode cL_law 1140 = .ok (.iadd, 1) := by decide +kernel
theorem dL_law_1141 : decode cL_law 1141 = .ok (.iaload, 1) := by decide +kernel
theorem dL_law_1142 : decode cL_law 1142 = .ok (.aload_n 0, 1) := by decide +kernel
theorem dL_law_1143 : decode cL_law 1143 = .ok (.iload 4, 2) := by decide +kernel
theorem dL_law_1145 : decode cL_law 1145 = .ok (.iconst 2, 1) := by decide +kernel
theorem dL_law_1146 : decode cL_law 1146 = .ok (.iadd, 1) := by decide +kernel
theorem dL_law_1147 : decode cL_law 1147 = .ok (.iaload, 1) := by decide +kernel
theorem dL_law_1148 : decode cL_law 1148 = .ok (.aload_n 3, 1) := by decide +kernel
theorem dL_law_1149 : decode cL_law 1149 = .ok (.invokestatic 132, 3) := by decide +kernel
theorem dL_law_1152 : decode cL_law 1152 = .ok (.istore 5, 2) := by decide +kernel
theorem dL_law_1154 : decode cL_law 1154 = .ok (.aload_n 2, 1) := by decide +kernel
theorem dL_law_1155 : decode cL_law 1155 = .ok (.aload_n 0, 1) := by decide +kernel
theorem dL_law_1156 : decode cL_law 1156 = .ok (.iload 4, 2) := by decide +kernel
theorem dL_law_1158 : decode cL_law 1158 = .ok (.iconst 1, 1) := by decide +kernel
theorem dL_law_1159 : decode cL_law 1159 = .ok (.iadd, 1) := by decide +kernel
theorem dL_law_1160 : decode cL_law 1160 = .ok (.iaload, 1) := by decide +kernel
theorem dL_law_1161 : decode cL_law 1161 = .ok (.aload_n 0, 1) := by decide +kernel
theorem dL_law_1162 : decode cL_law 1162 = .ok (.iload 4, 2) := by decide +kernel
theorem dL_law_1164 : decode cL_law 1164 = .ok (.iconst 2, 1) := by decide +kernel
theorem dL_law_1165 : decode cL_law 1165 = .ok (.iadd, 1) := by decide +kernel
theorem dL_law_1166 : decode cL_law 1166 = .ok (.iaload, 1) := by decide +kernel
theorem dL_law_1167 : decode cL_law 1167 = .ok (.invokevirtual 135, 3) := by decide +kernel
theorem dL_law_1170 : decode cL_law 1170 = .ok (.lstore 6, 2) := by decide +kernel
theorem dL_law_1172 : decode cL_law 1172 = .ok (.aload_n 2, 1) := by decide +kernel
theorem dL_law_1173 : decode cL_law 1173 = .ok (.invokevirtual 91, 3) := by decide +kernel
theorem dL_law_1176 : decode cL_law 1176 = .ok (.iload 5, 2) := by decide +kernel
theorem dL_law_1178 : decode cL_law 1178 = .ok (.if_icmp .eq 5, 3) := by decide +kernel
theorem dL_law_1181 : decode cL_law 1181 = .ok (.iconst 0, 1) := by decide +kernel
theorem dL_law_1182 : decode cL_law 1182 = .ok (.ireturn, 1) := by decide +kernel
theorem dL_law_1183 : decode cL_law 1183 = .ok (.iload 5, 2) := by decide +kernel
theorem dL_law_1185 : decode cL_law 1185 = .ok (.ifCond .ne 14, 3) := by decide +kernel
theorem dL_law_1188 : decode cL_law 1188 = .ok (.aload_n 3, 1) := by decide +kernel
theorem dL_law_1189 : decode cL_law 1189 = .ok (.iconst 0, 1) := by decide +kernel
theorem dL_law_1190 : decode cL_law 1190 = .ok (.laload, 1) := by decide +kernel
theorem dL_law_1191 : decode cL_law 1191 = .ok (.lload 6, 2) := by decide +kernel
theorem dL_law_1193 : decode cL_law 1193 = .ok (.lcmp, 1) := by decide +kernel
theorem dL_law_1194 : decode cL_law 1194 = .ok (.ifCond .eq 5, 3) := by decide +kernel
theorem dL_law_1197 : decode cL_law 1197 = .ok (.iconst 0, 1) := by decide +kernel
theorem dL_law_1198 : decode cL_law 1198 = .ok (.ireturn, 1) := by decide +kernel
theorem dL_law_1199 : decode cL_law 1199 = .ok (.goto 396, 3) := by decide +kernel
theorem dL_law_1202 : decode cL_law 1202 = .ok (.aload_n 1, 1) := by decide +kernel
theorem dL_law_1203 : decode cL_law 1203 = .ok (.aload_n 0, 1) := by decide +kernel
theorem dL_law_1204 : decode cL_law 1204 = .ok (.iload 4, 2) := by decide +kernel
theorem dL_law_1206 : decode cL_law 1206 = .ok (.iconst 1, 1) := by decide +kernel
theorem dL_law_1207 : decode cL_law 1207 = .ok (.iadd, 1) := by decide +kernel
theorem dL_law_1208 : decode cL_law 1208 = .ok (.iaload, 1) := by decide +kernel
theorem dL_law_1209 : decode cL_law 1209 = .ok (.invokevirtual 136, 3) := by decide +kernel
theorem dL_law_1212 : decode cL_law 1212 = .ok (.aload_n 2, 1) := by decide +kernel
theorem dL_law_1213 : decode cL_law 1213 = .ok (.aload_n 0, 1) := by decide +kernel
theorem dL_law_1214 : decode cL_law 1214 = .ok (.iload 4, 2) := by decide +kernel
theorem dL_law_1216 : decode cL_law 1216 = .ok (.iconst 1, 1) := by decide +kernel
theorem dL_law_1217 : decode cL_law 1217 = .ok (.iadd, 1) := by decide +kernel
theorem dL_law_1218 : decode cL_law 1218 = .ok (.iaload, 1) := by decide +kernel
theorem dL_law_1219 : decode cL_law 1219 = .ok (.invokevirtual 139, 3) := by decide +kernel
theorem dL_law_1222 : decode cL_law 1222 = .ok (.if_icmp .eq 373, 3) := by decide +kernel
theorem dL_law_1225 : decode cL_law 1225 = .ok (.iconst 0, 1) := by decide +kernel
theorem dL_law_1226 : decode cL_law 1226 = .ok (.ireturn, 1) := by decide +kernel
theorem dL_law_1227 : decode cL_law 1227 = .ok (.aload_n 1, 1) := by decide +kernel
theorem dL_law_1228 : decode cL_law 1228 = .ok (.aload_n 0, 1) := by decide +kernel
theorem dL_law_1229 : decode cL_law 1229 = .ok (.iload 4, 2) := by decide +kernel
theorem dL_law_1231 : decode cL_law 1231 = .ok (.iconst 1, 1) := by decide +kernel
theorem dL_law_1232 : decode cL_law 1232 = .ok (.iadd, 1) := by decide +kernel
theorem dL_law_1233 : decode cL_law 1233 = .ok (.iaload, 1) := by decide +kernel
theorem dL_law_1234 : decode cL_law 1234 = .ok (.aload_n 3, 1) := by decide +kernel
theorem dL_law_1235 : decode cL_law 1235 = .ok (.invokestatic 140, 3) := by decide +kernel
theorem dL_law_1238 : decode cL_law 1238 = .ok (.istore 5, 2) := by decide +kernel
theorem dL_law_1240 : decode cL_law 1240 = .ok (.aload_n 2, 1) := by decide +kernel
theorem dL_law_1241 : decode cL_law 1241 = .ok (.aload_n 0, 1) := by decide +kernel
theorem dL_law_1242 : decode cL_law 1242 = .ok (.iload 4, 2) := by decide +kernel
theorem dL_law_1244 : decode cL_law 1244 = .ok (.iconst 1, 1) := by decide +kernel
theorem dL_law_1245 : decode cL_law 1245 = .ok (.iadd, 1) := by decide +kernel
theorem dL_law_1246 : decode cL_law 1246 = .ok (.iaload, 1) := by decide +kernel
theorem dL_law_1247 : decode cL_law 1247 = .ok (.invokevirtual 143, 3) := by decide +kernel
theorem dL_law_1250 : decode cL_law 1250 = .ok (.lstore 6, 2) := by decide +kernel
theorem dL_law_1252 : decode cL_law 1252 = .ok (.aload_n 2, 1) := by decide +kernel
theorem dL_law_1253 : decode cL_law 1253 = .ok (.invokevirtual 91, 3) := by decide +kernel
theorem dL_law_1256 : decode cL_law 1256 = .ok (.iload 5, 2) := by decide +kernel
theorem dL_law_1258 : decode cL_law 1258 = .ok (.if_icmp .eq 5, 3) := by decide +kernel
theorem dL_law_1261 : decode cL_law 1261 = .ok (.iconst 0, 1) := by decide +kernel
theorem dL_law_1262 : decode cL_law 1262 = .ok (.ireturn, 1) := by decide +kernel
theorem dL_law_1263 : decode cL_law 1263 = .ok (.iload 5, 2) := by decide +kernel
theorem dL_law_1265 : decode cL_law 1265 = .ok (.ifCond .ne 14, 3) := by decide +kernel
theorem dL_law_1268 : decode cL_law 1268 = .ok (.aload_n 3, 1) := by decide +kernel
theorem dL_law_1269 : decode cL_law 1269 = .ok (.iconst 0, 1) := by decide +kernel
theorem dL_law_1270 : decode cL_law 1270 = .ok (.laload, 1) := by decide +kernel
theorem dL_law_1271 : decode cL_law 1271 = .ok (.lload 6, 2) := by decide +kernel
theorem dL_law_1273 : decode cL_law 1273 = .ok (.lcmp, 1) := by decide +kernel
theorem dL_law_1274 : decode cL_law 1274 = .ok (.ifCond .eq 5, 3) := by decide +kernel
theorem dL_law_1277 : decode cL_law 1277 = .ok (.iconst 0, 1) := by decide +kernel
theorem dL_law_1278 : decode cL_law 1278 = .ok (.ireturn, 1) := by decide +kernel
theorem dL_law_1279 : decode cL_law 1279 = .ok (.goto 316, 3) := by decide +kernel
theorem dL_law_1282 : decode cL_law 1282 = .ok (.aload_n 1, 1) := by decide +kernel
theorem dL_law_1283 : decode cL_law 1283 = .ok (.aload_n 0, 1) := by decide +kernel
theorem dL_law_1284 : decode cL_law 1284 = .ok (.iload 4, 2) := by decide +kernel
theorem dL_law_1286 : decode cL_law 1286 = .ok (.iconst 1, 1) := by decide +kernel
theorem dL_law_1287 : decode cL_law 1287 = .ok (.iadd, 1) := by decide +kernel
theorem dL_law_1288 : decode cL_law 1288 = .ok (.iaload, 1) := by decide +kernel
theorem dL_law_1289 : decode cL_law 1289 = .ok (.invokevirtual 144, 3) := by decide +kernel
theorem dL_law_1292 : decode cL_law 1292 = .ok (.aload_n 2, 1) := by decide +kernel
theorem dL_law_1293 : decode cL_law 1293 = .ok (.aload_n 0, 1) := by decide +kernel
theorem dL_law_1294 : decode cL_law 1294 = .ok (.iload 4, 2) := by decide +kernel
theorem dL_law_1296 : decode cL_law 1296 = .ok (.iconst 1, 1) := by decide +kernel
theorem dL_law_1297 : decode cL_law 1297 = .ok (.iadd, 1) := by decide +kernel
theorem dL_law_1298 : decode cL_law 1298 = .ok (.iaload, 1) := by decide +kernel
theorem dL_law_1299 : decode cL_law 1299 = .ok (.invokevirtual 147, 3) := by decide +kernel
theorem dL_law_1302 : decode cL_law 1302 = .ok (.if_icmp .eq 293, 3) := by decide +kernel
theorem dL_law_1305 : decode cL_law 1305 = .ok (.iconst 0, 1) := by decide +kernel
theorem dL_law_1306 : decode cL_law 1306 = .ok (.ireturn, 1) := by decide +kernel
theorem dL_law_1307 : decode cL_law 1307 = .ok (.aload_n 1, 1) := by decide +kernel
theorem dL_law_1308 : decode cL_law 1308 = .ok (.aload_n 0, 1) := by decide +kernel
theorem dL_law_1309 : decode cL_law 1309 = .ok (.iload 4, 2) := by decide +kernel
theorem dL_law_1311 : decode cL_law 1311 = .ok (.iconst 1, 1) := by decide +kernel
theorem dL_law_1312 : decode cL_law 1312 = .ok (.iadd, 1) := by decide +kernel
theorem dL_law_1313 : decode cL_law 1313 = .ok (.iaload, 1) := by decide +kernel
theorem dL_law_1314 : decode cL_law 1314 = .ok (.aload_n 0, 1) := by decide +kernel
theorem dL_law_1315 : decode cL_law 1315 = .ok (.iload 4, 2) := by decide +kernel
theorem dL_law_1317 : decode cL_law 1317 = .ok (.iconst 2, 1) := by decide +kernel
theorem dL_law_1318 : decode cL_law 1318 = .ok (.iadd, 1) := by decide +kernel
theorem dL_law_1319 : decode cL_law 1319 = .ok (.iaload, 1) := by decide +kernel
theorem dL_law_1320 : decode cL_law 1320 = .ok (.aload_n 0, 1) := by decide +kernel
theorem dL_law_1321 : decode cL_law 1321 = .ok (.iload 4, 2) := by decide +kernel
theorem dL_law_1323 : decode cL_law 1323 = .ok (.iconst 3, 1) := by decide +kernel
theorem dL_law_1324 : decode cL_law 1324 = .ok (.iadd, 1) := by decide +kernel
theorem dL_law_1325 : decode cL_law 1325 = .ok (.iaload, 1) := by decide +kernel
theorem dL_law_1326 : decode cL_law 1326 = .ok (.invokevirtual 148, 3) := by decide +kernel
theorem dL_law_1329 : decode cL_law 1329 = .ok (.aload_n 2, 1) := by decide +kernel
theorem dL_law_1330 : decode cL_law 1330 = .ok (.aload_n 0, 1) := by decide +kernel
theorem dL_law_1331 : decode cL_law 1331 = .ok (.iload 4, 2) := by decide +kernel
theorem dL_law_1333 : decode cL_law 1333 = .ok (.iconst 1, 1) := by decide +kernel
theorem dL_law_1334 : decode cL_law 1334 = .ok (.iadd, 1) := by decide +kernel
theorem dL_law_1335 : decode cL_law 1335 = .ok (.iaload, 1) := by decide +kernel
theorem dL_law_1336 : decode cL_law 1336 = .ok (.aload_n 0, 1) := by decide +kernel
theorem dL_law_1337 : decode cL_law 1337 = .ok (.iload 4, 2) := by decide +kernel
theorem dL_law_1339 : decode cL_law 1339 = .ok (.iconst 2, 1) := by decide +kernel
theorem dL_law_1340 : decode cL_law 1340 = .ok (.iadd, 1) := by decide +kernel
theorem dL_law_1341 : decode cL_law 1341 = .ok (.iaload, 1) := by decide +kernel
theorem dL_law_1342 : decode cL_law 1342 = .ok (.aload_n 0, 1) := by decide +kernel
theorem dL_law_1343 : decode cL_law 1343 = .ok (.iload 4, 2) := by decide +kernel
theorem dL_law_1345 : decode cL_law 1345 = .ok (.iconst 3, 1) := by decide +kernel
theorem dL_law_1346 : decode cL_law 1346 = .ok (.iadd, 1) := by decide +kernel
theorem dL_law_1347 : decode cL_law 1347 = .ok (.iaload, 1) := by decide +kernel
theorem dL_law_1348 : decode cL_law 1348 = .ok (.invokevirtual 151, 3) := by decide +kernel
theorem dL_law_1351 : decode cL_law 1351 = .ok (.if_icmp .eq 244, 3) := by decide +kernel
theorem dL_law_1354 : decode cL_law 1354 = .ok (.iconst 0, 1) := by decide +kernel
theorem dL_law_1355 : decode cL_law 1355 = .ok (.ireturn, 1) := by decide +kernel
theorem dL_law_1356 : decode cL_law 1356 = .ok (.aload_n 1, 1) := by decide +kernel
theorem dL_law_1357 : decode cL_law 1357 = .ok (.aload_n 0, 1) := by decide +kernel
theorem dL_law_1358 : decode cL_law 1358 = .ok (.iload 4, 2) := by decide +kernel
theorem dL_law_1360 : decode cL_law 1360 = .ok (.iconst 1, 1) := by decide +kernel
theorem dL_law_1361 : decode cL_law 1361 = .ok (.iadd, 1) := by decide +kernel
theorem dL_law_1362 : decode cL_law 1362 = .ok (.iaload, 1) := by decide +kernel
theorem dL_law_1363 : decode cL_law 1363 = .ok (.aload_n 0, 1) := by decide +kernel
theorem dL_law_1364 : decode cL_law 1364 = .ok (.iload 4, 2) := by decide +kernel
theorem dL_law_1366 : decode cL_law 1366 = .ok (.iconst 2, 1) := by decide +kernel
theorem dL_law_1367 : decode cL_law 1367 = .ok (.iadd, 1) := by decide +kernel
theorem dL_law_1368 : decode cL_law 1368 = .ok (.iaload, 1) := by decide +kernel
theorem dL_law_1369 : decode cL_law 1369 = .ok (.aload_n 0, 1) := by decide +kernel
theorem dL_law_1370 : decode cL_law 1370 = .ok (.iload 4, 2) := by decide +kernel
theorem dL_law_1372 : decode cL_law 1372 = .ok (.iconst 3, 1) := by decide +kernel
theorem dL_law_1373 : decode cL_law 1373 = .ok (.iadd, 1) := by decide +kernel
theorem dL_law_1374 : decode cL_law 1374 = .ok (.iaload, 1) := by decide +kernel
theorem dL_law_1375 : decode cL_law 1375 = .ok (.invokevirtual 152, 3) := by decide +kernel
theorem dL_law_1378 : decode cL_law 1378 = .ok (.aload_n 2, 1) := by decide +kernel
theorem dL_law_1379 : decode cL_law 1379 = .ok (.aload_n 0, 1) := by decide +kernel
theorem dL_law_1380 : decode cL_law 1380 = .ok (.iload 4, 2) := by decide +kernel
theorem dL_law_1382 : decode cL_law 1382 = .ok (.iconst 1, 1) := by decide +kernel
theorem dL_law_1383 : decode cL_law 1383 = .ok (.iadd, 1) := by decide +kernel
theorem dL_law_1384 : decode cL_law 1384 = .ok (.iaload, 1) := by decide +kernel
theorem dL_law_1385 : decode cL_law 1385 = .ok (.aload_n 0, 1) := by decide +kernel
theorem dL_law_1386 : decode cL_law 1386 = .ok (.iload 4, 2) := by decide +kernel
theorem dL_law_1388 : decode cL_law 1388 = .ok (.iconst 2, 1) := by decide +kernel
theorem dL_law_1389 : decode cL_law 1389 = .ok (.iadd, 1) := by decide +kernel
theorem dL_law_1390 : decode cL_law 1390 = .ok (.iaload, 1) := by decide +kernel
theorem dL_law_1391 : decode cL_law 1391 = .ok (.aload_n 0, 1) := by decide +kernel
theorem dL_law_1392 : decode cL_law 1392 = .ok (.iload 4, 2) := by decide +kernel
theorem dL_law_1394 : decode cL_law 1394 = .ok (.iconst 3, 1) := by decide +kernel
theorem dL_law_1395 : decode cL_law 1395 = .ok (.iadd, 1) := by decide +kernel
theorem dL_law_1396 : decode cL_law 1396 = .ok (.iaload, 1) := by decide +kernel
theorem dL_law_1397 : decode cL_law 1397 = .ok (.invokevirtual 155, 3) := by decide +kernel
theorem dL_law_1400 : decode cL_law 1400 = .ok (.if_icmp .eq 195, 3) := by decide +kernel
theorem dL_law_1403 : decode cL_law 1403 = .ok (.iconst 0, 1) := by decide +kernel
theorem dL_law_1404 : decode cL_law 1404 = .ok (.ireturn, 1) := by decide +kernel
theorem dL_law_1405 : decode cL_law 1405 = .ok (.aload_n 1, 1) := by decide +kernel
theorem dL_law_1406 : decode cL_law 1406 = .ok (.aload_n 0, 1) := by decide +kernel
theorem dL_law_1407 : decode cL_law 1407 = .ok (.iload 4, 2) := by decide +kernel
theorem dL_law_1409 : decode cL_law 1409 = .ok (.iconst 1, 1) := by decide +kernel
theorem dL_law_1410 : decode cL_law 1410 = .ok (.iadd, 1) := by decide +kernel
theorem dL_law_1411 : decode cL_law 1411 = .ok (.iaload, 1) := by decide +kernel
theorem dL_law_1412 : decode cL_law 1412 = .ok (.aload_n 0, 1) := by decide +kernel
theorem dL_law_1413 : decode cL_law 1413 = .ok (.iload 4, 2) := by decide +kernel
theorem dL_law_1415 : decode cL_law 1415 = .ok (.iconst 2, 1) := by decide +kernel
theorem dL_law_1416 : decode cL_law 1416 = .ok (.iadd, 1) := by decide +kernel
theorem dL_law_1417 : decode cL_law 1417 = .ok (.iaload, 1) := by decide +kernel
theorem dL_law_1418 : decode cL_law 1418 = .ok (.aload_n 3, 1) := by decide +kernel
theorem dL_law_1419 : decode cL_law 1419 = .ok (.invokestatic 156, 3) := by decide +kernel
theorem dL_law_1422 : decode cL_law 1422 = .ok (.istore 5, 2) := by decide +kernel
theorem dL_law_1424 : decode cL_law 1424 = .ok (.aload_n 2, 1) := by decide +kernel
theorem dL_law_1425 : decode cL_law 1425 = .ok (.aload_n 0, 1) := by decide +kernel
theorem dL_law_1426 : decode cL_law 1426 = .ok (.iload 4, 2) := by decide +kernel
theorem dL_law_1428 : decode cL_law 1428 = .ok (.iconst 1, 1) := by decide +kernel
theorem dL_law_1429 : decode cL_law 1429 = .ok (.iadd, 1) := by decide +kernel
theorem dL_law_1430 : decode cL_law 1430 = .ok (.iaload, 1) := by decide +kernel
theorem dL_law_1431 : decode cL_law 1431 = .ok (.aload_n 0, 1) := by decide +kernel
theorem dL_law_1432 : decode cL_law 1432 = .ok (.iload 4, 2) := by decide +kernel
theorem dL_law_1434 : decode cL_law 1434 = .ok (.iconst 2, 1) := by decide +kernel
theorem dL_law_1435 : decode cL_law 1435 = .ok (.iadd, 1) := by decide +kernel
theorem dL_law_1436 : decode cL_law 1436 = .ok (.iaload, 1) := by decide +kernel
theorem dL_law_1437 : decode cL_law 1437 = .ok (.invokevirtual 158, 3) := by decide +kernel
theorem dL_law_1440 : decode cL_law 1440 = .ok (.lstore 6, 2) := by decide +kernel
theorem dL_law_1442 : decode cL_law 1442 = .ok (.aload_n 2, 1) := by decide +kernel
theorem dL_law_1443 : decode cL_law 1443 = .ok (.invokevirtual 91, 3) := by decide +kernel
theorem dL_law_1446 : decode cL_law 1446 = .ok (.iload 5, 2) := by decide +kernel
theorem dL_law_1448 : decode cL_law 1448 = .ok (.if_icmp .eq 5, 3) := by decide +kernel
theorem dL_law_1451 : decode cL_law 1451 = .ok (.iconst 0, 1) := by decide +kernel
theorem dL_law_1452 : decode cL_law 1452 = .ok (.ireturn, 1) := by decide +kernel
theorem dL_law_1453 : decode cL_law 1453 = .ok (.iload 5, 2) := by decide +kernel
theorem dL_law_1455 : decode cL_law 1455 = .ok (.ifCond .ne 14, 3) := by decide +kernel
theorem dL_law_1458 : decode cL_law 1458 = .ok (.aload_n 3, 1) := by decide +kernel
theorem dL_law_1459 : decode cL_law 1459 = .ok (.iconst 0, 1) := by decide +kernel
theorem dL_law_1460 : decode cL_law 1460 = .ok (.laload, 1) := by decide +kernel
theorem dL_law_1461 : decode cL_law 1461 = .ok (.lload 6, 2) := by decide +kernel
theorem dL_law_1463 : decode cL_law 1463 = .ok (.lcmp, 1) := by decide +kernel
theorem dL_law_1464 : decode cL_law 1464 = .ok (.ifCond .eq 5, 3) := by decide +kernel
theorem dL_law_1467 : decode cL_law 1467 = .ok (.iconst 0, 1) := by decide +kernel
theorem dL_law_1468 : decode cL_law 1468 = .ok (.ireturn, 1) := by decide +kernel
theorem dL_law_1469 : decode cL_law 1469 = .ok (.goto 126, 3) := by decide +kernel
theorem dL_law_1472 : decode cL_law 1472 = .ok (.aload_n 1, 1) := by decide +kernel
theorem dL_law_1473 : decode cL_law 1473 = .ok (.aload_n 0, 1) := by decide +kernel
theorem dL_law_1474 : decode cL_law 1474 = .ok (.iload 4, 2) := by decide +kernel
theorem dL_law_1476 : decode cL_law 1476 = .ok (.iconst 1, 1) := by decide +kernel
theorem dL_law_1477 : decode cL_law 1477 = .ok (.iadd, 1) := by decide +kernel
theorem dL_law_1478 : decode cL_law 1478 = .ok (.iaload, 1) := by decide +kernel
theorem dL_law_1479 : decode cL_law 1479 = .ok (.aload_n 0, 1) := by decide +kernel
theorem dL_law_1480 : decode cL_law 1480 = .ok (.iload 4, 2) := by decide +kernel
theorem dL_law_1482 : decode cL_law 1482 = .ok (.iconst 2, 1) := by decide +kernel
theorem dL_law_1483 : decode cL_law 1483 = .ok (.iadd, 1) := by decide +kernel
theorem dL_law_1484 : decode cL_law 1484 = .ok (.iaload, 1) := by decide +kernel
theorem dL_law_1485 : decode cL_law 1485 = .ok (.aload_n 0, 1) := by decide +kernel
theorem dL_law_1486 : decode cL_law 1486 = .ok (.iload 4, 2) := by decide +kernel
theorem dL_law_1488 : decode cL_law 1488 = .ok (.iconst 3, 1) := by decide +kernel
theorem dL_law_1489 : decode cL_law 1489 = .ok (.iadd, 1) := by decide +kernel
theorem dL_law_1490 : decode cL_law 1490 = .ok (.iaload, 1) := by decide +kernel
theorem dL_law_1491 : decode cL_law 1491 = .ok (.aload_n 0, 1) := by decide +kernel
theorem dL_law_1492 : decode cL_law 1492 = .ok (.iload 4, 2) := by decide +kernel
theorem dL_law_1494 : decode cL_law 1494 = .ok (.iconst 4, 1) := by decide +kernel
theorem dL_law_1495 : decode cL_law 1495 = .ok (.iadd, 1) := by decide +kernel
theorem dL_law_1496 : decode cL_law 1496 = .ok (.iaload, 1) := by decide +kernel
theorem dL_law_1497 : decode cL_law 1497 = .ok (.aload_n 0, 1) := by decide +kernel
theorem dL_law_1498 : decode cL_law 1498 = .ok (.iload 4, 2) := by decide +kernel
theorem dL_law_1500 : decode cL_law 1500 = .ok (.iconst 5, 1) := by decide +kernel
theorem dL_law_1501 : decode cL_law 1501 = .ok (.iadd, 1) := by decide +kernel
theorem dL_law_1502 : decode cL_law 1502 = .ok (.iaload, 1) := by decide +kernel
theorem dL_law_1503 : decode cL_law 1503 = .ok (.invokevirtual 159, 3) := by decide +kernel
theorem dL_law_1506 : decode cL_law 1506 = .ok (.aload_n 2, 1) := by decide +kernel
theorem dL_law_1507 : decode cL_law 1507 = .ok (.aload_n 0, 1) := by decide +kernel
theorem dL_law_1508 : decode cL_law 1508 = .ok (.iload 4, 2) := by decide +kernel
theorem dL_law_1510 : decode cL_law 1510 = .ok (.iconst 1, 1) := by decide +kernel
theorem dL_law_1511 : decode cL_law 1511 = .ok (.iadd, 1) := by decide +kernel
theorem dL_law_1512 : decode cL_law 1512 = .ok (.iaload, 1) := by decide +kernel
theorem dL_law_1513 : decode cL_law 1513 = .ok (.aload_n 0, 1) := by decide +kernel
theorem dL_law_1514 : decode cL_law 1514 = .ok (.iload 4, 2) := by decide +kernel
theorem dL_law_1516 : decode cL_law 1516 = .ok (.iconst 2, 1) := by decide +kernel
theorem dL_law_1517 : decode cL_law 1517 = .ok (.iadd, 1) := by decide +kernel
theorem dL_law_1518 : decode cL_law 1518 = .ok (.iaload, 1) := by decide +kernel
theorem dL_law_1519 : decode cL_law 1519 = .ok (.aload_n 0, 1) := by decide +kernel
theorem dL_law_1520 : decode cL_law 1520 = .ok (.iload 4, 2) := by decide +kernel
theorem dL_law_1522 : decode cL_law 1522 = .ok (.iconst 3, 1) := by decide +kernel
theorem dL_law_1523 : decode cL_law 1523 = .ok (.iadd, 1) := by decide +kernel
theorem dL_law_1524 : decode cL_law 1524 = .ok (.iaload, 1) := by decide +kernel
theorem dL_law_1525 : decode cL_law 1525 = .ok (.aload_n 0, 1) := by decide +kernel
theorem dL_law_1526 : decode cL_law 1526 = .ok (.iload 4, 2) := by decide +kernel
theorem dL_law_1528 : decode cL_law 1528 = .ok (.iconst 4, 1) := by decide +kernel
theorem dL_law_1529 : decode cL_law 1529 = .ok (.iadd, 1) := by decide +kernel
theorem dL_law_1530 : decode cL_law 1530 = .ok (.iaload, 1) := by decide +kernel
theorem dL_law_1531 : decode cL_law 1531 = .ok (.aload_n 0, 1) := by decide +kernel
theorem dL_law_1532 : decode cL_law 1532 = .ok (.iload 4, 2) := by decide +kernel
theorem dL_law_1534 : decode cL_law 1534 = .ok (.iconst 5, 1) := by decide +kernel
theorem dL_law_1535 : decode cL_law 1535 = .ok (.iadd, 1) := by decide +kernel
theorem dL_law_1536 : decode cL_law 1536 = .ok (.iaload, 1) := by decide +kernel
theorem dL_law_1537 : decode cL_law 1537 = .ok (.invokevirtual 163, 3) := by decide +kernel
theorem dL_law_1540 : decode cL_law 1540 = .ok (.if_icmp .eq 55, 3) := by decide +kernel
theorem dL_law_1543 : decode cL_law 1543 = .ok (.iconst 0, 1) := by decide +kernel
theorem dL_law_1544 : decode cL_law 1544 = .ok (.ireturn, 1) := by decide +kernel
theorem dL_law_1545 : decode cL_law 1545 = .ok (.aload_n 1, 1) := by decide +kernel
theorem dL_law_1546 : decode cL_law 1546 = .ok (.aload_n 0, 1) := by decide +kernel
theorem dL_law_1547 : decode cL_law 1547 = .ok (.iload 4, 2) := by decide +kernel
theorem dL_law_1549 : decode cL_law 1549 = .ok (.iconst 1, 1) := by decide +kernel
theorem dL_law_1550 : decode cL_law 1550 = .ok (.iadd, 1) := by decide +kernel
theorem dL_law_1551 : decode cL_law 1551 = .ok (.iaload, 1) := by decide +kernel
theorem dL_law_1552 : decode cL_law 1552 = .ok (.invokevirtual 164, 3) := by decide +kernel
theorem dL_law_1555 : decode cL_law 1555 = .ok (.aload_n 2, 1) := by decide +kernel
theorem dL_law_1556 : decode cL_law 1556 = .ok (.aload_n 0, 1) := by decide +kernel
theorem dL_law_1557 : decode cL_law 1557 = .ok (.iload 4, 2) := by decide +kernel
theorem dL_law_1559 : decode cL_law 1559 = .ok (.iconst 1, 1) := by decide +kernel
theorem dL_law_1560 : decode cL_law 1560 = .ok (.iadd, 1) := by decide +kernel
theorem dL_law_1561 : decode cL_law 1561 = .ok (.iaload, 1) := by decide +kernel
theorem dL_law_1562 : decode cL_law 1562 = .ok (.invokevirtual 167, 3) := by decide +kernel
theorem dL_law_1565 : decode cL_law 1565 = .ok (.if_icmp .eq 30, 3) := by decide +kernel
theorem dL_law_1568 : decode cL_law 1568 = .ok (.iconst 0, 1) := by decide +kernel
theorem dL_law_1569 : decode cL_law 1569 = .ok (.ireturn, 1) := by decide +kernel
theorem dL_law_1570 : decode cL_law 1570 = .ok (.aload_n 1, 1) := by decide +kernel
theorem dL_law_1571 : decode cL_law 1571 = .ok (.aload_n 0, 1) := by decide +kernel
theorem dL_law_1572 : decode cL_law 1572 = .ok (.iload 4, 2) := by decide +kernel
theorem dL_law_1574 : decode cL_law 1574 = .ok (.iconst 1, 1) := by decide +kernel
theorem dL_law_1575 : decode cL_law 1575 = .ok (.iadd, 1) := by decide +kernel
theorem dL_law_1576 : decode cL_law 1576 = .ok (.iaload, 1) := by decide +kernel
theorem dL_law_1577 : decode cL_law 1577 = .ok (.invokevirtual 168, 3) := by decide +kernel
theorem dL_law_1580 : decode cL_law 1580 = .ok (.aload_n 2, 1) := by decide +kernel
theorem dL_law_1581 : decode cL_law 1581 = .ok (.aload_n 0, 1) := by decide +kernel
theorem dL_law_1582 : decode cL_law 1582 = .ok (.iload 4, 2) := by decide +kernel
theorem dL_law_1584 : decode cL_law 1584 = .ok (.iconst 1, 1) := by decide +kernel
theorem dL_law_1585 : decode cL_law 1585 = .ok (.iadd, 1) := by decide +kernel
theorem dL_law_1586 : decode cL_law 1586 = .ok (.iaload, 1) := by decide +kernel
theorem dL_law_1587 : decode cL_law 1587 = .ok (.invokevirtual 171, 3) := by decide +kernel
theorem dL_law_1590 : decode cL_law 1590 = .ok (.if_icmp .eq 5, 3) := by decide +kernel
theorem dL_law_1593 : decode cL_law 1593 = .ok (.iconst 0, 1) := by decide +kernel
theorem dL_law_1594 : decode cL_law 1594 = .ok (.ireturn, 1) := by decide +kernel
theorem dL_law_1595 : decode cL_law 1595 = .ok (.iinc 4 6, 3) := by decide +kernel
theorem dL_law_1598 : decode cL_law 1598 = .ok (.goto (-1575), 3) := by decide +kernel
theorem dL_law_1601 : decode cL_law 1601 = .ok (.iconst 1, 1) := by decide +kernel
theorem dL_law_1602 : decode cL_law 1602 = .ok (.ireturn, 1) := by decide +kernel
end
section
/-! An abstract memory beside the heap: cell k of ours (1, 2 ..) lies at gb E + (k - 1); cell 0 is the script. -/
abbrev aE : Type := (Nat × vp_A) ⊕ (Nat × List Value)
abbrev aM : Type := Nat → Option aE
abbrev aG : Type := (Nat → ClassId) × (Nat → Nat → Nat) × (Nat → ClassId) × (Nat × Nat) × Nat × (Nat → Int32) × (State → Heap → Prop)
def gD (E : aG) : va_G := (E.1, E.2.1)
def gA (E : aG) (t : Nat) : ClassId := E.2.2.1 t
def gs (E : aG) : Nat := E.2.2.2.1.1
def gb (E : aG) : Nat := E.2.2.2.1.2
def gL (E : aG) : Nat := E.2.2.2.2.1
def gX (E : aG) : Nat → Int32 := E.2.2.2.2.2.1
/-- what else is known of the state, and of cells that aren't ours -/
def gZ (E : aG) : State → Heap → Prop := E.2.2.2.2.2.2
def ZC (E : aG) : Prop := ∀ (U U' : State) (H H' : Heap), gZ E U H → (U.vm = U'.vm ∨ U.WarmedH U'.vm) → H.size ≤ H'.size → (∀ q : Nat, q < H.size → ¬ gb E ≤ q → H'[q]? = H[q]?) → gZ E U' H'
def ta (E : aG) : Nat → Nat
  | 0 => gs E
  | k + 1 => gb E + k
def tv (E : aG) : Value → Value
  | .ref k => .ref (ta E k)
  | v => v
def tc (E : aG) : ((Nat → Int32) ⊕ (Nat → Int64) ⊕ (Nat → UInt32) ⊕ (Nat → UInt64) ⊕ (Nat → Option Nat)) → ((Nat → Int32) ⊕ (Nat → Int64) ⊕ (Nat → UInt32) ⊕ (Nat → UInt64) ⊕ (Nat → Option Nat))
  | .inr (.inr (.inr (.inr f))) => .inr (.inr (.inr (.inr (fun j => (f j).map (ta E)))))
  | x => x
def te (E : aG) : aE → va_E
  | .inl (t, n, x) => .inl (gA E t, n, tc E x)
  | .inr (ci, fs) => .inr (ci, fs.map (tv E))
/-- the array classes: int, long, boolean, and rows of Act, Held, Tape -/
def gTys (E : aG) : List (ClassId × FieldType) := [(gA E 0, .int), (gA E 1, .long), (gA E 2, .boolean), (gA E 3, .object RX0), (gA E 4, .object RX2), (gA E 5, .object RX10)]
def RP (E : aG) (M : aM) (nx : Nat) (H : Heap) : Prop := H.size = ta E nx ∧ 1 ≤ nx ∧ ∀ (k : Nat) (x : aE), M k = some x → 1 ≤ k ∧ k < nx ∧ va_at (gD E) vwCl (ta E k, te E x) H
theorem ta_inj {E : aG} {k j : Nat} (hk : 1 ≤ k) (hj : 1 ≤ j) (h : ta E k = ta E j) : k = j := by
  cases k with
  | zero => omega
  | succ k =>
    cases j with
    | zero => omega
    | succ j =>
      have h2 : gb E + k = gb E + j := h
      omega
theorem ta_succ {E : aG} {k : Nat} (hk : 1 ≤ k) : ta E (k + 1) = ta E k + 1 := by
  cases k with
  | zero => omega
  | succ k =>
    show gb E + (k + 1) = gb E + k + 1
    omega
theorem ta_ge {E : aG} {k : Nat} (hk : 1 ≤ k) : gb E ≤ ta E k := by
  cases k with
  | zero => omega
  | succ k =>
    show gb E ≤ gb E + k
    omega
theorem tv_cat (E : aG) (v : Value) : (tv E v).category = v.category := by cases v <;> rfl
theorem tv_cats (E : aG) (st : List Value) : ((st.map (tv E)).map fun v => v.category) = st.map fun v => v.category := by
  rw [List.map_map]
  congr 1
  funext v
  exact tv_cat E v
theorem RP.set {E : aG} {M : aM} {nx k : Nat} {H H1 : Heap} {x0 x : aE} (h : RP E M nx H) (hk : M k = some x0) (hx : va_at (gD E) vwCl (ta E k, te E x) H1) (z : H1.size = H.size) (oq : ∀ q : Nat, q ≠ ta E k → H1[q]? = H[q]?) : RP E (va_up M k (some x)) nx H1 := by
  refine ⟨z.trans h.1, h.2.1, fun j y hj => ?_⟩
  obtain ⟨k1, k2, -⟩ := h.2.2 k x0 hk
  by_cases e : j = k
  · subst e
    rw [va_up_self] at hj
    cases hj
    exact ⟨k1, k2, hx⟩
  · rw [va_up_ne _ _ e] at hj
    obtain ⟨h1, h2, h3⟩ := h.2.2 j y hj
    exact ⟨h1, h2, h3.kept (oq _ (fun z => e (ta_inj h1 k1 z)))⟩
theorem RP.push {E : aG} {M : aM} {nx : Nat} {H H1 : Heap} {x : aE} (h : RP E M nx H) (hx : va_at (gD E) vwCl (ta E nx, te E x) H1) (z : H1.size = H.size + 1) (oq : ∀ q : Nat, q < H.size → H1[q]? = H[q]?) : RP E (va_up M nx (some x)) (nx + 1) H1 := by
  refine ⟨by rw [z, h.1, ta_succ h.2.1], by omega, fun j y hj => ?_⟩
  by_cases e : j = nx
  · subst e
    rw [va_up_self] at hj
    cases hj
    exact ⟨h.2.1, by omega, hx⟩
  · rw [va_up_ne _ _ e] at hj
    obtain ⟨h1, h2, h3⟩ := h.2.2 j y hj
    exact ⟨h1, by omega, h3.kept (oq _ h3.lt)⟩
theorem va_P1 {D : va_G} {cl : List vw_C} {q : Nat × va_E} {H : Heap} (h : va_at D cl q H) : va_P D cl [q] H := by
  intro k q' hk
  cases k with
  | zero => cases hk; exact h
  | succ k => simp at hk
/-- the context of a walk -/
abbrev aC : Type := Program × Launch × Env × Room × State × MethodId × Array Value × List Frame × Method × Code × (State → Prop)
abbrev lvm (E : aG) (lv : List (Nat × Value)) : List (Nat × Value) := lv.map (fun q => (q.1, tv E q.2))
def SV (E : aG) (Γ : aC) (nL : Nat) (M : aM) (nx ce sl pc : Nat) (lv : List (Nat × Value)) (st : List Value) : Prop :=
  match Γ with
  | (p, l, e, R, s, m, args, below, meth, c, Q) => ∀ (H : Heap) (locs : List Loc) (ls : Array Slot), RP E M nx H → va_S (fun q => gb E ≤ q) s.heap H locs → lv_has ls nL (lvm E lv) → W p l e R s m args below meth c H locs ce sl Q (F0 m pc ls (st.map (tv E)))
def CK (E : aG) (own : String) (cc : ByteArray) (nL : Nat) (ret : Option FieldType) (nm : String) (d mc ms : Nat) (Γ : aC) : Prop :=
  match Γ with
  | (p, l, e, R, s, m, args, below, meth, c, Q) => p.tables.exec = Jvm.exec ∧ c.code = cc ∧ c.maxLocals = nL ∧ s.vm.findClass own = some m.cls ∧ (∀ w ∈ TB, w.before args s = true) ∧ va_K (gD E) vwCl (gTys E) s ∧ meth.sig.returnType = ret ∧ meth.locks = false ∧ meth.name = nm ∧ (d ≤ R.frames ∧ 40 * d ≤ R.locals ∧ mc ≤ R.cells ∧ ms ≤ R.slots) ∧ gb E ≤ s.heap.size ∧ gZ E s s.heap ∧ ZC E
theorem lvm_at {E : aG} {ls : Array Slot} {nL : Nat} {lv : List (Nat × Value)} (h : lv_has ls nL (lvm E lv)) (q : Nat) {i : Nat} {v : Value} (hq : lv[q]? = some (i, v)) : ls[i]? = some (.val (tv E v)) :=
  lv_at h q (by rw [List.getElem?_map, hq]; rfl)
theorem lvm_f1 (E : aG) (lv : List (Nat × Value)) (i : Nat) : (lvm E lv).filter (fun q => !(q.1 == i) && !(q.1 + 1 == i && q.2.category == 2)) = lvm E (lv.filter (fun q => !(q.1 == i) && !(q.1 + 1 == i && q.2.category == 2))) := by
  rw [lvm, List.filter_map]
  congr 2
  funext q
  show (!(q.1 == i) && !(q.1 + 1 == i && (tv E q.2).category == 2)) = _
  rw [tv_cat]
theorem lvm_f2 (E : aG) (lv : List (Nat × Value)) (i : Nat) : (lvm E lv).filter (fun q => !(q.1 == i) && (!(q.1 == i + 1) && !(q.1 + 1 == i && q.2.category == 2))) = lvm E (lv.filter (fun q => !(q.1 == i) && (!(q.1 == i + 1) && !(q.1 + 1 == i && q.2.category == 2)))) := by
  rw [lvm, List.filter_map]
  congr 2
  funext q
  show (!(q.1 == i) && (!(q.1 == i + 1) && !(q.1 + 1 == i && (tv E q.2).category == 2))) = _
  rw [tv_cat]
theorem lvm_args (E : aG) : ∀ (i : Nat) (vs : List Value), lv_args i (vs.map (tv E)) = lvm E (lv_args i vs)
  | _, [] => rfl
  | i, v :: vs => by
    show (i, tv E v) :: lv_args (if (tv E v).category = 2 then i + 2 else i + 1) (vs.map (tv E)) = (i, tv E v) :: lvm E (lv_args (if v.category = 2 then i + 2 else i + 1) vs)
    rw [tv_cat, lvm_args E _ vs]
end
section
section
variable {E : aG} {Γ : aC} {own : String} {cc : ByteArray} {nL : Nat} {ret : Option FieldType} {nm : String} {d mc ms : Nat} {M : aM} {nx ce sl pc pc' : Nat} {lv lv' : List (Nat × Value)} {st : List Value}

theorem sv_iconst (hΓ : CK E own cc nL ret nm d mc ms Γ) {n : Int} {v : Int32} (hd : decode cc pc = .ok (.iconst n, 1)) (hv : Int32.ofInt n = v) (hn : pc + 1 = pc') (k : SV E Γ nL M nx ce sl pc' lv (.int v :: st)) : SV E Γ nL M nx ce sl pc lv (st) := by
  obtain ⟨p, l, e, R, s, m, args, below, meth, c, Q⟩ := Γ
  obtain ⟨hx, hb, hml, hown, hts, hK, hr, hlk, hnm, hrm, hsz, hZ, hZC⟩ := hΓ
  subst hn
  intro H locs ls hR hS hl
  exact lv_iconst hx hb hd hv (k H locs ls hR hS hl)

theorem sv_bipush (hΓ : CK E own cc nL ret nm d mc ms Γ) {n : Int} {v : Int32} (hd : decode cc pc = .ok (.bipush n, 2)) (hv : (Int8.ofInt n).toInt32 = v) (hn : pc + 2 = pc') (k : SV E Γ nL M nx ce sl pc' lv (.int v :: st)) : SV E Γ nL M nx ce sl pc lv (st) := by
  obtain ⟨p, l, e, R, s, m, args, below, meth, c, Q⟩ := Γ
  obtain ⟨hx, hb, hml, hown, hts, hK, hr, hlk, hnm, hrm, hsz, hZ, hZC⟩ := hΓ
  subst hn
  intro H locs ls hR hS hl
  exact lv_bipush hx hb hd hv (k H locs ls hR hS hl)

theorem sv_sipush (hΓ : CK E own cc nL ret nm d mc ms Γ) {n : Int} {v : Int32} (hd : decode cc pc = .ok (.sipush n, 3)) (hv : (Int16.ofInt n).toInt32 = v) (hn : pc + 3 = pc') (k : SV E Γ nL M nx ce sl pc' lv (.int v :: st)) : SV E Γ nL M nx ce sl pc lv (st) := by
  obtain ⟨p, l, e, R, s, m, args, below, meth, c, Q⟩ := Γ
  obtain ⟨hx, hb, hml, hown, hts, hK, hr, hlk, hnm, hrm, hsz, hZ, hZC⟩ := hΓ
  subst hn
  intro H locs ls hR hS hl
  exact lv_sipush hx hb hd hv (k H locs ls hR hS hl)

theorem sv_lconst (hΓ : CK E own cc nL ret nm d mc ms Γ) {n : Fin 2} {v : Int64} (hd : decode cc pc = .ok (.lconst n, 1)) (hv : Int64.ofNat (n : Nat) = v) (hn : pc + 1 = pc') (k : SV E Γ nL M nx ce sl pc' lv (.long v :: st)) : SV E Γ nL M nx ce sl pc lv (st) := by
  obtain ⟨p, l, e, R, s, m, args, below, meth, c, Q⟩ := Γ
  obtain ⟨hx, hb, hml, hown, hts, hK, hr, hlk, hnm, hrm, hsz, hZ, hZC⟩ := hΓ
  subst hn
  intro H locs ls hR hS hl
  exact lv_lconst hx hb hd hv (k H locs ls hR hS hl)

theorem sv_iload_n (hΓ : CK E own cc nL ret nm d mc ms Γ) {kk : Fin 4} {i : Nat} {x : Int32} (hd : decode cc pc = .ok (.iload_n kk, 1)) (hi : (kk : Nat) = i) (q : Nat) (hq : lv[q]? = some (i, .int x)) (hn : pc + 1 = pc') (k : SV E Γ nL M nx ce sl pc' lv (.int x :: st)) : SV E Γ nL M nx ce sl pc lv (st) := by
  obtain ⟨p, l, e, R, s, m, args, below, meth, c, Q⟩ := Γ
  obtain ⟨hx, hb, hml, hown, hts, hK, hr, hlk, hnm, hrm, hsz, hZ, hZC⟩ := hΓ
  subst hn
  intro H locs ls hR hS hl
  exact lv_iload_n hx hb hd hi (lvm_at hl q hq) (k H locs ls hR hS hl)

theorem sv_iload (hΓ : CK E own cc nL ret nm d mc ms Γ) {i : Nat} {x : Int32} (hd : decode cc pc = .ok (.iload i, 2)) (q : Nat) (hq : lv[q]? = some (i, .int x)) (hn : pc + 2 = pc') (k : SV E Γ nL M nx ce sl pc' lv (.int x :: st)) : SV E Γ nL M nx ce sl pc lv (st) := by
  obtain ⟨p, l, e, R, s, m, args, below, meth, c, Q⟩ := Γ
  obtain ⟨hx, hb, hml, hown, hts, hK, hr, hlk, hnm, hrm, hsz, hZ, hZC⟩ := hΓ
  subst hn
  intro H locs ls hR hS hl
  exact lv_iload hx hb hd (lvm_at hl q hq) (k H locs ls hR hS hl)

theorem sv_lload_n (hΓ : CK E own cc nL ret nm d mc ms Γ) {kk : Fin 4} {i : Nat} {x : Int64} (hd : decode cc pc = .ok (.lload_n kk, 1)) (hi : (kk : Nat) = i) (q : Nat) (hq : lv[q]? = some (i, .long x)) (hn : pc + 1 = pc') (k : SV E Γ nL M nx ce sl pc' lv (.long x :: st)) : SV E Γ nL M nx ce sl pc lv (st) := by
  obtain ⟨p, l, e, R, s, m, args, below, meth, c, Q⟩ := Γ
  obtain ⟨hx, hb, hml, hown, hts, hK, hr, hlk, hnm, hrm, hsz, hZ, hZC⟩ := hΓ
  subst hn
  intro H locs ls hR hS hl
  exact lv_lload_n hx hb hd hi (lvm_at hl q hq) (k H locs ls hR hS hl)

theorem sv_lload (hΓ : CK E own cc nL ret nm d mc ms Γ) {i : Nat} {x : Int64} (hd : decode cc pc = .ok (.lload i, 2)) (q : Nat) (hq : lv[q]? = some (i, .long x)) (hn : pc + 2 = pc') (k : SV E Γ nL M nx ce sl pc' lv (.long x :: st)) : SV E Γ nL M nx ce sl pc lv (st) := by
  obtain ⟨p, l, e, R, s, m, args, below, meth, c, Q⟩ := Γ
  obtain ⟨hx, hb, hml, hown, hts, hK, hr, hlk, hnm, hrm, hsz, hZ, hZC⟩ := hΓ
  subst hn
  intro H locs ls hR hS hl
  exact lv_lload hx hb hd (lvm_at hl q hq) (k H locs ls hR hS hl)

theorem sv_aload_n (hΓ : CK E own cc nL ret nm d mc ms Γ) {kk : Fin 4} {i : Nat} {x : Nat} (hd : decode cc pc = .ok (.aload_n kk, 1)) (hi : (kk : Nat) = i) (q : Nat) (hq : lv[q]? = some (i, .ref x)) (hn : pc + 1 = pc') (k : SV E Γ nL M nx ce sl pc' lv (.ref x :: st)) : SV E Γ nL M nx ce sl pc lv (st) := by
  obtain ⟨p, l, e, R, s, m, args, below, meth, c, Q⟩ := Γ
  obtain ⟨hx, hb, hml, hown, hts, hK, hr, hlk, hnm, hrm, hsz, hZ, hZC⟩ := hΓ
  subst hn
  intro H locs ls hR hS hl
  exact lv_aload_n hx hb hd hi (lvm_at hl q hq) (k H locs ls hR hS hl)

theorem sv_aload (hΓ : CK E own cc nL ret nm d mc ms Γ) {i : Nat} {x : Nat} (hd : decode cc pc = .ok (.aload i, 2)) (q : Nat) (hq : lv[q]? = some (i, .ref x)) (hn : pc + 2 = pc') (k : SV E Γ nL M nx ce sl pc' lv (.ref x :: st)) : SV E Γ nL M nx ce sl pc lv (st) := by
  obtain ⟨p, l, e, R, s, m, args, below, meth, c, Q⟩ := Γ
  obtain ⟨hx, hb, hml, hown, hts, hK, hr, hlk, hnm, hrm, hsz, hZ, hZC⟩ := hΓ
  subst hn
  intro H locs ls hR hS hl
  exact lv_aload hx hb hd (lvm_at hl q hq) (k H locs ls hR hS hl)

theorem sv_aload_nN (hΓ : CK E own cc nL ret nm d mc ms Γ) {kk : Fin 4} {i : Nat} (hd : decode cc pc = .ok (.aload_n kk, 1)) (hi : (kk : Nat) = i) (q : Nat) (hq : lv[q]? = some (i, .null)) (hn : pc + 1 = pc') (k : SV E Γ nL M nx ce sl pc' lv (.null :: st)) : SV E Γ nL M nx ce sl pc lv (st) := by
  obtain ⟨p, l, e, R, s, m, args, below, meth, c, Q⟩ := Γ
  obtain ⟨hx, hb, hml, hown, hts, hK, hr, hlk, hnm, hrm, hsz, hZ, hZC⟩ := hΓ
  subst hn
  intro H locs ls hR hS hl
  exact lv_aload_nN hx hb hd hi (lvm_at hl q hq) (k H locs ls hR hS hl)

theorem sv_aloadN (hΓ : CK E own cc nL ret nm d mc ms Γ) {i : Nat} (hd : decode cc pc = .ok (.aload i, 2)) (q : Nat) (hq : lv[q]? = some (i, .null)) (hn : pc + 2 = pc') (k : SV E Γ nL M nx ce sl pc' lv (.null :: st)) : SV E Γ nL M nx ce sl pc lv (st) := by
  obtain ⟨p, l, e, R, s, m, args, below, meth, c, Q⟩ := Γ
  obtain ⟨hx, hb, hml, hown, hts, hK, hr, hlk, hnm, hrm, hsz, hZ, hZC⟩ := hΓ
  subst hn
  intro H locs ls hR hS hl
  exact lv_aloadN hx hb hd (lvm_at hl q hq) (k H locs ls hR hS hl)

theorem sv_iadd (hΓ : CK E own cc nL ret nm d mc ms Γ) {x y : Int32} (hd : decode cc pc = .ok (.iadd, 1))  (hn : pc + 1 = pc') (k : SV E Γ nL M nx ce sl pc' lv (.int (x + y) :: st)) : SV E Γ nL M nx ce sl pc lv (.int y :: .int x :: st) := by
  obtain ⟨p, l, e, R, s, m, args, below, meth, c, Q⟩ := Γ
  obtain ⟨hx, hb, hml, hown, hts, hK, hr, hlk, hnm, hrm, hsz, hZ, hZC⟩ := hΓ
  subst hn
  intro H locs ls hR hS hl
  exact lv_iadd hx hb hd (k H locs ls hR hS hl)

theorem sv_isub (hΓ : CK E own cc nL ret nm d mc ms Γ) {x y : Int32} (hd : decode cc pc = .ok (.isub, 1))  (hn : pc + 1 = pc') (k : SV E Γ nL M nx ce sl pc' lv (.int (x - y) :: st)) : SV E Γ nL M nx ce sl pc lv (.int y :: .int x :: st) := by
  obtain ⟨p, l, e, R, s, m, args, below, meth, c, Q⟩ := Γ
  obtain ⟨hx, hb, hml, hown, hts, hK, hr, hlk, hnm, hrm, hsz, hZ, hZC⟩ := hΓ
  subst hn
  intro H locs ls hR hS hl
  exact lv_isub hx hb hd (k H locs ls hR hS hl)

theorem sv_imul (hΓ : CK E own cc nL ret nm d mc ms Γ) {x y : Int32} (hd : decode cc pc = .ok (.imul, 1))  (hn : pc + 1 = pc') (k : SV E Γ nL M nx ce sl pc' lv (.int (x * y) :: st)) : SV E Γ nL M nx ce sl pc lv (.int y :: .int x :: st) := by
  obtain ⟨p, l, e, R, s, m, args, below, meth, c, Q⟩ := Γ
  obtain ⟨hx, hb, hml, hown, hts, hK, hr, hlk, hnm, hrm, hsz, hZ, hZC⟩ := hΓ
  subst hn
  intro H locs ls hR hS hl
  exact lv_imul hx hb hd (k H locs ls hR hS hl)

theorem sv_iand (hΓ : CK E own cc nL ret nm d mc ms Γ) {x y : Int32} (hd : decode cc pc = .ok (.iand, 1))  (hn : pc + 1 = pc') (k : SV E Γ nL M nx ce sl pc' lv (.int (x &&& y) :: st)) : SV E Γ nL M nx ce sl pc lv (.int y :: .int x :: st) := by
  obtain ⟨p, l, e, R, s, m, args, below, meth, c, Q⟩ := Γ
  obtain ⟨hx, hb, hml, hown, hts, hK, hr, hlk, hnm, hrm, hsz, hZ, hZC⟩ := hΓ
  subst hn
  intro H locs ls hR hS hl
  exact lv_iand hx hb hd (k H locs ls hR hS hl)

theorem sv_ior (hΓ : CK E own cc nL ret nm d mc ms Γ) {x y : Int32} (hd : decode cc pc = .ok (.ior, 1))  (hn : pc + 1 = pc') (k : SV E Γ nL M nx ce sl pc' lv (.int (x ||| y) :: st)) : SV E Γ nL M nx ce sl pc lv (.int y :: .int x :: st) := by
  obtain ⟨p, l, e, R, s, m, args, below, meth, c, Q⟩ := Γ
  obtain ⟨hx, hb, hml, hown, hts, hK, hr, hlk, hnm, hrm, hsz, hZ, hZC⟩ := hΓ
  subst hn
  intro H locs ls hR hS hl
  exact lv_ior hx hb hd (k H locs ls hR hS hl)

theorem sv_ladd (hΓ : CK E own cc nL ret nm d mc ms Γ) {x y : Int64} (hd : decode cc pc = .ok (.ladd, 1))  (hn : pc + 1 = pc') (k : SV E Γ nL M nx ce sl pc' lv (.long (x + y) :: st)) : SV E Γ nL M nx ce sl pc lv (.long y :: .long x :: st) := by
  obtain ⟨p, l, e, R, s, m, args, below, meth, c, Q⟩ := Γ
  obtain ⟨hx, hb, hml, hown, hts, hK, hr, hlk, hnm, hrm, hsz, hZ, hZC⟩ := hΓ
  subst hn
  intro H locs ls hR hS hl
  exact lv_ladd hx hb hd (k H locs ls hR hS hl)

theorem sv_lsub (hΓ : CK E own cc nL ret nm d mc ms Γ) {x y : Int64} (hd : decode cc pc = .ok (.lsub, 1))  (hn : pc + 1 = pc') (k : SV E Γ nL M nx ce sl pc' lv (.long (x - y) :: st)) : SV E Γ nL M nx ce sl pc lv (.long y :: .long x :: st) := by
  obtain ⟨p, l, e, R, s, m, args, below, meth, c, Q⟩ := Γ
  obtain ⟨hx, hb, hml, hown, hts, hK, hr, hlk, hnm, hrm, hsz, hZ, hZC⟩ := hΓ
  subst hn
  intro H locs ls hR hS hl
  exact lv_lsub hx hb hd (k H locs ls hR hS hl)

theorem sv_lmul (hΓ : CK E own cc nL ret nm d mc ms Γ) {x y : Int64} (hd : decode cc pc = .ok (.lmul, 1))  (hn : pc + 1 = pc') (k : SV E Γ nL M nx ce sl pc' lv (.long (x * y) :: st)) : SV E Γ nL M nx ce sl pc lv (.long y :: .long x :: st) := by
  obtain ⟨p, l, e, R, s, m, args, below, meth, c, Q⟩ := Γ
  obtain ⟨hx, hb, hml, hown, hts, hK, hr, hlk, hnm, hrm, hsz, hZ, hZC⟩ := hΓ
  subst hn
  intro H locs ls hR hS hl
  exact lv_lmul hx hb hd (k H locs ls hR hS hl)

theorem sv_land (hΓ : CK E own cc nL ret nm d mc ms Γ) {x y : Int64} (hd : decode cc pc = .ok (.land, 1))  (hn : pc + 1 = pc') (k : SV E Γ nL M nx ce sl pc' lv (.long (x &&& y) :: st)) : SV E Γ nL M nx ce sl pc lv (.long y :: .long x :: st) := by
  obtain ⟨p, l, e, R, s, m, args, below, meth, c, Q⟩ := Γ
  obtain ⟨hx, hb, hml, hown, hts, hK, hr, hlk, hnm, hrm, hsz, hZ, hZC⟩ := hΓ
  subst hn
  intro H locs ls hR hS hl
  exact lv_land hx hb hd (k H locs ls hR hS hl)

theorem sv_lor (hΓ : CK E own cc nL ret nm d mc ms Γ) {x y : Int64} (hd : decode cc pc = .ok (.lor, 1))  (hn : pc + 1 = pc') (k : SV E Γ nL M nx ce sl pc' lv (.long (x ||| y) :: st)) : SV E Γ nL M nx ce sl pc lv (.long y :: .long x :: st) := by
  obtain ⟨p, l, e, R, s, m, args, below, meth, c, Q⟩ := Γ
  obtain ⟨hx, hb, hml, hown, hts, hK, hr, hlk, hnm, hrm, hsz, hZ, hZC⟩ := hΓ
  subst hn
  intro H locs ls hR hS hl
  exact lv_lor hx hb hd (k H locs ls hR hS hl)

theorem sv_idiv (hΓ : CK E own cc nL ret nm d mc ms Γ) {x y : Int32} (hd : decode cc pc = .ok (.idiv, 1)) (hne : ¬ y = 0) (hn : pc + 1 = pc') (k : SV E Γ nL M nx ce sl pc' lv (.int (x / y) :: st)) : SV E Γ nL M nx ce sl pc lv (.int y :: .int x :: st) := by
  obtain ⟨p, l, e, R, s, m, args, below, meth, c, Q⟩ := Γ
  obtain ⟨hx, hb, hml, hown, hts, hK, hr, hlk, hnm, hrm, hsz, hZ, hZC⟩ := hΓ
  subst hn
  intro H locs ls hR hS hl
  exact lv_idiv hx hb hd hne (k H locs ls hR hS hl)

theorem sv_ldiv (hΓ : CK E own cc nL ret nm d mc ms Γ) {x y : Int64} (hd : decode cc pc = .ok (.ldiv, 1)) (hne : ¬ y = 0) (hn : pc + 1 = pc') (k : SV E Γ nL M nx ce sl pc' lv (.long (x / y) :: st)) : SV E Γ nL M nx ce sl pc lv (.long y :: .long x :: st) := by
  obtain ⟨p, l, e, R, s, m, args, below, meth, c, Q⟩ := Γ
  obtain ⟨hx, hb, hml, hown, hts, hK, hr, hlk, hnm, hrm, hsz, hZ, hZC⟩ := hΓ
  subst hn
  intro H locs ls hR hS hl
  exact lv_ldiv hx hb hd hne (k H locs ls hR hS hl)

theorem sv_lneg (hΓ : CK E own cc nL ret nm d mc ms Γ) {x : Int64} (hd : decode cc pc = .ok (.lneg, 1))  (hn : pc + 1 = pc') (k : SV E Γ nL M nx ce sl pc' lv (.long (-x) :: st)) : SV E Γ nL M nx ce sl pc lv (.long x :: st) := by
  obtain ⟨p, l, e, R, s, m, args, below, meth, c, Q⟩ := Γ
  obtain ⟨hx, hb, hml, hown, hts, hK, hr, hlk, hnm, hrm, hsz, hZ, hZC⟩ := hΓ
  subst hn
  intro H locs ls hR hS hl
  exact lv_lneg hx hb hd (k H locs ls hR hS hl)

theorem sv_ineg (hΓ : CK E own cc nL ret nm d mc ms Γ) {x : Int32} (hd : decode cc pc = .ok (.ineg, 1))  (hn : pc + 1 = pc') (k : SV E Γ nL M nx ce sl pc' lv (.int (-x) :: st)) : SV E Γ nL M nx ce sl pc lv (.int x :: st) := by
  obtain ⟨p, l, e, R, s, m, args, below, meth, c, Q⟩ := Γ
  obtain ⟨hx, hb, hml, hown, hts, hK, hr, hlk, hnm, hrm, hsz, hZ, hZC⟩ := hΓ
  subst hn
  intro H locs ls hR hS hl
  exact lv_ineg hx hb hd (k H locs ls hR hS hl)

theorem sv_ishl (hΓ : CK E own cc nL ret nm d mc ms Γ) {x y : Int32} (hd : decode cc pc = .ok (.ishl, 1))  (hn : pc + 1 = pc') (k : SV E Γ nL M nx ce sl pc' lv (.int (x <<< (y &&& 31)) :: st)) : SV E Γ nL M nx ce sl pc lv (.int y :: .int x :: st) := by
  obtain ⟨p, l, e, R, s, m, args, below, meth, c, Q⟩ := Γ
  obtain ⟨hx, hb, hml, hown, hts, hK, hr, hlk, hnm, hrm, hsz, hZ, hZC⟩ := hΓ
  subst hn
  intro H locs ls hR hS hl
  exact lv_ishl hx hb hd (k H locs ls hR hS hl)

theorem sv_iushr (hΓ : CK E own cc nL ret nm d mc ms Γ) {x y v : Int32} (hd : decode cc pc = .ok (.iushr, 1)) (hv : (x.toUInt32 >>> (y.toUInt32 &&& Int32.toUInt32 31)).toInt32 = v) (hn : pc + 1 = pc') (k : SV E Γ nL M nx ce sl pc' lv (.int v :: st)) : SV E Γ nL M nx ce sl pc lv (.int y :: .int x :: st) := by
  obtain ⟨p, l, e, R, s, m, args, below, meth, c, Q⟩ := Γ
  obtain ⟨hx, hb, hml, hown, hts, hK, hr, hlk, hnm, hrm, hsz, hZ, hZC⟩ := hΓ
  subst hn
  intro H locs ls hR hS hl
  exact lv_iushr hx hb hd hv (k H locs ls hR hS hl)

theorem sv_lshl (hΓ : CK E own cc nL ret nm d mc ms Γ) {x v : Int64} {y : Int32} (hd : decode cc pc = .ok (.lshl, 1)) (hv : x <<< (y.toInt64 &&& 63) = v) (hn : pc + 1 = pc') (k : SV E Γ nL M nx ce sl pc' lv (.long v :: st)) : SV E Γ nL M nx ce sl pc lv (.int y :: .long x :: st) := by
  obtain ⟨p, l, e, R, s, m, args, below, meth, c, Q⟩ := Γ
  obtain ⟨hx, hb, hml, hown, hts, hK, hr, hlk, hnm, hrm, hsz, hZ, hZC⟩ := hΓ
  subst hn
  intro H locs ls hR hS hl
  exact lv_lshl hx hb hd hv (k H locs ls hR hS hl)

theorem sv_lshr (hΓ : CK E own cc nL ret nm d mc ms Γ) {x v : Int64} {y : Int32} (hd : decode cc pc = .ok (.lshr, 1)) (hv : x >>> (y.toInt64 &&& 63) = v) (hn : pc + 1 = pc') (k : SV E Γ nL M nx ce sl pc' lv (.long v :: st)) : SV E Γ nL M nx ce sl pc lv (.int y :: .long x :: st) := by
  obtain ⟨p, l, e, R, s, m, args, below, meth, c, Q⟩ := Γ
  obtain ⟨hx, hb, hml, hown, hts, hK, hr, hlk, hnm, hrm, hsz, hZ, hZC⟩ := hΓ
  subst hn
  intro H locs ls hR hS hl
  exact lv_lshr hx hb hd hv (k H locs ls hR hS hl)

theorem sv_i2l (hΓ : CK E own cc nL ret nm d mc ms Γ) {x : Int32} {v : Int64} (hd : decode cc pc = .ok (.i2l, 1)) (hv : x.toInt64 = v) (hn : pc + 1 = pc') (k : SV E Γ nL M nx ce sl pc' lv (.long v :: st)) : SV E Γ nL M nx ce sl pc lv (.int x :: st) := by
  obtain ⟨p, l, e, R, s, m, args, below, meth, c, Q⟩ := Γ
  obtain ⟨hx, hb, hml, hown, hts, hK, hr, hlk, hnm, hrm, hsz, hZ, hZC⟩ := hΓ
  subst hn
  intro H locs ls hR hS hl
  exact lv_i2l hx hb hd hv (k H locs ls hR hS hl)

theorem sv_l2i (hΓ : CK E own cc nL ret nm d mc ms Γ) {x : Int64} {v : Int32} (hd : decode cc pc = .ok (.l2i, 1)) (hv : x.toInt32 = v) (hn : pc + 1 = pc') (k : SV E Γ nL M nx ce sl pc' lv (.int v :: st)) : SV E Γ nL M nx ce sl pc lv (.long x :: st) := by
  obtain ⟨p, l, e, R, s, m, args, below, meth, c, Q⟩ := Γ
  obtain ⟨hx, hb, hml, hown, hts, hK, hr, hlk, hnm, hrm, hsz, hZ, hZC⟩ := hΓ
  subst hn
  intro H locs ls hR hS hl
  exact lv_l2i hx hb hd hv (k H locs ls hR hS hl)

theorem sv_lcmp (hΓ : CK E own cc nL ret nm d mc ms Γ) {x y : Int64} (hd : decode cc pc = .ok (.lcmp, 1))  (hn : pc + 1 = pc') (k : SV E Γ nL M nx ce sl pc' lv (.int (lg_cmp x y) :: st)) : SV E Γ nL M nx ce sl pc lv (.long y :: .long x :: st) := by
  obtain ⟨p, l, e, R, s, m, args, below, meth, c, Q⟩ := Γ
  obtain ⟨hx, hb, hml, hown, hts, hK, hr, hlk, hnm, hrm, hsz, hZ, hZC⟩ := hΓ
  subst hn
  intro H locs ls hR hS hl
  exact W.lcmp hx hb hd (k H locs ls hR hS hl)

theorem sv_null (hΓ : CK E own cc nL ret nm d mc ms Γ)  (hd : decode cc pc = .ok (.aconst_null, 1))  (hn : pc + 1 = pc') (k : SV E Γ nL M nx ce sl pc' lv (.null :: st)) : SV E Γ nL M nx ce sl pc lv (st) := by
  obtain ⟨p, l, e, R, s, m, args, below, meth, c, Q⟩ := Γ
  obtain ⟨hx, hb, hml, hown, hts, hK, hr, hlk, hnm, hrm, hsz, hZ, hZC⟩ := hΓ
  subst hn
  intro H locs ls hR hS hl
  exact lv_null hx hb hd (k H locs ls hR hS hl)

theorem sv_dup (hΓ : CK E own cc nL ret nm d mc ms Γ) {v : Value} (hd : decode cc pc = .ok (.dup, 1)) (hc : v.category = 1) (hn : pc + 1 = pc') (k : SV E Γ nL M nx ce sl pc' lv (v :: v :: st)) : SV E Γ nL M nx ce sl pc lv (v :: st) := by
  obtain ⟨p, l, e, R, s, m, args, below, meth, c, Q⟩ := Γ
  obtain ⟨hx, hb, hml, hown, hts, hK, hr, hlk, hnm, hrm, hsz, hZ, hZC⟩ := hΓ
  subst hn
  intro H locs ls hR hS hl
  exact lv_dup hx hb hd (by rw [tv_cat]; exact hc) (k H locs ls hR hS hl)

theorem sv_pop (hΓ : CK E own cc nL ret nm d mc ms Γ) {v : Value} (hd : decode cc pc = .ok (.pop, 1)) (hc : v.category = 1) (hn : pc + 1 = pc') (k : SV E Γ nL M nx ce sl pc' lv (st)) : SV E Γ nL M nx ce sl pc lv (v :: st) := by
  obtain ⟨p, l, e, R, s, m, args, below, meth, c, Q⟩ := Γ
  obtain ⟨hx, hb, hml, hown, hts, hK, hr, hlk, hnm, hrm, hsz, hZ, hZC⟩ := hΓ
  subst hn
  intro H locs ls hR hS hl
  exact lv_pop hx hb hd (by rw [tv_cat]; exact hc) (k H locs ls hR hS hl)

theorem sv_dup2 (hΓ : CK E own cc nL ret nm d mc ms Γ) {v w : Value} (hd : decode cc pc = .ok (.dup2, 1)) (hc : v.category = 1) (hc2 : w.category = 1) (hn : pc + 1 = pc') (k : SV E Γ nL M nx ce sl pc' lv (v :: w :: v :: w :: st)) : SV E Γ nL M nx ce sl pc lv (v :: w :: st) := by
  obtain ⟨p, l, e, R, s, m, args, below, meth, c, Q⟩ := Γ
  obtain ⟨hx, hb, hml, hown, hts, hK, hr, hlk, hnm, hrm, hsz, hZ, hZC⟩ := hΓ
  subst hn
  intro H locs ls hR hS hl
  exact lv_dup2_11 hx hb hd (by rw [tv_cat]; exact hc) (by rw [tv_cat]; exact hc2) (k H locs ls hR hS hl)

theorem sv_ldc (hΓ : CK E own cc nL ret nm d mc ms Γ) {i : Nat} {v : Int32} (hd : decode cc pc = .ok (.ldc i, 2)) (hw : Cond.constant own i v ∈ TB) (hn : pc + 2 = pc') (k : SV E Γ nL M nx ce sl pc' lv (.int v :: st)) : SV E Γ nL M nx ce sl pc lv (st) := by
  obtain ⟨p, l, e, R, s, m, args, below, meth, c, Q⟩ := Γ
  obtain ⟨hx, hb, hml, hown, hts, hK, hr, hlk, hnm, hrm, hsz, hZ, hZC⟩ := hΓ
  subst hn
  intro H locs ls hR hS hl
  exact lv_ldc hx hb hown (hts _ hw) hd (k H locs ls hR hS hl)

theorem sv_ldcw (hΓ : CK E own cc nL ret nm d mc ms Γ) {i : Nat} {v : Int32} (hd : decode cc pc = .ok (.ldc_w i, 3)) (hw : Cond.constant own i v ∈ TB) (hn : pc + 3 = pc') (k : SV E Γ nL M nx ce sl pc' lv (.int v :: st)) : SV E Γ nL M nx ce sl pc lv (st) := by
  obtain ⟨p, l, e, R, s, m, args, below, meth, c, Q⟩ := Γ
  obtain ⟨hx, hb, hml, hown, hts, hK, hr, hlk, hnm, hrm, hsz, hZ, hZC⟩ := hΓ
  subst hn
  intro H locs ls hR hS hl
  exact lv_ldcw hx hb hown (hts _ hw) hd (k H locs ls hR hS hl)

theorem sv_ldc2 (hΓ : CK E own cc nL ret nm d mc ms Γ) {i : Nat} {v : Int64} (hd : decode cc pc = .ok (.ldc2_w i, 3)) (hw : Cond.constantLong own i v ∈ TB) (hn : pc + 3 = pc') (k : SV E Γ nL M nx ce sl pc' lv (.long v :: st)) : SV E Γ nL M nx ce sl pc lv (st) := by
  obtain ⟨p, l, e, R, s, m, args, below, meth, c, Q⟩ := Γ
  obtain ⟨hx, hb, hml, hown, hts, hK, hr, hlk, hnm, hrm, hsz, hZ, hZC⟩ := hΓ
  subst hn
  intro H locs ls hR hS hl
  exact lv_ldc2 hx hb hown (hts _ hw) hd (k H locs ls hR hS hl)

theorem sv_istore_n (hΓ : CK E own cc nL ret nm d mc ms Γ) {kk : Fin 4} {i : Nat} {x : Int32} (hd : decode cc pc = .ok (.istore_n kk, 1)) (hi : (kk : Nat) = i) (hi2 : i < nL) (hl' : (i, Value.int x) :: lv.filter (fun q => !(q.1 == i) && !(q.1 + 1 == i && q.2.category == 2)) = lv') (hn : pc + 1 = pc') (k : SV E Γ nL M nx ce sl pc' lv' st) : SV E Γ nL M nx ce sl pc lv (.int x :: st) := by
  obtain ⟨p, l, e, R, s, m, args, below, meth, c, Q⟩ := Γ
  obtain ⟨hx, hb, hml, hown, hts, hK, hr, hlk, hnm, hrm, hsz, hZ, hZC⟩ := hΓ
  subst hn
  subst hl'
  intro H locs ls hR hS hl
  exact lv_istore_n hx hb hd hi hl hi2 (by rw [lvm_f1]; rfl) (fun ls' hl' => k H locs ls' hR hS hl')

theorem sv_istore (hΓ : CK E own cc nL ret nm d mc ms Γ) {i : Nat} {x : Int32} (hd : decode cc pc = .ok (.istore i, 2)) (hi2 : i < nL) (hl' : (i, Value.int x) :: lv.filter (fun q => !(q.1 == i) && !(q.1 + 1 == i && q.2.category == 2)) = lv') (hn : pc + 2 = pc') (k : SV E Γ nL M nx ce sl pc' lv' st) : SV E Γ nL M nx ce sl pc lv (.int x :: st) := by
  obtain ⟨p, l, e, R, s, m, args, below, meth, c, Q⟩ := Γ
  obtain ⟨hx, hb, hml, hown, hts, hK, hr, hlk, hnm, hrm, hsz, hZ, hZC⟩ := hΓ
  subst hn
  subst hl'
  intro H locs ls hR hS hl
  exact lv_istore hx hb hd hl hi2 (by rw [lvm_f1]; rfl) (fun ls' hl' => k H locs ls' hR hS hl')

theorem sv_lstore_n (hΓ : CK E own cc nL ret nm d mc ms Γ) {kk : Fin 4} {i : Nat} {x : Int64} (hd : decode cc pc = .ok (.lstore_n kk, 1)) (hi : (kk : Nat) = i) (hi2 : i + 1 < nL) (hl' : (i, Value.long x) :: lv.filter (fun q => !(q.1 == i) && (!(q.1 == i + 1) && !(q.1 + 1 == i && q.2.category == 2))) = lv') (hn : pc + 1 = pc') (k : SV E Γ nL M nx ce sl pc' lv' st) : SV E Γ nL M nx ce sl pc lv (.long x :: st) := by
  obtain ⟨p, l, e, R, s, m, args, below, meth, c, Q⟩ := Γ
  obtain ⟨hx, hb, hml, hown, hts, hK, hr, hlk, hnm, hrm, hsz, hZ, hZC⟩ := hΓ
  subst hn
  subst hl'
  intro H locs ls hR hS hl
  exact lv_lstore_n hx hb hd hi hl hi2 (by rw [lvm_f2]; rfl) (fun ls' hl' => k H locs ls' hR hS hl')

theorem sv_lstore (hΓ : CK E own cc nL ret nm d mc ms Γ) {i : Nat} {x : Int64} (hd : decode cc pc = .ok (.lstore i, 2)) (hi2 : i + 1 < nL) (hl' : (i, Value.long x) :: lv.filter (fun q => !(q.1 == i) && (!(q.1 == i + 1) && !(q.1 + 1 == i && q.2.category == 2))) = lv') (hn : pc + 2 = pc') (k : SV E Γ nL M nx ce sl pc' lv' st) : SV E Γ nL M nx ce sl pc lv (.long x :: st) := by
  obtain ⟨p, l, e, R, s, m, args, below, meth, c, Q⟩ := Γ
  obtain ⟨hx, hb, hml, hown, hts, hK, hr, hlk, hnm, hrm, hsz, hZ, hZC⟩ := hΓ
  subst hn
  subst hl'
  intro H locs ls hR hS hl
  exact lv_lstore hx hb hd hl hi2 (by rw [lvm_f2]; rfl) (fun ls' hl' => k H locs ls' hR hS hl')

theorem sv_astore_n (hΓ : CK E own cc nL ret nm d mc ms Γ) {kk : Fin 4} {i : Nat} {x : Nat} (hd : decode cc pc = .ok (.astore_n kk, 1)) (hi : (kk : Nat) = i) (hi2 : i < nL) (hl' : (i, Value.ref x) :: lv.filter (fun q => !(q.1 == i) && !(q.1 + 1 == i && q.2.category == 2)) = lv') (hn : pc + 1 = pc') (k : SV E Γ nL M nx ce sl pc' lv' st) : SV E Γ nL M nx ce sl pc lv (.ref x :: st) := by
  obtain ⟨p, l, e, R, s, m, args, below, meth, c, Q⟩ := Γ
  obtain ⟨hx, hb, hml, hown, hts, hK, hr, hlk, hnm, hrm, hsz, hZ, hZC⟩ := hΓ
  subst hn
  subst hl'
  intro H locs ls hR hS hl
  exact lv_astore_n hx hb hd hi hl hi2 (by rw [lvm_f1]; rfl) (fun ls' hl' => k H locs ls' hR hS hl')

theorem sv_astore (hΓ : CK E own cc nL ret nm d mc ms Γ) {i : Nat} {x : Nat} (hd : decode cc pc = .ok (.astore i, 2)) (hi2 : i < nL) (hl' : (i, Value.ref x) :: lv.filter (fun q => !(q.1 == i) && !(q.1 + 1 == i && q.2.category == 2)) = lv') (hn : pc + 2 = pc') (k : SV E Γ nL M nx ce sl pc' lv' st) : SV E Γ nL M nx ce sl pc lv (.ref x :: st) := by
  obtain ⟨p, l, e, R, s, m, args, below, meth, c, Q⟩ := Γ
  obtain ⟨hx, hb, hml, hown, hts, hK, hr, hlk, hnm, hrm, hsz, hZ, hZC⟩ := hΓ
  subst hn
  subst hl'
  intro H locs ls hR hS hl
  exact lv_astore hx hb hd hl hi2 (by rw [lvm_f1]; rfl) (fun ls' hl' => k H locs ls' hR hS hl')

theorem sv_astore_nN (hΓ : CK E own cc nL ret nm d mc ms Γ) {kk : Fin 4} {i : Nat} (hd : decode cc pc = .ok (.astore_n kk, 1)) (hi : (kk : Nat) = i) (hi2 : i < nL) (hl' : (i, Value.null) :: lv.filter (fun q => !(q.1 == i) && !(q.1 + 1 == i && q.2.category == 2)) = lv') (hn : pc + 1 = pc') (k : SV E Γ nL M nx ce sl pc' lv' st) : SV E Γ nL M nx ce sl pc lv (.null :: st) := by
  obtain ⟨p, l, e, R, s, m, args, below, meth, c, Q⟩ := Γ
  obtain ⟨hx, hb, hml, hown, hts, hK, hr, hlk, hnm, hrm, hsz, hZ, hZC⟩ := hΓ
  subst hn
  subst hl'
  intro H locs ls hR hS hl
  exact lv_astore_nN hx hb hd hi hl hi2 (by rw [lvm_f1]; rfl) (fun ls' hl' => k H locs ls' hR hS hl')
theorem sv_astoreN (hΓ : CK E own cc nL ret nm d mc ms Γ) {i : Nat} (hd : decode cc pc = .ok (.astore i, 2)) (hi2 : i < nL) (hl' : (i, Value.null) :: lv.filter (fun q => !(q.1 == i) && !(q.1 + 1 == i && q.2.category == 2)) = lv') (hn : pc + 2 = pc') (k : SV E Γ nL M nx ce sl pc' lv' st) : SV E Γ nL M nx ce sl pc lv (.null :: st) := by
  obtain ⟨p, l, e, R, s, m, args, below, meth, c, Q⟩ := Γ
  obtain ⟨hx, hb, hml, hown, hts, hK, hr, hlk, hnm, hrm, hsz, hZ, hZC⟩ := hΓ
  subst hn
  subst hl'
  intro H locs ls hR hS hl
  exact lv_astoreN hx hb hd hl hi2 (by rw [lvm_f1]; rfl) (fun ls' hl' => k H locs ls' hR hS hl')
theorem sv_iinc (hΓ : CK E own cc nL ret nm d mc ms Γ) {i : Nat} {n : Int} {x v : Int32} (hd : decode cc pc = .ok (.iinc i n, 3)) (q : Nat) (hq : lv[q]? = some (i, .int x)) (hv : x + Int32.ofInt n = v) (hi2 : i < nL) (hl' : (i, Value.int v) :: lv.filter (fun q => !(q.1 == i) && !(q.1 + 1 == i && q.2.category == 2)) = lv') (hn : pc + 3 = pc') (k : SV E Γ nL M nx ce sl pc' lv' st) : SV E Γ nL M nx ce sl pc lv st := by
  obtain ⟨p, l, e, R, s, m, args, below, meth, c, Q⟩ := Γ
  obtain ⟨hx, hb, hml, hown, hts, hK, hr, hlk, hnm, hrm, hsz, hZ, hZC⟩ := hΓ
  subst hn
  subst hl'
  intro H locs ls hR hS hl
  exact lv_iinc hx hb hd hl (k := q) (by rw [List.getElem?_map, hq]; rfl) hv hi2 (by rw [lvm_f1]; rfl) (fun ls' hl' => k H locs ls' hR hS hl')
theorem sv_goto (hΓ : CK E own cc nL ret nm d mc ms Γ) {off : Int} (hd : decode cc pc = .ok (.goto off, 3)) (ht : (pc : Int) + off = (pc' : Int)) (k : SV E Γ nL M nx ce sl pc' lv st) : SV E Γ nL M nx ce sl pc lv st := by
  obtain ⟨p, l, e, R, s, m, args, below, meth, c, Q⟩ := Γ
  obtain ⟨hx, hb, hml, hown, hts, hK, hr, hlk, hnm, hrm, hsz, hZ, hZC⟩ := hΓ
  intro H locs ls hR hS hl
  exact lv_goto hx hb hd ht (k H locs ls hR hS hl)

theorem sv_if_eq (hΓ : CK E own cc nL ret nm d mc ms Γ) {x : Int32} {off : Int} {tgt : Nat} (hd : decode cc pc = .ok (.ifCond .eq off, 3)) (ht : (pc : Int) + off = (tgt : Int)) (hn : pc + 3 = pc') (kt : x = 0 → SV E Γ nL M nx ce sl tgt lv st) (kf : ¬ x = 0 → SV E Γ nL M nx ce sl pc' lv st) : SV E Γ nL M nx ce sl pc lv (.int x :: st) := by
  obtain ⟨p, l, e, R, s, m, args, below, meth, c, Q⟩ := Γ
  obtain ⟨hx, hb, hml, hown, hts, hK, hr, hlk, hnm, hrm, hsz, hZ, hZC⟩ := hΓ
  subst hn
  intro H locs ls hR hS hl
  exact lv_if_eq hx hb hd ht (fun h => kt h H locs ls hR hS hl) (fun h => kf h H locs ls hR hS hl)

theorem sv_icmp_eq (hΓ : CK E own cc nL ret nm d mc ms Γ) {x y : Int32} {off : Int} {tgt : Nat} (hd : decode cc pc = .ok (.if_icmp .eq off, 3)) (ht : (pc : Int) + off = (tgt : Int)) (hn : pc + 3 = pc') (kt : x = y → SV E Γ nL M nx ce sl tgt lv st) (kf : ¬ x = y → SV E Γ nL M nx ce sl pc' lv st) : SV E Γ nL M nx ce sl pc lv (.int y :: .int x :: st) := by
  obtain ⟨p, l, e, R, s, m, args, below, meth, c, Q⟩ := Γ
  obtain ⟨hx, hb, hml, hown, hts, hK, hr, hlk, hnm, hrm, hsz, hZ, hZC⟩ := hΓ
  subst hn
  intro H locs ls hR hS hl
  exact lv_icmp_eq hx hb hd ht (fun h => kt h H locs ls hR hS hl) (fun h => kf h H locs ls hR hS hl)

theorem sv_if_ne (hΓ : CK E own cc nL ret nm d mc ms Γ) {x : Int32} {off : Int} {tgt : Nat} (hd : decode cc pc = .ok (.ifCond .ne off, 3)) (ht : (pc : Int) + off = (tgt : Int)) (hn : pc + 3 = pc') (kt : ¬ x = 0 → SV E Γ nL M nx ce sl tgt lv st) (kf : x = 0 → SV E Γ nL M nx ce sl pc' lv st) : SV E Γ nL M nx ce sl pc lv (.int x :: st) := by
  obtain ⟨p, l, e, R, s, m, args, below, meth, c, Q⟩ := Γ
  obtain ⟨hx, hb, hml, hown, hts, hK, hr, hlk, hnm, hrm, hsz, hZ, hZC⟩ := hΓ
  subst hn
  intro H locs ls hR hS hl
  exact lv_if_ne hx hb hd ht (fun h => kt h H locs ls hR hS hl) (fun h => kf h H locs ls hR hS hl)

theorem sv_icmp_ne (hΓ : CK E own cc nL ret nm d mc ms Γ) {x y : Int32} {off : Int} {tgt : Nat} (hd : decode cc pc = .ok (.if_icmp .ne off, 3)) (ht : (pc : Int) + off = (tgt : Int)) (hn : pc + 3 = pc') (kt : ¬ x = y → SV E Γ nL M nx ce sl tgt lv st) (kf : x = y → SV E Γ nL M nx ce sl pc' lv st) : SV E Γ nL M nx ce sl pc lv (.int y :: .int x :: st) := by
  obtain ⟨p, l, e, R, s, m, args, below, meth, c, Q⟩ := Γ
  obtain ⟨hx, hb, hml, hown, hts, hK, hr, hlk, hnm, hrm, hsz, hZ, hZC⟩ := hΓ
  subst hn
  intro H locs ls hR hS hl
  exact lv_icmp_ne hx hb hd ht (fun h => kt h H locs ls hR hS hl) (fun h => kf h H locs ls hR hS hl)

theorem sv_if_lt (hΓ : CK E own cc nL ret nm d mc ms Γ) {x : Int32} {off : Int} {tgt : Nat} (hd : decode cc pc = .ok (.ifCond .lt off, 3)) (ht : (pc : Int) + off = (tgt : Int)) (hn : pc + 3 = pc') (kt : x < 0 → SV E Γ nL M nx ce sl tgt lv st) (kf : ¬ x < 0 → SV E Γ nL M nx ce sl pc' lv st) : SV E Γ nL M nx ce sl pc lv (.int x :: st) := by
  obtain ⟨p, l, e, R, s, m, args, below, meth, c, Q⟩ := Γ
  obtain ⟨hx, hb, hml, hown, hts, hK, hr, hlk, hnm, hrm, hsz, hZ, hZC⟩ := hΓ
  subst hn
  intro H locs ls hR hS hl
  exact lv_if_lt hx hb hd ht (fun h => kt h H locs ls hR hS hl) (fun h => kf h H locs ls hR hS hl)

theorem sv_icmp_lt (hΓ : CK E own cc nL ret nm d mc ms Γ) {x y : Int32} {off : Int} {tgt : Nat} (hd : decode cc pc = .ok (.if_icmp .lt off, 3)) (ht : (pc : Int) + off = (tgt : Int)) (hn : pc + 3 = pc') (kt : x < y → SV E Γ nL M nx ce sl tgt lv st) (kf : ¬ x < y → SV E Γ nL M nx ce sl pc' lv st) : SV E Γ nL M nx ce sl pc lv (.int y :: .int x :: st) := by
  obtain ⟨p, l, e, R, s, m, args, below, meth, c, Q⟩ := Γ
  obtain ⟨hx, hb, hml, hown, hts, hK, hr, hlk, hnm, hrm, hsz, hZ, hZC⟩ := hΓ
  subst hn
  intro H locs ls hR hS hl
  exact lv_icmp_lt hx hb hd ht (fun h => kt h H locs ls hR hS hl) (fun h => kf h H locs ls hR hS hl)

theorem sv_if_ge (hΓ : CK E own cc nL ret nm d mc ms Γ) {x : Int32} {off : Int} {tgt : Nat} (hd : decode cc pc = .ok (.ifCond .ge off, 3)) (ht : (pc : Int) + off = (tgt : Int)) (hn : pc + 3 = pc') (kt : 0 ≤ x → SV E Γ nL M nx ce sl tgt lv st) (kf : ¬ 0 ≤ x → SV E Γ nL M nx ce sl pc' lv st) : SV E Γ nL M nx ce sl pc lv (.int x :: st) := by
  obtain ⟨p, l, e, R, s, m, args, below, meth, c, Q⟩ := Γ
  obtain ⟨hx, hb, hml, hown, hts, hK, hr, hlk, hnm, hrm, hsz, hZ, hZC⟩ := hΓ
  subst hn
  intro H locs ls hR hS hl
  exact lv_if_ge hx hb hd ht (fun h => kt h H locs ls hR hS hl) (fun h => kf h H locs ls hR hS hl)

theorem sv_icmp_ge (hΓ : CK E own cc nL ret nm d mc ms Γ) {x y : Int32} {off : Int} {tgt : Nat} (hd : decode cc pc = .ok (.if_icmp .ge off, 3)) (ht : (pc : Int) + off = (tgt : Int)) (hn : pc + 3 = pc') (kt : y ≤ x → SV E Γ nL M nx ce sl tgt lv st) (kf : ¬ y ≤ x → SV E Γ nL M nx ce sl pc' lv st) : SV E Γ nL M nx ce sl pc lv (.int y :: .int x :: st) := by
  obtain ⟨p, l, e, R, s, m, args, below, meth, c, Q⟩ := Γ
  obtain ⟨hx, hb, hml, hown, hts, hK, hr, hlk, hnm, hrm, hsz, hZ, hZC⟩ := hΓ
  subst hn
  intro H locs ls hR hS hl
  exact lv_icmp_ge hx hb hd ht (fun h => kt h H locs ls hR hS hl) (fun h => kf h H locs ls hR hS hl)

theorem sv_if_gt (hΓ : CK E own cc nL ret nm d mc ms Γ) {x : Int32} {off : Int} {tgt : Nat} (hd : decode cc pc = .ok (.ifCond .gt off, 3)) (ht : (pc : Int) + off = (tgt : Int)) (hn : pc + 3 = pc') (kt : 0 < x → SV E Γ nL M nx ce sl tgt lv st) (kf : ¬ 0 < x → SV E Γ nL M nx ce sl pc' lv st) : SV E Γ nL M nx ce sl pc lv (.int x :: st) := by
  obtain ⟨p, l, e, R, s, m, args, below, meth, c, Q⟩ := Γ
  obtain ⟨hx, hb, hml, hown, hts, hK, hr, hlk, hnm, hrm, hsz, hZ, hZC⟩ := hΓ
  subst hn
  intro H locs ls hR hS hl
  exact lv_if_gt hx hb hd ht (fun h => kt h H locs ls hR hS hl) (fun h => kf h H locs ls hR hS hl)

theorem sv_icmp_gt (hΓ : CK E own cc nL ret nm d mc ms Γ) {x y : Int32} {off : Int} {tgt : Nat} (hd : decode cc pc = .ok (.if_icmp .gt off, 3)) (ht : (pc : Int) + off = (tgt : Int)) (hn : pc + 3 = pc') (kt : y < x → SV E Γ nL M nx ce sl tgt lv st) (kf : ¬ y < x → SV E Γ nL M nx ce sl pc' lv st) : SV E Γ nL M nx ce sl pc lv (.int y :: .int x :: st) := by
  obtain ⟨p, l, e, R, s, m, args, below, meth, c, Q⟩ := Γ
  obtain ⟨hx, hb, hml, hown, hts, hK, hr, hlk, hnm, hrm, hsz, hZ, hZC⟩ := hΓ
  subst hn
  intro H locs ls hR hS hl
  exact lv_icmp_gt hx hb hd ht (fun h => kt h H locs ls hR hS hl) (fun h => kf h H locs ls hR hS hl)

theorem sv_if_le (hΓ : CK E own cc nL ret nm d mc ms Γ) {x : Int32} {off : Int} {tgt : Nat} (hd : decode cc pc = .ok (.ifCond .le off, 3)) (ht : (pc : Int) + off = (tgt : Int)) (hn : pc + 3 = pc') (kt : x ≤ 0 → SV E Γ nL M nx ce sl tgt lv st) (kf : ¬ x ≤ 0 → SV E Γ nL M nx ce sl pc' lv st) : SV E Γ nL M nx ce sl pc lv (.int x :: st) := by
  obtain ⟨p, l, e, R, s, m, args, below, meth, c, Q⟩ := Γ
  obtain ⟨hx, hb, hml, hown, hts, hK, hr, hlk, hnm, hrm, hsz, hZ, hZC⟩ := hΓ
  subst hn
  intro H locs ls hR hS hl
  exact lv_if_le hx hb hd ht (fun h => kt h H locs ls hR hS hl) (fun h => kf h H locs ls hR hS hl)

theorem sv_icmp_le (hΓ : CK E own cc nL ret nm d mc ms Γ) {x y : Int32} {off : Int} {tgt : Nat} (hd : decode cc pc = .ok (.if_icmp .le off, 3)) (ht : (pc : Int) + off = (tgt : Int)) (hn : pc + 3 = pc') (kt : x ≤ y → SV E Γ nL M nx ce sl tgt lv st) (kf : ¬ x ≤ y → SV E Γ nL M nx ce sl pc' lv st) : SV E Γ nL M nx ce sl pc lv (.int y :: .int x :: st) := by
  obtain ⟨p, l, e, R, s, m, args, below, meth, c, Q⟩ := Γ
  obtain ⟨hx, hb, hml, hown, hts, hK, hr, hlk, hnm, hrm, hsz, hZ, hZC⟩ := hΓ
  subst hn
  intro H locs ls hR hS hl
  exact lv_icmp_le hx hb hd ht (fun h => kt h H locs ls hR hS hl) (fun h => kf h H locs ls hR hS hl)

theorem sv_ifnonnull (hΓ : CK E own cc nL ret nm d mc ms Γ) {x : Nat} {off : Int} (hd : decode cc pc = .ok (.ifnonnull off, 3)) (ht : (pc : Int) + off = (pc' : Int)) (k : SV E Γ nL M nx ce sl pc' lv st) : SV E Γ nL M nx ce sl pc lv (.ref x :: st) := by
  obtain ⟨p, l, e, R, s, m, args, below, meth, c, Q⟩ := Γ
  obtain ⟨hx, hb, hml, hown, hts, hK, hr, hlk, hnm, hrm, hsz, hZ, hZC⟩ := hΓ
  intro H locs ls hR hS hl
  exact lv_ifnonnull hx hb hd ht (k H locs ls hR hS hl)

theorem sv_ifnull (hΓ : CK E own cc nL ret nm d mc ms Γ) {x : Nat} {off : Int} (hd : decode cc pc = .ok (.ifnull off, 3)) (hn : pc + 3 = pc') (k : SV E Γ nL M nx ce sl pc' lv st) : SV E Γ nL M nx ce sl pc lv (.ref x :: st) := by
  obtain ⟨p, l, e, R, s, m, args, below, meth, c, Q⟩ := Γ
  obtain ⟨hx, hb, hml, hown, hts, hK, hr, hlk, hnm, hrm, hsz, hZ, hZC⟩ := hΓ
  subst hn
  intro H locs ls hR hS hl
  exact lv_ifnull hx hb hd (k H locs ls hR hS hl)

theorem sv_ifnullN (hΓ : CK E own cc nL ret nm d mc ms Γ) {off : Int} (hd : decode cc pc = .ok (.ifnull off, 3)) (ht : (pc : Int) + off = (pc' : Int)) (k : SV E Γ nL M nx ce sl pc' lv st) : SV E Γ nL M nx ce sl pc lv (.null :: st) := by
  obtain ⟨p, l, e, R, s, m, args, below, meth, c, Q⟩ := Γ
  obtain ⟨hx, hb, hml, hown, hts, hK, hr, hlk, hnm, hrm, hsz, hZ, hZC⟩ := hΓ
  intro H locs ls hR hS hl
  exact lv_ifnullN hx hb hd ht (k H locs ls hR hS hl)

theorem sv_ifnonnullN (hΓ : CK E own cc nL ret nm d mc ms Γ) {off : Int} (hd : decode cc pc = .ok (.ifnonnull off, 3)) (hn : pc + 3 = pc') (k : SV E Γ nL M nx ce sl pc' lv st) : SV E Γ nL M nx ce sl pc lv (.null :: st) := by
  obtain ⟨p, l, e, R, s, m, args, below, meth, c, Q⟩ := Γ
  obtain ⟨hx, hb, hml, hown, hts, hK, hr, hlk, hnm, hrm, hsz, hZ, hZC⟩ := hΓ
  subst hn
  intro H locs ls hR hS hl
  exact lv_ifnonnullN hx hb hd (k H locs ls hR hS hl)

theorem sv_lookup (hΓ : CK E own cc nL ret nm d mc ms Γ) {dflt : Int} {ps : Array (Int × Int)} {len : Nat} {x : Int32} {off : Int} (hd : decode cc pc = .ok (.lookupswitch dflt ps, len)) (hp : (ps.toList.zip (ps.toList.drop 1)).all (fun (a, next) => a.1 < next.1) = true) (ho : Op.lookupswitch.offset ps.toList dflt x.toInt = off) (ht : (pc : Int) + off = (pc' : Int)) (k : SV E Γ nL M nx ce sl pc' lv st) : SV E Γ nL M nx ce sl pc lv (.int x :: st) := by
  obtain ⟨p, l, e, R, s, m, args, below, meth, c, Q⟩ := Γ
  obtain ⟨hx, hb, hml, hown, hts, hK, hr, hlk, hnm, hrm, hsz, hZ, hZC⟩ := hΓ
  intro H locs ls hR hS hl
  exact lv_lookup hx hb hd hp ho ht (k H locs ls hR hS hl)
theorem sv_tableOut (hΓ : CK E own cc nL ret nm d mc ms Γ) {dflt lo hi : Int} {offs : Array Int} {len : Nat} {x : Int32} (hd : decode cc pc = .ok (.tableswitch dflt lo hi offs, len)) (h : x.toInt < lo ∨ hi < x.toInt) (ht : (pc : Int) + dflt = (pc' : Int)) (k : SV E Γ nL M nx ce sl pc' lv st) : SV E Γ nL M nx ce sl pc lv (.int x :: st) := by
  obtain ⟨p, l, e, R, s, m, args, below, meth, c, Q⟩ := Γ
  obtain ⟨hx, hb, hml, hown, hts, hK, hr, hlk, hnm, hrm, hsz, hZ, hZC⟩ := hΓ
  intro H locs ls hR hS hl
  exact lv_tableOut hx hb hd h ht (k H locs ls hR hS hl)
theorem sv_tableIn (hΓ : CK E own cc nL ret nm d mc ms Γ) {dflt lo hi : Int} {offs : Array Int} {len : Nat} {x : Int32} {off : Int} (hd : decode cc pc = .ok (.tableswitch dflt lo hi offs, len)) (h1 : ¬ x.toInt < lo) (h2 : ¬ hi < x.toInt) (ho : offs[(x.toInt - lo).toNat]? = some off) (ht : (pc : Int) + off = (pc' : Int)) (k : SV E Γ nL M nx ce sl pc' lv st) : SV E Γ nL M nx ce sl pc lv (.int x :: st) := by
  obtain ⟨p, l, e, R, s, m, args, below, meth, c, Q⟩ := Γ
  obtain ⟨hx, hb, hml, hown, hts, hK, hr, hlk, hnm, hrm, hsz, hZ, hZC⟩ := hΓ
  intro H locs ls hR hS hl
  exact lv_tableIn hx hb hd h1 h2 ho ht (k H locs ls hR hS hl)
/-- a table of targets, place by place: x is lo + k -/
theorem sv_table {x : Int32} {lo hi : Int} {A : Prop} (N : Nat) (hN : hi = lo + N) (hout : x.toInt < lo ∨ hi < x.toInt → A) (hin : ∀ k : Nat, k ≤ N → x.toInt = lo + k → A) : A := by
  by_cases h1 : x.toInt < lo
  · exact hout (Or.inl h1)
  · by_cases h2 : hi < x.toInt
    · exact hout (Or.inr h2)
    · exact hin (x.toInt - lo).toNat (by omega) (by omega)

theorem sv_get (hΓ : CK E own cc nL ret nm d mc ms Γ) {C : String} {T : u_T} {N ci index a : Nat} {fs : List Value} {v : Value} (hin : ∀ w ∈ u_ws C T N, w ∈ TB) (hc : vwCl[ci]? = some (C, T, N)) (k : Nat) (hk : k < N) (hlink : Cond.fieldLink own index C (T k).2.1 (T k).2.2.1 ∈ TB) (hdecl : (T k).1 = C) (hM : M a = some (.inr (ci, fs))) (hv : fs[k]? = some v) (hd : decode cc pc = .ok (.getfield index, 3)) (hn : pc + 3 = pc') (kk : SV E Γ nL M nx ce sl pc' lv (v :: st)) : SV E Γ nL M nx ce sl pc lv (.ref a :: st) := by
  obtain ⟨p, l, e, R, s, m, args, below, meth, c, Q⟩ := Γ
  obtain ⟨hx, hb, hml, hown, hts, hK, hr, hlk, hnm, hrm, hsz, hZ, hZC⟩ := hΓ
  subst hn
  intro H locs ls hR hS hl
  have hat := (hR.2.2 a _ hM).2.2
  exact va_get (D := gD E) (cl := vwCl) (ws := [(ta E a, te E (.inr (ci, fs)))]) (C := C) (T := T) (N := N) hx hb hts hin hown hK (va_P1 hat) 0 rfl hc k hk (hts _ hlink) (fun _ h9 => by rw [hdecl] at h9; exact h9) (v := tv E v) (by rw [List.getElem?_map, hv]; rfl) hd (kk H locs ls hR hS hl)
theorem sv_put (hΓ : CK E own cc nL ret nm d mc ms Γ) {C : String} {T : u_T} {N ci index a : Nat} {fs : List Value} {v : Value} (hin : ∀ w ∈ u_ws C T N, w ∈ TB) (ty0 : Nat → FieldType) (hty : ∀ k, k < N → parseFieldDescriptor (T k).2.2.1 = some (ty0 k)) (hnm : ∀ a, a < N → ∀ b, b < N → a ≠ b → (T a).2.1 ≠ (T b).2.1) (hc : vwCl[ci]? = some (C, T, N)) (k : Nat) (hk : k < N) (hlink : Cond.fieldLink own index C (T k).2.1 (T k).2.2.1 ∈ TB) (hdecl : (T k).1 = C) (hfin : (T k).2.2.2 = false) {ty : FieldType} (hp : parseFieldDescriptor (T k).2.2.1 = some ty) (hM : M a = some (.inr (ci, fs))) (hok : narrow ty (tv E v) = tv E v ∧ fits ty (tv E v) = true) (hlen : k < fs.length) (hd : decode cc pc = .ok (.putfield index, 3)) (hn : pc + 3 = pc') (kk : SV E Γ nL (va_up M a (some (.inr (ci, fs.set k v)))) nx ce sl pc' lv st) : SV E Γ nL M nx ce sl pc lv (v :: .ref a :: st) := by
  obtain ⟨p, l, e, R, s, m, args, below, meth, c, Q⟩ := Γ
  obtain ⟨hx, hb, hml, hown, hts, hK, hr, hlk, hnm', hrm, hsz, hZ, hZC⟩ := hΓ
  subst hn
  intro H locs ls hR hS hl
  obtain ⟨ha1, ha2, hat⟩ := hR.2.2 a _ hM
  have hap := va_apart (own := own) (D := gD E) hts hin ty0 hty hnm hK hc
  obtain ⟨r, h1, cell, q1, q2, q3, q4⟩ := hat
  have hre : r = (C, T, N) := Option.some.inj (h1.symm.trans hc)
  subst hre
  obtain ⟨hSl, hfc, kC, hkC, hkind⟩ := hK.1 ci _ hc
  obtain ⟨cf, kf, fi, f, hi, hsl⟩ := hSl k hk
  have hlay := hts _ (hin _ (u_in_lay hk))
  unfold u_lay at hlay
  rw [if_neg (by rw [hfin]; decide)] at hlay
  have hst := (u_facts hfc hkC (u_lays hts hin hk) hi).1
  have h6 := u_store hfc hkC hkind hlay hi hp hok.1 hok.2
  have hsame : s.fieldFound? C (T k).2.1 (T k).2.2.1 = some (cf, kf, fi, f) := by rw [hdecl] at hi; exact hi
  refine W.putK hx hb (f := f) ⟨hown, hts _ hlink, ⟨_, _, _, hsame⟩, hst⟩ (by rw [q2]; exact h6) q1 q3 (by rw [hsl]; exact k2_hasslot (q4 k hk)) rfl rfl hd fun H' e1 e2 e3 => ?_
  rw [hsl] at e1 ⊢
  refine kk H' _ ls (hR.set hM ⟨_, hc, t_OB.to (V := updV (vp_V (fs.map (tv E))) k (tv E v)) ⟨_, e1, q2, q3, t_set q4 hap hk (tv E v)⟩ (fun j _ => ?_)⟩ e2 e3) (hS.put e2 e3 (ta_ge ha1)) hl
  rw [vp_updV_set (by rw [List.length_map]; exact hlen) (tv E v) j]
  show vp_V ((fs.map (tv E)).set k (tv E v)) j = vp_V ((fs.set k v).map (tv E)) j
  rw [List.map_set]
theorem sv_putF (hΓ : CK E own cc nL ret nm d mc ms Γ) {T : u_T} {N ci index a : Nat} {fs : List Value} {v : Value} (hin : ∀ w ∈ u_ws own T N, w ∈ TB) (ty0 : Nat → FieldType) (hty : ∀ k, k < N → parseFieldDescriptor (T k).2.2.1 = some (ty0 k)) (hnm : ∀ a, a < N → ∀ b, b < N → a ≠ b → (T a).2.1 ≠ (T b).2.1) (hc : vwCl[ci]? = some (own, T, N)) (k : Nat) (hk : k < N) (hlink : Cond.fieldLink own index own (T k).2.1 (T k).2.2.1 ∈ TB) (hdecl : (T k).1 = own) (hfin : (T k).2.2.2 = true) (hini : nm = "<init>") {ty : FieldType} (hp : parseFieldDescriptor (T k).2.2.1 = some ty) (hM : M a = some (.inr (ci, fs))) (hok : narrow ty (tv E v) = tv E v ∧ fits ty (tv E v) = true) (hlen : k < fs.length) (hd : decode cc pc = .ok (.putfield index, 3)) (hn : pc + 3 = pc') (kk : SV E Γ nL (va_up M a (some (.inr (ci, fs.set k v)))) nx ce sl pc' lv st) : SV E Γ nL M nx ce sl pc lv (v :: .ref a :: st) := by
  obtain ⟨p, l, e, R, s, m, args, below, meth, c, Q⟩ := Γ
  obtain ⟨hx, hb, hml, hown, hts, hK, hr, hlk, hnm', hrm, hsz, hZ, hZC⟩ := hΓ
  subst hn
  intro H locs ls hR hS hl
  obtain ⟨ha1, ha2, hat⟩ := hR.2.2 a _ hM
  have hap := va_apart (own := own) (D := gD E) hts hin ty0 hty hnm hK hc
  obtain ⟨r, h1, cell, q1, q2, q3, q4⟩ := hat
  have hre : r = (own, T, N) := Option.some.inj (h1.symm.trans hc)
  subst hre
  obtain ⟨hSl, hfc, kC, hkC, hkind⟩ := hK.1 ci _ hc
  obtain ⟨cf, kf, fi, f, hi, hsl⟩ := hSl k hk
  have hlay := hts _ (hin _ (u_in_lay hk))
  unfold u_lay at hlay
  rw [if_pos hfin] at hlay
  have hst := (u_facts hfc hkC (u_lays hts hin hk) hi).1
  have hcf : m.cls = cf := by
    obtain ⟨_, _, c', _, _, _, -, -, hf', -, -, -, hown2, -⟩ := Cond.laysFinal_spec hlay
    have e1 : c' = cf := by have := hi.symm.trans hf'; simp at this; exact this.1.symm
    rw [hdecl] at hown2
    rw [← e1]; exact Option.some.inj (hown.symm.trans hown2)
  have h6 := u_fits hfc hkC hkind (Or.inr hlay) hi hp hok.1 hok.2
  have hsame : s.fieldFound? own (T k).2.1 (T k).2.2.1 = some (cf, kf, fi, f) := by rw [hdecl] at hi; exact hi
  refine W.putFinK hx hb hown (hts _ hlink) hsame hst hcf (hnm'.trans hini) (by rw [q2]; exact h6) q1 q3 (by rw [hsl]; exact k2_hasslot (q4 k hk)) rfl rfl hd fun H' e1 e2 e3 => ?_
  rw [hsl] at e1 ⊢
  refine kk H' _ ls (hR.set hM ⟨_, hc, t_OB.to (V := updV (vp_V (fs.map (tv E))) k (tv E v)) ⟨_, e1, q2, q3, t_set q4 hap hk (tv E v)⟩ (fun j _ => ?_)⟩ e2 e3) (hS.put e2 e3 (ta_ge ha1)) hl
  rw [vp_updV_set (by rw [List.length_map]; exact hlen) (tv E v) j]
  show vp_V ((fs.map (tv E)).set k (tv E v)) j = vp_V ((fs.set k v).map (tv E)) j
  rw [List.map_set]

theorem sv_iald (hΓ : CK E own cc nL ret nm d mc ms Γ) {a n : Nat} {f : Nat → Int32} {i : Int32} (hd : decode cc pc = .ok (.iaload, 1)) (hM : M a = some (.inl (0, n, .inl f))) (hin : vp_in i n) (hn : pc + 1 = pc') (k : SV E Γ nL M nx ce sl pc' lv (.int (f i.toNatClampNeg) :: st)) : SV E Γ nL M nx ce sl pc lv (.int i :: .ref a :: st) := by
  obtain ⟨p, l, e, R, s, m, args, below, meth, c, Q⟩ := Γ
  obtain ⟨hx, hb, hml, hown, hts, hK, hr, hlk, hnm, hrm, hsz, hZ, hZC⟩ := hΓ
  subst hn
  intro H locs ls hR hS hl
  exact va_iald (D := gD E) (cl := vwCl) (ws := [(ta E a, te E (.inl (0, n, .inl f)))]) hx hb hK (va_P1 (hR.2.2 a _ hM).2.2) 0 0 rfl rfl hin hd (k H locs ls hR hS hl)

theorem sv_zald (hΓ : CK E own cc nL ret nm d mc ms Γ) {a n : Nat} {f : Nat → Int32} {i : Int32} (hd : decode cc pc = .ok (.baload, 1)) (hM : M a = some (.inl (2, n, .inl f))) (hin : vp_in i n) (hn : pc + 1 = pc') (k : SV E Γ nL M nx ce sl pc' lv (.int (f i.toNatClampNeg) :: st)) : SV E Γ nL M nx ce sl pc lv (.int i :: .ref a :: st) := by
  obtain ⟨p, l, e, R, s, m, args, below, meth, c, Q⟩ := Γ
  obtain ⟨hx, hb, hml, hown, hts, hK, hr, hlk, hnm, hrm, hsz, hZ, hZC⟩ := hΓ
  subst hn
  intro H locs ls hR hS hl
  exact va_zald (D := gD E) (cl := vwCl) (ws := [(ta E a, te E (.inl (2, n, .inl f)))]) hx hb hK (va_P1 (hR.2.2 a _ hM).2.2) 0 2 rfl rfl hin hd (k H locs ls hR hS hl)

theorem sv_lald (hΓ : CK E own cc nL ret nm d mc ms Γ) {a n : Nat} {f : Nat → Int64} {i : Int32} (hd : decode cc pc = .ok (.laload, 1)) (hM : M a = some (.inl (1, n, .inr (.inl f)))) (hin : vp_in i n) (hn : pc + 1 = pc') (k : SV E Γ nL M nx ce sl pc' lv (.long (f i.toNatClampNeg) :: st)) : SV E Γ nL M nx ce sl pc lv (.int i :: .ref a :: st) := by
  obtain ⟨p, l, e, R, s, m, args, below, meth, c, Q⟩ := Γ
  obtain ⟨hx, hb, hml, hown, hts, hK, hr, hlk, hnm, hrm, hsz, hZ, hZC⟩ := hΓ
  subst hn
  intro H locs ls hR hS hl
  exact va_lald (D := gD E) (cl := vwCl) (ws := [(ta E a, te E (.inl (1, n, .inr (.inl f))))]) hx hb hK (va_P1 (hR.2.2 a _ hM).2.2) 0 1 rfl rfl hin hd (k H locs ls hR hS hl)

theorem tv_rf (E : aG) (r : Option Nat) : tv E (va_rf r) = va_rf (r.map (ta E)) := by cases r <;> rfl
theorem sv_aald (hΓ : CK E own cc nL ret nm d mc ms Γ) {a n t : Nat} {C : String} {f : Nat → Option Nat} {i : Int32} (ht : (gTys E)[t]? = some (gA E t, .object C)) (hd : decode cc pc = .ok (.aaload, 1)) (hM : M a = some (.inl (t, n, .inr (.inr (.inr (.inr f)))))) (hin : vp_in i n) {v : Value} (hv : va_rf (f i.toNatClampNeg) = v) (hn : pc + 1 = pc') (k : SV E Γ nL M nx ce sl pc' lv (v :: st)) : SV E Γ nL M nx ce sl pc lv (.int i :: .ref a :: st) := by
  obtain ⟨p, l, e, R, s, m, args, below, meth, c, Q⟩ := Γ
  obtain ⟨hx, hb, hml, hown, hts, hK, hr, hlk, hnm, hrm, hsz, hZ, hZC⟩ := hΓ
  subst hn
  subst hv
  intro H locs ls hR hS hl
  have kk := k H locs ls hR hS hl
  rw [List.map_cons, tv_rf] at kk
  exact va_aldq (D := gD E) (cl := vwCl) (ws := [(ta E a, te E (.inl (t, n, .inr (.inr (.inr (.inr f))))))]) hx hb hK (va_P1 (hR.2.2 a _ hM).2.2) 0 t rfl ht hin hd kk
theorem sv_alen (hΓ : CK E own cc nL ret nm d mc ms Γ) {a t : Nat} {x : vp_A} {ty : FieldType} (ht : (gTys E)[t]? = some (gA E t, ty)) (hd : decode cc pc = .ok (.arraylength, 1)) (hM : M a = some (.inl (t, x))) {v : Int32} (hv : Int32.ofNat x.1 = v) (hn : pc + 1 = pc') (k : SV E Γ nL M nx ce sl pc' lv (.int v :: st)) : SV E Γ nL M nx ce sl pc lv (.ref a :: st) := by
  obtain ⟨p, l, e, R, s, m, args, below, meth, c, Q⟩ := Γ
  obtain ⟨hx, hb, hml, hown, hts, hK, hr, hlk, hnm, hrm, hsz, hZ, hZC⟩ := hΓ
  subst hn
  intro H locs ls hR hS hl
  obtain ⟨n, y⟩ := x
  exact va_alen (D := gD E) (cl := vwCl) (ws := [(ta E a, te E (.inl (t, n, y)))]) hx hb hK (va_P1 (hR.2.2 a _ hM).2.2) 0 t rfl ht hv hd (k H locs ls hR hS hl)

theorem sv_iast (hΓ : CK E own cc nL ret nm d mc ms Γ) {a n : Nat} {f : Nat → Int32} {i : Int32} {x : Int32} (hd : decode cc pc = .ok (.iastore, 1)) (hM : M a = some (.inl (0, n, .inl f))) (hin : vp_in i n) (hn : pc + 1 = pc') (k : SV E Γ nL (va_up M a (some (.inl (0, n, .inl (upd f i.toNatClampNeg x))))) nx ce sl pc' lv st) : SV E Γ nL M nx ce sl pc lv (.int x :: .int i :: .ref a :: st) := by
  obtain ⟨p, l, e, R, s, m, args, below, meth, c, Q⟩ := Γ
  obtain ⟨hx, hb, hml, hown, hts, hK, hr, hlk, hnm, hrm, hsz, hZ, hZC⟩ := hΓ
  subst hn
  intro H locs ls hR hS hl
  obtain ⟨ha1, ha2, hat⟩ := hR.2.2 a _ hM
  refine W.iast hx hb hat ((hK.2 0 _ rfl).1 n _) (fun q => by cases q) (by show ¬ (i < 0 ∨ (arrV _ _ _).slots.size ≤ _); rw [arrV_size]; exact hin) rfl rfl hd fun H1 e z oq => ?_
  refine k H1 _ ls (hR.set hM ?_ z oq) (hS.put z oq (ta_ge ha1)) hl
  show H1[ta E a]? = some (vp_cell (gA E 0) (n, .inl (upd f i.toNatClampNeg x)))
  rw [e]
  show some ((vp_cell (gA E 0) (n, .inl f)).setSlot _ _) = _
  rw [vp_cell_i, vp_cell_i, arrV_store]
  congr 2
  funext q
  by_cases hq : q = i.toNatClampNeg
  · subst hq
    simp [updV, upd]
  · simp [updV, upd, hq]

theorem sv_last (hΓ : CK E own cc nL ret nm d mc ms Γ) {a n : Nat} {f : Nat → Int64} {i : Int32} {x : Int64} (hd : decode cc pc = .ok (.lastore, 1)) (hM : M a = some (.inl (1, n, .inr (.inl f)))) (hin : vp_in i n) (hn : pc + 1 = pc') (k : SV E Γ nL (va_up M a (some (.inl (1, n, .inr (.inl (vp_updL f i.toNatClampNeg x)))))) nx ce sl pc' lv st) : SV E Γ nL M nx ce sl pc lv (.long x :: .int i :: .ref a :: st) := by
  obtain ⟨p, l, e, R, s, m, args, below, meth, c, Q⟩ := Γ
  obtain ⟨hx, hb, hml, hown, hts, hK, hr, hlk, hnm, hrm, hsz, hZ, hZC⟩ := hΓ
  subst hn
  intro H locs ls hR hS hl
  obtain ⟨ha1, ha2, hat⟩ := hR.2.2 a _ hM
  refine W.last hx hb hat ((hK.2 1 _ rfl).1 n _) (fun q => by cases q) (by show ¬ (i < 0 ∨ (arrV _ _ _).slots.size ≤ _); rw [arrV_size]; exact hin) rfl rfl hd fun H1 e z oq => ?_
  refine k H1 _ ls (hR.set hM ?_ z oq) (hS.put z oq (ta_ge ha1)) hl
  show H1[ta E a]? = some (vp_cell (gA E 1) (n, .inr (.inl (vp_updL f i.toNatClampNeg x))))
  rw [e]
  show some ((vp_cell (gA E 1) (n, .inr (.inl f))).setSlot _ _) = _
  rw [vp_cell_l, vp_cell_l, arrV_store]
  congr 2
  funext q
  by_cases hq : q = i.toNatClampNeg
  · subst hq
    simp [updV, vp_updL]
  · simp [updV, vp_updL, hq]

theorem sv_zast (hΓ : CK E own cc nL ret nm d mc ms Γ) {a n : Nat} {f : Nat → Int32} {i : Int32} {x : Int32} (hd : decode cc pc = .ok (.bastore, 1)) (hM : M a = some (.inl (2, n, .inl f))) (hin : vp_in i n) (hz : narrow .boolean (.int x) = .int x) (hn : pc + 1 = pc') (k : SV E Γ nL (va_up M a (some (.inl (2, n, .inl (upd f i.toNatClampNeg x))))) nx ce sl pc' lv st) : SV E Γ nL M nx ce sl pc lv (.int x :: .int i :: .ref a :: st) := by
  obtain ⟨p, l, e, R, s, m, args, below, meth, c, Q⟩ := Γ
  obtain ⟨hx, hb, hml, hown, hts, hK, hr, hlk, hnm, hrm, hsz, hZ, hZC⟩ := hΓ
  subst hn
  intro H locs ls hR hS hl
  obtain ⟨ha1, ha2, hat⟩ := hR.2.2 a _ hM
  refine W.zast hx hb hat ((hK.2 2 _ rfl).1 n _) (fun q => by cases q) (by show ¬ (i < 0 ∨ (arrV _ _ _).slots.size ≤ _); rw [arrV_size]; exact hin) rfl rfl hd fun H1 e z oq => ?_
  refine k H1 _ ls (hR.set hM ?_ z oq) (hS.put z oq (ta_ge ha1)) hl
  show H1[ta E a]? = some (vp_cell (gA E 2) (n, .inl (upd f i.toNatClampNeg x)))
  rw [e]
  show some ((vp_cell (gA E 2) (n, .inl f)).setSlot _ _) = _
  rw [vp_cell_i, vp_cell_i, arrV_store]
  congr 2
  funext q
  by_cases hq : q = i.toNatClampNeg
  · subst hq
    simp [updV, upd, hz]
  · simp [updV, upd, hz, hq]

end
end
section
section
variable {E : aG} {Γ : aC} {own : String} {cc : ByteArray} {nL : Nat} {ret : Option FieldType} {nm : String} {d mc ms : Nat} {M : aM} {nx ce sl pc pc' : Nat} {lv lv' : List (Nat × Value)} {st : List Value}
theorem va_S.new {A : Nat → Prop} {H0 H H1 : Heap} {locs : List Loc} (hS : va_S A H0 H locs) (z : H1.size = H.size + 1) (oq : ∀ q : Nat, q < H.size → H1[q]? = H[q]?) : va_S A H0 H1 locs :=
  ⟨Nat.le_trans hS.1 (by omega), fun x h1 h2 => (oq x (Nat.lt_of_lt_of_le h1 hS.1)).trans (hS.2.1 x h1 h2), hS.2.2⟩
theorem sv_newI (hΓ : CK E own cc nL ret nm d mc ms Γ) {n : Int32} (N : Nat) (hw : Cond.arrayClass .int ∈ TB) (hd : decode cc pc = .ok (.newarray .int, 2)) (hn0 : ¬ n < 0) (hN : n.toNatClampNeg = N) (hN2 : N ≤ 1000) (hce : ce + 1 ≤ mc) (hsl : sl + N ≤ ms) (hn : pc + 2 = pc') (k : SV E Γ nL (va_up M nx (some (.inl (0, N, .inl (fun _ => 0))))) (nx + 1) (ce + 1) (sl + N) pc' lv (.ref nx :: st)) : SV E Γ nL M nx ce sl pc lv (.int n :: st) := by
  obtain ⟨p, l, e, R, s, m, args, below, meth, c, Q⟩ := Γ
  obtain ⟨hx, hb, hml, hown, hts, hK, hr, hlk, hnm, hrm, hsz, hZ, hZC⟩ := hΓ
  subst hn
  intro H locs ls hR hS hl
  refine va_newaK hx hb (atype := .int) (hts _ hw) rfl hd rfl hn0 hN (by show N * 4 ≤ _; omega) (by omega) (by omega) hR.1 fun H1 cA e1 z1 o1 hAr hNm => ?_
  have hcA : cA = gA E 0 := Option.some.inj (hNm.symm.trans (hK.2 0 _ rfl).2)
  subst hcA
  exact k H1 locs ls (hR.push (x := .inl (0, N, .inl (fun _ => 0))) e1 (by rw [z1, hR.1]) (by rw [hR.1]; exact o1)) (hS.new (by rw [z1, hR.1]) (by rw [hR.1]; exact o1)) hl
theorem sv_newJ (hΓ : CK E own cc nL ret nm d mc ms Γ) {n : Int32} (N : Nat) (hw : Cond.arrayClass .long ∈ TB) (hd : decode cc pc = .ok (.newarray .long, 2)) (hn0 : ¬ n < 0) (hN : n.toNatClampNeg = N) (hN2 : N ≤ 1000) (hce : ce + 1 ≤ mc) (hsl : sl + N ≤ ms) (hn : pc + 2 = pc') (k : SV E Γ nL (va_up M nx (some (.inl (1, N, .inr (.inl (fun _ => 0)))))) (nx + 1) (ce + 1) (sl + N) pc' lv (.ref nx :: st)) : SV E Γ nL M nx ce sl pc lv (.int n :: st) := by
  obtain ⟨p, l, e, R, s, m, args, below, meth, c, Q⟩ := Γ
  obtain ⟨hx, hb, hml, hown, hts, hK, hr, hlk, hnm, hrm, hsz, hZ, hZC⟩ := hΓ
  subst hn
  intro H locs ls hR hS hl
  refine va_newaK hx hb (atype := .long) (hts _ hw) rfl hd rfl hn0 hN (by show N * 8 ≤ _; omega) (by omega) (by omega) hR.1 fun H1 cA e1 z1 o1 hAr hNm => ?_
  have hcA : cA = gA E 1 := Option.some.inj (hNm.symm.trans (hK.2 1 _ rfl).2)
  subst hcA
  exact k H1 locs ls (hR.push (x := .inl (1, N, .inr (.inl (fun _ => 0)))) e1 (by rw [z1, hR.1]) (by rw [hR.1]; exact o1)) (hS.new (by rw [z1, hR.1]) (by rw [hR.1]; exact o1)) hl
theorem sv_newZ (hΓ : CK E own cc nL ret nm d mc ms Γ) {n : Int32} (N : Nat) (hw : Cond.arrayClass .boolean ∈ TB) (hd : decode cc pc = .ok (.newarray .boolean, 2)) (hn0 : ¬ n < 0) (hN : n.toNatClampNeg = N) (hN2 : N ≤ 1000) (hce : ce + 1 ≤ mc) (hsl : sl + N ≤ ms) (hn : pc + 2 = pc') (k : SV E Γ nL (va_up M nx (some (.inl (2, N, .inl (fun _ => 0))))) (nx + 1) (ce + 1) (sl + N) pc' lv (.ref nx :: st)) : SV E Γ nL M nx ce sl pc lv (.int n :: st) := by
  obtain ⟨p, l, e, R, s, m, args, below, meth, c, Q⟩ := Γ
  obtain ⟨hx, hb, hml, hown, hts, hK, hr, hlk, hnm, hrm, hsz, hZ, hZC⟩ := hΓ
  subst hn
  intro H locs ls hR hS hl
  refine va_newaK hx hb (atype := .boolean) (hts _ hw) rfl hd rfl hn0 hN (by show N * 1 ≤ _; omega) (by omega) (by omega) hR.1 fun H1 cA e1 z1 o1 hAr hNm => ?_
  have hcA : cA = gA E 2 := Option.some.inj (hNm.symm.trans (hK.2 2 _ rfl).2)
  subst hcA
  exact k H1 locs ls (hR.push (x := .inl (2, N, .inl (fun _ => 0))) e1 (by rw [z1, hR.1]) (by rw [hR.1]; exact o1)) (hS.new (by rw [z1, hR.1]) (by rw [hR.1]; exact o1)) hl
theorem sv_newA (hΓ : CK E own cc nL ret nm d mc ms Γ) {n : Int32} {index t : Nat} {C : String} (N : Nat) (ht : (gTys E)[t]? = some (gA E t, .object C)) (hw : Cond.classLink own index C ∈ TB) (hov : ∀ U H, gZ E U H → va_AO C U) (hd : decode cc pc = .ok (.anewarray index, 3)) (hn0 : ¬ n < 0) (hN : n.toNatClampNeg = N) (hN2 : N ≤ 1000) (hce : ce + 1 ≤ mc) (hsl : sl + N ≤ ms) (hn : pc + 3 = pc') (k : SV E Γ nL (va_up M nx (some (.inl (t, N, .inr (.inr (.inr (.inr (fun _ => none)))))))) (nx + 1) (ce + 1) (sl + N) pc' lv (.ref nx :: st)) : SV E Γ nL M nx ce sl pc lv (.int n :: st) := by
  obtain ⟨p, l, e, R, s, m, args, below, meth, c, Q⟩ := Γ
  obtain ⟨hx, hb, hml, hown, hts, hK, hr, hlk, hnm, hrm, hsz, hZ, hZC⟩ := hΓ
  subst hn
  subst hN
  intro H locs ls hR hS hl
  refine W.anew hx hb hown (hts _ hw) (va_AO.use (hov _ _ hZ)) rfl hd rfl hn0 (by omega) (by omega) (by omega) fun cA kA comp f1 f2 f3 f4 => ?_
  generalize hH1 : H.push ({ cls := cA, slots := Array.replicate n.toNatClampNeg .null, vm := .none } : Cell) = H1
  have z1 : H1.size = H.size + 1 := by rw [← hH1, Array.size_push]
  have e1 : H1[H.size]? = some (arrV cA n.toNatClampNeg (fun _ => .null)) := by rw [← hH1, Array.getElem?_push_size, ← arrV_new]
  have o1 : ∀ q : Nat, q < H.size → H1[q]? = H[q]? := fun q hq => by rw [← hH1, Array.getElem?_push, if_neg (Nat.ne_of_lt hq)]
  obtain ⟨kA', comp', g1, g2, g3, g4⟩ := (hK.2 t _ ht).2
  have hcA : cA = gA E t := Option.some.inj (f1.symm.trans g4)
  subst hcA
  have kk := k H1 locs ls (hR.push (x := .inl (t, n.toNatClampNeg, .inr (.inr (.inr (.inr (fun _ => none)))))) (by rw [hR.1] at e1; exact e1) z1 o1) (hS.new z1 o1) hl
  rw [hR.1]
  exact kk
theorem sv_new (hΓ : CK E own cc nL ret nm d mc ms Γ) {C : String} {T : u_T} {N ci index : Nat} (hin : ∀ w ∈ u_ws C T N, w ∈ TB) (ty : Nat → FieldType) (hty : ∀ k, k < N → parseFieldDescriptor (T k).2.2.1 = some (ty k)) (hc : vwCl[ci]? = some (C, T, N)) (hcl : Cond.classLink own index C ∈ TB) (hinst : Cond.instantiable C N ∈ TB) (hini : Cond.initialized C ∈ TB) {fs : List Value} (hfs : ∀ E : aG, ∀ j, j < N → defaultValue (ty j) = vp_V (fs.map (tv E)) j) (hd : decode cc pc = .ok (.new index, 3)) (hce : ce + 1 ≤ mc) (hsl : sl + N ≤ ms) (hn : pc + 3 = pc') (k : SV E Γ nL (va_up M nx (some (.inr (ci, fs)))) (nx + 1) (ce + 1) (sl + N) pc' lv (.ref nx :: st)) : SV E Γ nL M nx ce sl pc lv st := by
  obtain ⟨p, l, e, R, s, m, args, below, meth, c, Q⟩ := Γ
  obtain ⟨hx, hb, hml, hown, hts, hK, hr, hlk, hnm, hrm, hsz, hZ, hZC⟩ := hΓ
  subst hn
  intro H locs ls hR hS hl
  have hKn := hK.1 ci _ hc
  refine W.newcK hx hb hown (hts _ hcl) (hts _ hinst) (hts _ hini) rfl hd (by omega) (by omega) hKn.2.1 hR.1 fun H1 kC hkC e1 z1 o1 => ?_
  exact k H1 locs ls (hR.push (x := .inr (ci, fs)) ⟨_, hc, (u_born ty hts hin hKn hkC e1 hty).to (hfs E)⟩ (by rw [z1, hR.1]) (by rw [hR.1]; exact o1)) (hS.new (by rw [z1, hR.1]) (by rw [hR.1]; exact o1)) hl
theorem sv_aast (hΓ : CK E own cc nL ret nm d mc ms Γ) {a v n t ci : Nat} {C : String} {r : vw_C} {fs : List Value} {f : Nat → Option Nat} {i : Int32} (ht : (gTys E)[t]? = some (gA E t, .object C)) (hc : vwCl[ci]? = some r) (hca : r.1 = C ∨ ∀ U H, gZ E U H → va_Nw (.castable r.1 C) U) (hd : decode cc pc = .ok (.aastore, 1)) (hM : M a = some (.inl (t, n, .inr (.inr (.inr (.inr f)))))) (hv : M v = some (.inr (ci, fs))) (hin : vp_in i n) (hn : pc + 1 = pc') (k : SV E Γ nL (va_up M a (some (.inl (t, n, .inr (.inr (.inr (.inr (va_up f i.toNatClampNeg (some v))))))))) nx ce sl pc' lv st) : SV E Γ nL M nx ce sl pc lv (.ref v :: .int i :: .ref a :: st) := by
  obtain ⟨p, l, e, R, s, m, args, below, meth, c, Q⟩ := Γ
  obtain ⟨hx, hb, hml, hown, hts, hK, hr, hlk, hnm, hrm, hsz, hZ, hZC⟩ := hΓ
  subst hn
  intro H locs ls hR hS hl
  obtain ⟨ha1, ha2, hat⟩ := hR.2.2 a _ hM
  obtain ⟨hv1, hv2, hatv⟩ := hR.2.2 v _ hv
  have hlt : i.toNatClampNeg < n := Nat.not_le.mp fun q => hin (Or.inr q)
  have h0 : ¬ i < 0 := fun q => hin (Or.inl q)
  obtain ⟨r', hr', cellV, g1, g2, g3, -⟩ := hatv
  have hcls := (hK.1 ci r hc).2
  obtain ⟨kA, comp, k1, k2, k3, -⟩ := (hK.2 t _ ht).2
  obtain ⟨kE, hkE, -⟩ := Vm.findClass_spec k3
  obtain ⟨kC, hkC, hkind⟩ := hcls.2
  have hasg : s.vm.assignable ((gD E).1 ci) comp = true := by
    rcases hca with h | h
    · rw [← h] at k3
      have hcomp : comp = (gD E).1 ci := Option.some.inj (k3.symm.trans hcls.1)
      rw [hcomp]
      exact va_assign hcls
    · obtain ⟨c0, t1, f1, f2, f3⟩ := Cond.castable_spec (va_Nw.use (A := args) rfl (h _ _ hZ))
      cases hcls.1.symm.trans f1
      cases k3.symm.trans f2
      exact f3
  refine W.aast hx hb hat (fun q h => by cases h) (fun h => by cases h) k1 k2 rfl hkE ⟨h0, by show _ < (arrV _ _ _).slots.size; rw [arrV_size]; exact hlt⟩ g1 (fun q h => by rw [g3] at h; cases h) (by rw [g2]; exact hkC) (by rw [g2]; exact hasg) rfl rfl hd fun H1 e z oq => ?_
  refine k H1 _ ls (hR.set hM ?_ z oq) (hS.put z oq (ta_ge ha1)) hl
  show H1[ta E a]? = some (vp_cell (gA E t) (n, .inr (.inr (.inr (.inr (fun j => ((va_up f i.toNatClampNeg (some v)) j).map (ta E)))))))
  rw [e]
  show some ((vp_cell (gA E t) (n, .inr (.inr (.inr (.inr (fun j => (f j).map (ta E))))))).setSlot _ _) = _
  rw [vp_cell_q, vp_cell_q, arrV_store]
  congr 2
  funext q
  by_cases hq : q = i.toNatClampNeg
  · subst hq
    simp [updV, va_up, va_rf]
  · simp [updV, va_up, hq]
theorem sv_aastN (hΓ : CK E own cc nL ret nm d mc ms Γ) {a n t : Nat} {C : String} {f : Nat → Option Nat} {i : Int32} (ht : (gTys E)[t]? = some (gA E t, .object C)) (hd : decode cc pc = .ok (.aastore, 1)) (hM : M a = some (.inl (t, n, .inr (.inr (.inr (.inr f)))))) (hin : vp_in i n) (hn : pc + 1 = pc') (k : SV E Γ nL (va_up M a (some (.inl (t, n, .inr (.inr (.inr (.inr (va_up f i.toNatClampNeg none)))))))) nx ce sl pc' lv st) : SV E Γ nL M nx ce sl pc lv (.null :: .int i :: .ref a :: st) := by
  obtain ⟨p, l, e, R, s, m, args, below, meth, c, Q⟩ := Γ
  obtain ⟨hx, hb, hml, hown, hts, hK, hr, hlk, hnm, hrm, hsz, hZ, hZC⟩ := hΓ
  subst hn
  intro H locs ls hR hS hl
  obtain ⟨ha1, ha2, hat⟩ := hR.2.2 a _ hM
  refine va_WaastN (C := C) hx hb hat ((hK.2 t _ ht).1 n _) (fun h => by cases h) (by show ¬ (i < 0 ∨ (arrV _ _ _).slots.size ≤ _); rw [arrV_size]; exact hin) rfl rfl hd fun H1 e z oq => ?_
  refine k H1 _ ls (hR.set hM ?_ z oq) (hS.put z oq (ta_ge ha1)) hl
  show H1[ta E a]? = some (vp_cell (gA E t) (n, .inr (.inr (.inr (.inr (fun j => ((va_up f i.toNatClampNeg none) j).map (ta E)))))))
  rw [e]
  show some ((vp_cell (gA E t) (n, .inr (.inr (.inr (.inr (fun j => (f j).map (ta E))))))).setSlot _ _) = _
  rw [vp_cell_q, vp_cell_q, arrV_store]
  congr 2
  funext q
  by_cases hq : q = i.toNatClampNeg
  · subst hq
    simp [updV, va_up, va_rf]
  · simp [updV, va_up, hq]
end
/-! A contract: from M the method ends, answers r and leaves M', by Post; at most mc cells of ms slots are new -/
def PB (E : aG) (M : aM) (nx : Nat) (U : State) : Prop := RP E M nx U.heap ∧ va_K (gD E) vwCl (gTys E) U ∧ gZ E U U.heap ∧ ZC E
def QC (E : aG) (Post : Option Value → aM → Nat → Prop) : Array Value → State → Outcome → State → Prop := fun _ st oc t => (∃ (r : Option Value) (M' : aM) (nx' : Nat), oc = .returned (r.map (tv E)) ∧ Post r M' nx' ∧ RP E M' nx' t.heap) ∧ va_F (fun q => gb E ≤ q) st t
def CT (E : aG) (l : Launch) (y : MethodName) (cc : ByteArray) (mL : Nat) (ret : Option FieldType) (d : Nat) (av : List Value) (M : aM) (nx mc ms : Nat) (Post : Option Value → aM → Nat → Prop) : Prop :=
  Met l y (wT y cc mL ret) { frames := d, cells := mc, slots := ms, locals := 40 * d } (va_Pc (av.map (tv E)) (PB E M nx)) (QC E Post) mc ms (fun q => gb E ≤ q)
def RQ (E : aG) (Post : Option Value → aM → Nat → Prop) (mc ms : Nat) (Γ : aC) : Prop :=
  match Γ with
  | (p, l, e, R, s, m, args, below, meth, c, Q) => Q = MQ below (QC E Post) args s mc ms (fun q => gb E ≤ q)
theorem PB.blind {E : aG} {M : aM} {nx : Nat} {av : List Value} : FrameBlind (va_Pc (av.map (tv E)) (PB E M nx)) := by
  intro a U g mk q
  obtain ⟨q0, qR, qK, qZ, qC⟩ := q
  exact ⟨q0, qR, va_K.moved (u := U) (U := U.calling g mk a) (Vm.Alike.refl U.vm) qK, qC U (U.calling g mk a) U.heap U.heap qZ (Or.inl rfl) (Nat.le_refl _) (fun _ _ _ => rfl), qC⟩
theorem lg_sl_tv (E : aG) (av : List Value) : (lg_sl (av.map (tv E))).length = (lg_sl av).length := by
  induction av with
  | nil => rfl
  | cons v vs ih =>
    cases v <;> simp only [List.map, tv, lg_sl, List.flatMap_cons, List.length_append] at ih ⊢ <;> first | omega | (simp_all; done) | (simp_all [lg_sl]; done) | (simp_all [lg_sl]; rfl)
theorem CT_intro {E : aG} {l : Launch} {y : MethodName} {cc : ByteArray} {mL : Nat} {ret : Option FieldType} {d : Nat} {av : List Value} {M : aM} {nx mc ms : Nat} {Post : Option Value → aM → Nat → Prop} (hy : plainName y.cls = true) (hsz : (lg_sl av).length ≤ mL)
    (body : ∀ Γ : aC, CK E y.cls cc mL ret y.name d mc ms Γ → RQ E Post mc ms Γ → SV E Γ mL M nx 0 0 0 (lv_args 0 av) []) : CT E l y cc mL ret d av M nx mc ms Post := by
  refine Met.ofW (cc := cc) (maxL := mL) (ret := ret) hy rfl ?_
  intro p e s m args below meth c s₁ B hml hv
  obtain ⟨rfl, hR, hK, hZ, hZC⟩ := hv
  have hts0 := atoms_spec (ws := wT y cc mL ret) B.pre
  have hts : ∀ w ∈ TB, w.before (av.map (tv E)).toArray s = true := fun w h => hts0 w (List.mem_cons_of_mem _ h)
  have hown : s.vm.findClass y.cls = some m.cls := findClass_of_methodNamed B.named
  have hgb : gb E ≤ s.heap.size := by rw [hR.1]; exact ta_ge hR.2.1
  have K := body (p, l, e, { frames := d, cells := mc, slots := ms, locals := 40 * d }, s, m, (av.map (tv E)).toArray, below, meth, c, MQ below (QC E Post) (av.map (tv E)).toArray s mc ms (fun q => gb E ≤ q))
    ⟨B.exec, B.bytes, hml, hown, hts, hK, B.returns, B.notSynchronized, (name_of_methodNamed B.named B.method).1, ⟨Nat.le_refl _, Nat.le_refl _, Nat.le_refl _, Nat.le_refl _⟩, hgb, hZ, hZC⟩ rfl
  have hl := lv_entry (av.map (tv E)) (n := mL) (by rw [lg_sl_tv]; exact hsz)
  rw [lvm_args] at hl
  rw [lg_entry_eq]
  exact K s.heap [] _ hR va_S.rf hl
section
variable {E : aG} {Γ : aC} {own : String} {cc : ByteArray} {nL : Nat} {ret : Option FieldType} {nm : String} {d mc ms : Nat} {M : aM} {nx ce sl pc pc' : Nat} {lv lv' : List (Nat × Value)} {st : List Value} {Post : Option Value → aM → Nat → Prop}
theorem sv_iret (hΓ : CK E own cc nL (some .int) nm d mc ms Γ) (hQ : RQ E Post mc ms Γ) {v : Int32} (hd : decode cc pc = .ok (.ireturn, 1)) (hce : ce ≤ mc) (hsl : sl ≤ ms) (hp : Post (some (.int v)) M nx) : SV E Γ nL M nx ce sl pc lv [.int v] := by
  obtain ⟨p, l, e, R, s, m, args, below, meth, c, Q⟩ := Γ
  obtain ⟨hx, hb, hml, hown, hts, hK, hr, hlk, hnm, hrm, hsz, hZ, hZC⟩ := hΓ
  cases hQ
  intro H locs ls hR hS hl
  exact W.widen hce hsl (W.iret (Qc := QC E Post) hx hb hr (fun t ht hW => ⟨⟨some (.int v), M, nx, rfl, hp, by rw [ht]; exact hR⟩, hS.F ht⟩) hS.2.2 hd hlk)
theorem sv_zret (hΓ : CK E own cc nL (some .boolean) nm d mc ms Γ) (hQ : RQ E Post mc ms Γ) {v : Int32} (hd : decode cc pc = .ok (.ireturn, 1)) (hce : ce ≤ mc) (hsl : sl ≤ ms) (hz : narrow .boolean (.int v) = .int v) (hp : Post (some (.int v)) M nx) : SV E Γ nL M nx ce sl pc lv [.int v] := by
  obtain ⟨p, l, e, R, s, m, args, below, meth, c, Q⟩ := Γ
  obtain ⟨hx, hb, hml, hown, hts, hK, hr, hlk, hnm, hrm, hsz, hZ, hZC⟩ := hΓ
  cases hQ
  intro H locs ls hR hS hl
  exact W.widen hce hsl (W.zret (Qc := QC E Post) hx hb hr hz (fun t ht hW => ⟨⟨some (.int v), M, nx, rfl, hp, by rw [ht]; exact hR⟩, hS.F ht⟩) hS.2.2 hd hlk)
theorem sv_lret (hΓ : CK E own cc nL (some .long) nm d mc ms Γ) (hQ : RQ E Post mc ms Γ) {v : Int64} (hd : decode cc pc = .ok (.lreturn, 1)) (hce : ce ≤ mc) (hsl : sl ≤ ms) (hp : Post (some (.long v)) M nx) : SV E Γ nL M nx ce sl pc lv [.long v] := by
  obtain ⟨p, l, e, R, s, m, args, below, meth, c, Q⟩ := Γ
  obtain ⟨hx, hb, hml, hown, hts, hK, hr, hlk, hnm, hrm, hsz, hZ, hZC⟩ := hΓ
  cases hQ
  intro H locs ls hR hS hl
  exact W.widen hce hsl (W.lret (Qc := QC E Post) hx hb hr (fun t ht hW => ⟨⟨some (.long v), M, nx, rfl, hp, by rw [ht]; exact hR⟩, hS.F ht⟩) hS.2.2 hd hlk)
theorem sv_aret {rt : String} (hΓ : CK E own cc nL (some (.object rt)) nm d mc ms Γ) (hQ : RQ E Post mc ms Γ) {v : Nat} (hd : decode cc pc = .ok (.areturn, 1)) (hce : ce ≤ mc) (hsl : sl ≤ ms) (hp : Post (some (.ref v)) M nx) : SV E Γ nL M nx ce sl pc lv [.ref v] := by
  obtain ⟨p, l, e, R, s, m, args, below, meth, c, Q⟩ := Γ
  obtain ⟨hx, hb, hml, hown, hts, hK, hr, hlk, hnm, hrm, hsz, hZ, hZC⟩ := hΓ
  cases hQ
  intro H locs ls hR hS hl
  exact W.widen hce hsl (W.aret (Qc := QC E Post) hx hb hr (Or.inl ⟨_, rfl⟩) (Or.inr ⟨_, rfl⟩) (fun t ht hW => ⟨⟨some (.ref v), M, nx, rfl, hp, by rw [ht]; exact hR⟩, hS.F ht⟩) hS.2.2 hd hlk)
theorem sv_vret (hΓ : CK E own cc nL none nm d mc ms Γ) (hQ : RQ E Post mc ms Γ) (hd : decode cc pc = .ok (.return_, 1)) (hce : ce ≤ mc) (hsl : sl ≤ ms) (hp : Post none M nx) : SV E Γ nL M nx ce sl pc lv [] := by
  obtain ⟨p, l, e, R, s, m, args, below, meth, c, Q⟩ := Γ
  obtain ⟨hx, hb, hml, hown, hts, hK, hr, hlk, hnm, hrm, hsz, hZ, hZC⟩ := hΓ
  cases hQ
  intro H locs ls hR hS hl
  exact W.widen hce hsl (W.vret (Qc := QC E Post) hx hb hr (fun t ht hW => ⟨⟨none, M, nx, rfl, hp, by rw [ht]; exact hR⟩, hS.F ht⟩) hS.2.2 hd hlk)
/-- the words of a call of an instance's method, of a class's, of a constructor -/
def wV (own : String) (index : Nat) (y : MethodName) (cc : ByteArray) (mL : Nat) (ret : Option FieldType) (n : Nat) : Prop :=
  (Cond.methodLink own index y ∈ TB ∧ Cond.initialized y.cls ∈ TB ∧ Cond.code y cc mL ret ∈ TB) ∧ (y.cls ≠ "java/lang/invoke/MethodHandle" ∧ y.cls ≠ "java/lang/invoke/VarHandle" ∧ (parseMethodDescriptor y.desc).map (fun d => d.parameters.length) = some n) ∧ mL ≤ 21
theorem tv_rl (E : aG) (r : Option Value) (st : List Value) : (r.toList ++ st).map (tv E) = (r.map (tv E)).toList ++ st.map (tv E) := by cases r <;> rfl
theorem sv_callV (hΓ : CK E own cc nL ret nm d mc ms Γ) {y : MethodName} {T : u_T} {cc' : ByteArray} {ret' : Option FieldType} {mL' d' mc' ms' index n N ci a : Nat} {As fs stk : List Value}
    (hC : ∀ l, CT E l y cc' mL' ret' d' (.ref a :: As) M nx mc' ms' Post) (hw : wV own index y cc' mL' ret' n) (hsel : Cond.instanceMethod y ∈ TB ∧ Cond.selects y.cls y y ∈ TB) (hc : vwCl[ci]? = some (y.cls, T, N)) (hM : M a = some (.inr (ci, fs))) (hst : stk = As.reverse ++ .ref a :: st) (hA : As.length = n) (hdd : d' + 1 ≤ d) (hce : ce + mc' ≤ mc) (hsl : sl + ms' ≤ ms) (hcat : (st.map fun v => v.category).sum ≤ 8) (hd : decode cc pc = .ok (.invokevirtual index, 3)) (hn : pc + 3 = pc')
    (k : ∀ (r : Option Value) (M' : aM) (nx' : Nat), Post r M' nx' → SV E Γ nL M' nx' (ce + mc') (sl + ms') pc' lv (r.toList ++ st)) : SV E Γ nL M nx ce sl pc lv stk := by
  obtain ⟨p, l, e, R, s, m, args, below, meth, c, Q⟩ := Γ
  obtain ⟨hx, hb, hml, hown, hts, hK, hr, hlk, hnm, hrm, hsz, hZ, hZC⟩ := hΓ
  subst hn
  intro H locs ls hR hS hl
  obtain ⟨⟨w1, w2, w3⟩, w4, w5⟩ := hw
  have cb : CallB R s args own index y cc' mL' ret' (wT y cc' mL' ret') { frames := d', cells := mc', slots := ms', locals := 40 * d' } mc' ms' n :=
    callB_of (Ts := TB) n hts (fun w h => by
      rcases List.mem_cons.mp h with e | h
      · subst e; exact ⟨w3, good_of_word (TB_good w3)⟩
      · exact ⟨h, good_of_word (TB_good h)⟩) rfl rfl rfl (hts _ w2) (hts _ w1) w4 ⟨by show d' + 1 ≤ R.frames; omega, by show 8 + (mL' + 11) + 40 * d' ≤ R.locals; omega⟩
  have hrun := va_runV (l := l) (e := e) (below := below) (meth := meth) (H := H) (locs := locs) (cells := ce) (slots := sl) (g := F0 m pc ls (stk.map (tv E))) (As := As.map (tv E)) (rest := st.map (tv E)) (b := ta E a) (C := y.cls) ⟨hx, hb, hml, hown, hts⟩ (hC l) ⟨cb, hts _ hsel.1, hts _ hsel.2⟩
    ⟨PB.blind, va_recv hK (va_P1 (hR.2.2 a _ hM).2.2) hc (q0 := 0) rfl, fun U hU hW => ⟨rfl, by rw [hU]; exact hR, va_K.moved hW.alike hK, hZC s U s.heap U.heap hZ (Or.inr hW) (by rw [hU]; exact hS.1) (fun q h1 h2 => by rw [hU]; exact hS.2.1 q h1 h2), hZC⟩⟩ rfl (by rw [List.length_map]; exact hA) hl.1 (by rw [hst, List.map_append, List.map_reverse]; rfl) (lv_room (by rw [tv_cats]; exact hcat)) hd ⟨by omega, by omega⟩
  intro T' hT X
  obtain ⟨v, st₀, t, T2, L, h0, X', hL, e1, e2, ⟨⟨r, M', nx', hv, hp, hRP⟩, hz, hk⟩, stp⟩ := hrun T' hT X
  cases hv
  rw [h0] at hz hk
  obtain ⟨t2, a1, b1⟩ := k r M' nx' hp T2.heap (locs ++ L) ls (by rw [e1]; exact hRP)
    ⟨Nat.le_trans hS.1 (by rw [e1]; exact hz), fun q h1 h2 => by rw [e1, hk q (Nat.lt_of_lt_of_le h1 hS.1) h2]; exact hS.2.1 q h1 h2, fun q hq => by
      rcases List.mem_append.mp hq with h | h
      · exact hS.2.2 q h
      · exact hL q h⟩ hl T2 rfl X'
  rw [tv_rl] at a1
  exact ⟨t2, stp t2 a1, b1⟩
theorem sv_callS (hΓ : CK E own cc nL ret nm d mc ms Γ) {y : MethodName} {cc' : ByteArray} {ret' : Option FieldType} {mL' d' mc' ms' index n : Nat} {As stk : List Value}
    (hC : ∀ l, CT E l y cc' mL' ret' d' As M nx mc' ms' Post) (hw : wV own index y cc' mL' ret' n) (hsel : Cond.static y ∈ TB) (hst : stk = As.reverse ++ st) (hA : As.length = n) (hdd : d' + 1 ≤ d) (hce : ce + mc' ≤ mc) (hsl : sl + ms' ≤ ms) (hcat : (st.map fun v => v.category).sum ≤ 8) (hd : decode cc pc = .ok (.invokestatic index, 3)) (hn : pc + 3 = pc')
    (k : ∀ (r : Option Value) (M' : aM) (nx' : Nat), Post r M' nx' → SV E Γ nL M' nx' (ce + mc') (sl + ms') pc' lv (r.toList ++ st)) : SV E Γ nL M nx ce sl pc lv stk := by
  obtain ⟨p, l, e, R, s, m, args, below, meth, c, Q⟩ := Γ
  obtain ⟨hx, hb, hml, hown, hts, hK, hr, hlk, hnm, hrm, hsz, hZ, hZC⟩ := hΓ
  subst hn
  intro H locs ls hR hS hl
  obtain ⟨⟨w1, w2, w3⟩, w4, w5⟩ := hw
  have cb : CallB R s args own index y cc' mL' ret' (wT y cc' mL' ret') { frames := d', cells := mc', slots := ms', locals := 40 * d' } mc' ms' n :=
    callB_of (Ts := TB) n hts (fun w h => by
      rcases List.mem_cons.mp h with e | h
      · subst e; exact ⟨w3, good_of_word (TB_good w3)⟩
      · exact ⟨h, good_of_word (TB_good h)⟩) rfl rfl rfl (hts _ w2) (hts _ w1) w4 ⟨by show d' + 1 ≤ R.frames; omega, by show 8 + (mL' + 11) + 40 * d' ≤ R.locals; omega⟩
  have hrun := va_runS (l := l) (e := e) (below := below) (meth := meth) (H := H) (locs := locs) (cells := ce) (slots := sl) (g := F0 m pc ls (stk.map (tv E))) (As := As.map (tv E)) (rest := st.map (tv E)) ⟨hx, hb, hml, hown, hts⟩ (hC l) ⟨cb, hts _ hsel⟩
    ⟨PB.blind, fun U hU hW => ⟨rfl, by rw [hU]; exact hR, va_K.moved hW.alike hK, hZC s U s.heap U.heap hZ (Or.inr hW) (by rw [hU]; exact hS.1) (fun q h1 h2 => by rw [hU]; exact hS.2.1 q h1 h2), hZC⟩⟩ rfl (by rw [List.length_map]; exact hA) hl.1 (by rw [hst, List.map_append, List.map_reverse]) (lv_room (by rw [tv_cats]; exact hcat)) hd ⟨by omega, by omega⟩
  intro T' hT X
  obtain ⟨v, st₀, t, T2, L, h0, X', hL, e1, e2, ⟨⟨r, M', nx', hv, hp, hRP⟩, hz, hk⟩, stp⟩ := hrun T' hT X
  cases hv
  rw [h0] at hz hk
  obtain ⟨t2, a1, b1⟩ := k r M' nx' hp T2.heap (locs ++ L) ls (by rw [e1]; exact hRP)
    ⟨Nat.le_trans hS.1 (by rw [e1]; exact hz), fun q h1 h2 => by rw [e1, hk q (Nat.lt_of_lt_of_le h1 hS.1) h2]; exact hS.2.1 q h1 h2, fun q hq => by
      rcases List.mem_append.mp hq with h | h
      · exact hS.2.2 q h
      · exact hL q h⟩ hl T2 rfl X'
  rw [tv_rl] at a1
  exact ⟨t2, stp t2 a1, b1⟩
end
end
section
section
variable {E : aG} {Γ : aC} {own : String} {cc : ByteArray} {nL : Nat} {ret : Option FieldType} {nm : String} {d mc ms : Nat} {M : aM} {nx ce sl pc pc' : Nat} {lv lv' : List (Nat × Value)} {st : List Value} {Post : Option Value → aM → Nat → Prop}
theorem sv_callI (hΓ : CK E own cc nL ret nm d mc ms Γ) {y : MethodName} {cc' : ByteArray} {mL' d' mc' ms' index n a : Nat} {As stk : List Value}
    (hC : ∀ l, CT E l y cc' mL' none d' (.ref a :: As) M nx mc' ms' Post) (hw : wV own index y cc' mL' none n) (hsel : Cond.instanceMethod y ∈ TB) (hy : y.name = "<init>") (hst : stk = As.reverse ++ .ref a :: st) (hA : As.length = n) (hdd : d' + 1 ≤ d) (hce : ce + mc' ≤ mc) (hsl : sl + ms' ≤ ms) (hcat : (st.map fun v => v.category).sum ≤ 8) (hd : decode cc pc = .ok (.invokespecial index, 3)) (hn : pc + 3 = pc')
    (k : ∀ (r : Option Value) (M' : aM) (nx' : Nat), Post r M' nx' → SV E Γ nL M' nx' (ce + mc') (sl + ms') pc' lv (r.toList ++ st)) : SV E Γ nL M nx ce sl pc lv stk := by
  obtain ⟨p, l, e, R, s, m, args, below, meth, c, Q⟩ := Γ
  obtain ⟨hx, hb, hml, hown, hts, hK, hr, hlk, hnm, hrm, hsz, hZ, hZC⟩ := hΓ
  subst hn
  intro H locs ls hR hS hl
  obtain ⟨⟨w1, w2, w3⟩, w4, w5⟩ := hw
  have cb : CallB R s args own index y cc' mL' none (wT y cc' mL' none) { frames := d', cells := mc', slots := ms', locals := 40 * d' } mc' ms' n :=
    callB_of (Ts := TB) n hts (fun w h => by
      rcases List.mem_cons.mp h with e | h
      · subst e; exact ⟨w3, good_of_word (TB_good w3)⟩
      · exact ⟨h, good_of_word (TB_good h)⟩) rfl rfl rfl (hts _ w2) (hts _ w1) w4 ⟨by show d' + 1 ≤ R.frames; omega, by show 8 + (mL' + 11) + 40 * d' ≤ R.locals; omega⟩
  have hrun := va_runI (l := l) (e := e) (below := below) (meth := meth) (H := H) (locs := locs) (cells := ce) (slots := sl) (g := F0 m pc ls (stk.map (tv E))) (As := As.map (tv E)) (rest := st.map (tv E)) (b := ta E a) ⟨hx, hb, hml, hown, hts⟩ (hC l) ⟨cb, hy, hts _ hsel⟩
    ⟨PB.blind, fun U hU hW => ⟨rfl, by rw [hU]; exact hR, va_K.moved hW.alike hK, hZC s U s.heap U.heap hZ (Or.inr hW) (by rw [hU]; exact hS.1) (fun q h1 h2 => by rw [hU]; exact hS.2.1 q h1 h2), hZC⟩⟩ rfl (by rw [List.length_map]; exact hA) hl.1 (by rw [hst, List.map_append, List.map_reverse]; rfl) (lv_room (by rw [tv_cats]; exact hcat)) hd ⟨by omega, by omega⟩
  intro T' hT X
  obtain ⟨v, st₀, t, T2, L, h0, X', hL, e1, e2, ⟨⟨r, M', nx', hv, hp, hRP⟩, hz, hk⟩, stp⟩ := hrun T' hT X
  cases hv
  rw [h0] at hz hk
  obtain ⟨t2, a1, b1⟩ := k r M' nx' hp T2.heap (locs ++ L) ls (by rw [e1]; exact hRP)
    ⟨Nat.le_trans hS.1 (by rw [e1]; exact hz), fun q h1 h2 => by rw [e1, hk q (Nat.lt_of_lt_of_le h1 hS.1) h2]; exact hS.2.1 q h1 h2, fun q hq => by
      rcases List.mem_append.mp hq with h | h
      · exact hS.2.2 q h
      · exact hL q h⟩ hl T2 rfl X'
  rw [tv_rl] at a1
  exact ⟨t2, stp t2 a1, b1⟩
/-- the words of a call of a nest mate's private constructor or static method -/
def wN (E : aG) (own : String) (index : Nat) (y : MethodName) (host : String) (cc : ByteArray) (mL : Nat) (ret : Option FieldType) (n : Nat) : Prop :=
  (Cond.initialized y.cls ∈ TB ∧ Cond.code y cc mL ret ∈ TB) ∧ (y.cls ≠ "java/lang/invoke/MethodHandle" ∧ y.cls ≠ "java/lang/invoke/VarHandle" ∧ (parseMethodDescriptor y.desc).map (fun d => d.parameters.length) = some n) ∧ mL ≤ 21 ∧ ∀ U H, gZ E U H → va_Nw (.methodLinkNest own index y host) U
theorem sv_callIN (hΓ : CK E own cc nL ret nm d mc ms Γ) {y : MethodName} {host : String} {cc' : ByteArray} {mL' d' mc' ms' index n a : Nat} {As stk : List Value}
    (hC : ∀ l, CT E l y cc' mL' none d' (.ref a :: As) M nx mc' ms' Post) (hw : wN E own index y host cc' mL' none n) (hsel : Cond.instanceMethod y ∈ TB) (hy : y.name = "<init>") (hst : stk = As.reverse ++ .ref a :: st) (hA : As.length = n) (hdd : d' + 1 ≤ d) (hce : ce + mc' ≤ mc) (hsl : sl + ms' ≤ ms) (hcat : (st.map fun v => v.category).sum ≤ 8) (hd : decode cc pc = .ok (.invokespecial index, 3)) (hn : pc + 3 = pc')
    (k : ∀ (r : Option Value) (M' : aM) (nx' : Nat), Post r M' nx' → SV E Γ nL M' nx' (ce + mc') (sl + ms') pc' lv (r.toList ++ st)) : SV E Γ nL M nx ce sl pc lv stk := by
  obtain ⟨p, l, e, R, s, m, args, below, meth, c, Q⟩ := Γ
  obtain ⟨hx, hb, hml, hown, hts, hK, hr, hlk, hnm, hrm, hsz, hZ, hZC⟩ := hΓ
  subst hn
  intro H locs ls hR hS hl
  obtain ⟨⟨w2, w3⟩, w4, w5, w6⟩ := hw
  have cb : va_CN R s args own index y host cc' mL' none (wT y cc' mL' none) { frames := d', cells := mc', slots := ms', locals := 40 * d' } mc' ms' n :=
    va_cnB (Ts := TB) n hts (fun w h => by
      rcases List.mem_cons.mp h with e | h
      · subst e; exact ⟨w3, good_of_word (TB_good w3)⟩
      · exact ⟨h, good_of_word (TB_good h)⟩) rfl rfl rfl (w6 _ _ hZ) (hts _ w2) w4 ⟨by show d' + 1 ≤ R.frames; omega, by show 8 + (mL' + 11) + 40 * d' ≤ R.locals; omega⟩
  have hrun := va_runIN (l := l) (e := e) (below := below) (meth := meth) (H := H) (locs := locs) (cells := ce) (slots := sl) (g := F0 m pc ls (stk.map (tv E))) (As := As.map (tv E)) (rest := st.map (tv E)) (b := ta E a) ⟨hx, hb, hml, hown, hts⟩ (hC l) ⟨cb, hy, hts _ hsel⟩
    ⟨PB.blind, fun U hU hW => ⟨rfl, by rw [hU]; exact hR, va_K.moved hW.alike hK, hZC s U s.heap U.heap hZ (Or.inr hW) (by rw [hU]; exact hS.1) (fun q h1 h2 => by rw [hU]; exact hS.2.1 q h1 h2), hZC⟩⟩ rfl (by rw [List.length_map]; exact hA) hl.1 (by rw [hst, List.map_append, List.map_reverse]; rfl) (lv_room (by rw [tv_cats]; exact hcat)) hd ⟨by omega, by omega⟩
  intro T' hT X
  obtain ⟨v, st₀, t, T2, L, h0, X', hL, e1, e2, ⟨⟨r, M', nx', hv, hp, hRP⟩, hz, hk⟩, stp⟩ := hrun T' hT X
  cases hv
  rw [h0] at hz hk
  obtain ⟨t2, a1, b1⟩ := k r M' nx' hp T2.heap (locs ++ L) ls (by rw [e1]; exact hRP)
    ⟨Nat.le_trans hS.1 (by rw [e1]; exact hz), fun q h1 h2 => by rw [e1, hk q (Nat.lt_of_lt_of_le h1 hS.1) h2]; exact hS.2.1 q h1 h2, fun q hq => by
      rcases List.mem_append.mp hq with h | h
      · exact hS.2.2 q h
      · exact hL q h⟩ hl T2 rfl X'
  rw [tv_rl] at a1
  exact ⟨t2, stp t2 a1, b1⟩
theorem sv_callSN (hΓ : CK E own cc nL ret nm d mc ms Γ) {y : MethodName} {host : String} {cc' : ByteArray} {ret' : Option FieldType} {mL' d' mc' ms' index n : Nat} {As stk : List Value}
    (hC : ∀ l, CT E l y cc' mL' ret' d' As M nx mc' ms' Post) (hw : wN E own index y host cc' mL' ret' n) (hsel : Cond.static y ∈ TB) (hst : stk = As.reverse ++ st) (hA : As.length = n) (hdd : d' + 1 ≤ d) (hce : ce + mc' ≤ mc) (hsl : sl + ms' ≤ ms) (hcat : (st.map fun v => v.category).sum ≤ 8) (hd : decode cc pc = .ok (.invokestatic index, 3)) (hn : pc + 3 = pc')
    (k : ∀ (r : Option Value) (M' : aM) (nx' : Nat), Post r M' nx' → SV E Γ nL M' nx' (ce + mc') (sl + ms') pc' lv (r.toList ++ st)) : SV E Γ nL M nx ce sl pc lv stk := by
  obtain ⟨p, l, e, R, s, m, args, below, meth, c, Q⟩ := Γ
  obtain ⟨hx, hb, hml, hown, hts, hK, hr, hlk, hnm, hrm, hsz, hZ, hZC⟩ := hΓ
  subst hn
  intro H locs ls hR hS hl
  obtain ⟨⟨w2, w3⟩, w4, w5, w6⟩ := hw
  have cb : va_CN R s args own index y host cc' mL' ret' (wT y cc' mL' ret') { frames := d', cells := mc', slots := ms', locals := 40 * d' } mc' ms' n :=
    va_cnB (Ts := TB) n hts (fun w h => by
      rcases List.mem_cons.mp h with e | h
      · subst e; exact ⟨w3, good_of_word (TB_good w3)⟩
      · exact ⟨h, good_of_word (TB_good h)⟩) rfl rfl rfl (w6 _ _ hZ) (hts _ w2) w4 ⟨by show d' + 1 ≤ R.frames; omega, by show 8 + (mL' + 11) + 40 * d' ≤ R.locals; omega⟩
  have hrun := va_runSN (l := l) (e := e) (below := below) (meth := meth) (H := H) (locs := locs) (cells := ce) (slots := sl) (g := F0 m pc ls (stk.map (tv E))) (As := As.map (tv E)) (rest := st.map (tv E)) ⟨hx, hb, hml, hown, hts⟩ (hC l) ⟨cb, hts _ hsel, trivial⟩
    ⟨PB.blind, fun U hU hW => ⟨rfl, by rw [hU]; exact hR, va_K.moved hW.alike hK, hZC s U s.heap U.heap hZ (Or.inr hW) (by rw [hU]; exact hS.1) (fun q h1 h2 => by rw [hU]; exact hS.2.1 q h1 h2), hZC⟩⟩ rfl (by rw [List.length_map]; exact hA) hl.1 (by rw [hst, List.map_append, List.map_reverse]) (lv_room (by rw [tv_cats]; exact hcat)) hd ⟨by omega, by omega⟩
  intro T' hT X
  obtain ⟨v, st₀, t, T2, L, h0, X', hL, e1, e2, ⟨⟨r, M', nx', hv, hp, hRP⟩, hz, hk⟩, stp⟩ := hrun T' hT X
  cases hv
  rw [h0] at hz hk
  obtain ⟨t2, a1, b1⟩ := k r M' nx' hp T2.heap (locs ++ L) ls (by rw [e1]; exact hRP)
    ⟨Nat.le_trans hS.1 (by rw [e1]; exact hz), fun q h1 h2 => by rw [e1, hk q (Nat.lt_of_lt_of_le h1 hS.1) h2]; exact hS.2.1 q h1 h2, fun q hq => by
      rcases List.mem_append.mp hq with h | h
      · exact hS.2.2 q h
      · exact hL q h⟩ hl T2 rfl X'
  rw [tv_rl] at a1
  exact ⟨t2, stp t2 a1, b1⟩
theorem sv_objInit (hΓ : CK E own cc nL ret nm d mc ms Γ) {a index : Nat} (hw : Cond.methodLink own index Lib.objectInit ∈ TB ∧ Cond.instanceMethod Lib.objectInit ∈ TB ∧ Cond.code Lib.objectInit ⟨#[0xb1]⟩ 1 none ∈ TB) (hdd : 1 ≤ d) (hcat : (st.map fun v => v.category).sum ≤ 8) (hd : decode cc pc = .ok (.invokespecial index, 3)) (hn : pc + 3 = pc') (k : SV E Γ nL M nx ce sl pc' lv st) : SV E Γ nL M nx ce sl pc lv (.ref a :: st) := by
  obtain ⟨p, l, e, R, s, m, args, below, meth, c, Q⟩ := Γ
  obtain ⟨hx, hb, hml, hown, hts, hK, hr, hlk, hnm, hrm, hsz, hZ, hZC⟩ := hΓ
  subst hn
  intro H locs ls hR hS hl
  exact W.objInit hx hb hown (hts _ hw.1) (hts _ hw.2.1) (hts _ hw.2.2) rfl (by rw [hml]; exact hl.1) rfl hd (by omega) (by show 2 * 0 + _ + 12 ≤ _; rw [tv_cats]; omega) (k H locs ls hR hS hl)
theorem sv_instY (hΓ : CK E own cc nL ret nm d mc ms Γ) {C : String} {T : u_T} {N ci index a : Nat} {fs : List Value} (hc : vwCl[ci]? = some (C, T, N)) (hlink : Cond.classLink own index C ∈ TB) (hM : M a = some (.inr (ci, fs))) (hd : decode cc pc = .ok (.instanceof index, 3)) (hn : pc + 3 = pc') (k : SV E Γ nL M nx ce sl pc' lv (.int 1 :: st)) : SV E Γ nL M nx ce sl pc lv (.ref a :: st) := by
  obtain ⟨p, l, e, R, s, m, args, below, meth, c, Q⟩ := Γ
  obtain ⟨hx, hb, hml, hown, hts, hK, hr, hlk, hnm, hrm, hsz, hZ, hZC⟩ := hΓ
  subst hn
  intro H locs ls hR hS hl
  exact va_instS hx hb hown (hts _ hlink) (hK.1 ci _ hc).2 (va_recv hK (va_P1 (hR.2.2 a _ hM).2.2) hc (q0 := 0) rfl) hd (k H locs ls hR hS hl)
theorem sv_castY (hΓ : CK E own cc nL ret nm d mc ms Γ) {C : String} {T : u_T} {N ci index a : Nat} {fs : List Value} (hc : vwCl[ci]? = some (C, T, N)) (hlink : Cond.classLink own index C ∈ TB) (hM : M a = some (.inr (ci, fs))) (hd : decode cc pc = .ok (.checkcast index, 3)) (hn : pc + 3 = pc') (k : SV E Γ nL M nx ce sl pc' lv (.ref a :: st)) : SV E Γ nL M nx ce sl pc lv (.ref a :: st) := by
  obtain ⟨p, l, e, R, s, m, args, below, meth, c, Q⟩ := Γ
  obtain ⟨hx, hb, hml, hown, hts, hK, hr, hlk, hnm, hrm, hsz, hZ, hZC⟩ := hΓ
  subst hn
  intro H locs ls hR hS hl
  exact va_castS hx hb hown (hts _ hlink) (hK.1 ci _ hc).2 (va_recv hK (va_P1 (hR.2.2 a _ hM).2.2) hc (q0 := 0) rfl) hd (k H locs ls hR hS hl)
theorem sv_instNo (hΓ : CK E own cc nL ret nm d mc ms Γ) {C C' : String} {T : u_T} {N ci index a : Nat} {fs : List Value} (hc : vwCl[ci]? = some (C, T, N)) (hlink : Cond.classLink own index C' ∈ TB) (hno : ∀ U H, gZ E U H → va_Nc C C' U) (hM : M a = some (.inr (ci, fs))) (hd : decode cc pc = .ok (.instanceof index, 3)) (hn : pc + 3 = pc') (k : SV E Γ nL M nx ce sl pc' lv (.int 0 :: st)) : SV E Γ nL M nx ce sl pc lv (.ref a :: st) := by
  obtain ⟨p, l, e, R, s, m, args, below, meth, c, Q⟩ := Γ
  obtain ⟨hx, hb, hml, hown, hts, hK, hr, hlk, hnm, hrm, hsz, hZ, hZC⟩ := hΓ
  subst hn
  intro H locs ls hR hS hl
  exact va_instNo hx hb hown (hts _ hlink) (hno _ _ hZ) (va_recv hK (va_P1 (hR.2.2 a _ hM).2.2) hc (q0 := 0) rfl) hd (k H locs ls hR hS hl)
theorem sv_instN (hΓ : CK E own cc nL ret nm d mc ms Γ) {index : Nat} (hd : decode cc pc = .ok (.instanceof index, 3)) (hn : pc + 3 = pc') (k : SV E Γ nL M nx ce sl pc' lv (.int 0 :: st)) : SV E Γ nL M nx ce sl pc lv (.null :: st) := by
  obtain ⟨p, l, e, R, s, m, args, below, meth, c, Q⟩ := Γ
  obtain ⟨hx, hb, hml, hown, hts, hK, hr, hlk, hnm, hrm, hsz, hZ, hZC⟩ := hΓ
  subst hn
  intro H locs ls hR hS hl
  exact lv_instN hx hb hd (k H locs ls hR hS hl)
/-- checkcast of an array to its own class -/
theorem sv_castA (hΓ : CK E own cc nL ret nm d mc ms Γ) {index a n : Nat} {x : (Nat → Int32) ⊕ (Nat → Int64) ⊕ (Nat → UInt32) ⊕ (Nat → UInt64) ⊕ (Nat → Option Nat)} (hlink : Cond.classLink own index "[J" ∈ TB) (hM : M a = some (.inl (1, n, x))) (hd : decode cc pc = .ok (.checkcast index, 3)) (hn : pc + 3 = pc') (k : SV E Γ nL M nx ce sl pc' lv (.ref a :: st)) : SV E Γ nL M nx ce sl pc lv (.ref a :: st) := by
  obtain ⟨p, l, e, R, s, m, args, below, meth, c, Q⟩ := Γ
  obtain ⟨hx, hb, hml, hown, hts, hK, hr, hlk, hnm, hrm, hsz, hZ, hZC⟩ := hΓ
  subst hn
  intro H locs ls hR hS hl
  have hnmJ : s.vm.findClass "[J" = some (gA E 1) := (hK.2 1 _ rfl).2
  exact va_castA (D := gD E) (cl := vwCl) (ws := [(ta E a, te E (.inl (1, n, x)))]) hx hb hown (hts _ hlink) (va_P1 (hR.2.2 a _ hM).2.2) 0 rfl hnmJ hd (k H locs ls hR hS hl)
theorem sv_copyl (hΓ : CK E own cc nL ret nm d mc ms Γ) {index a a0 n0 n1 : Nat} {f g : Nat → Int64} {sp dp n : Int32} (hw : Cond.methodLink own index arraycopyName ∈ TB ∧ Cond.native arraycopyName ∈ TB ∧ Cond.static arraycopyName ∈ TB ∧ Cond.initialized "java/lang/System" ∈ TB) (hM0 : M a0 = some (.inl (1, n0, .inr (.inl f)))) (hM : M a = some (.inl (1, n1, .inr (.inl g)))) (h1 : ¬ sp < 0) (h2 : ¬ dp < 0) (h3 : ¬ n < 0) (h4 : sp.toNatClampNeg + n.toNatClampNeg ≤ n0) (h5 : dp.toNatClampNeg + n.toNatClampNeg ≤ n1) (hdd : 1 ≤ d) (hcat : (st.map fun v => v.category).sum ≤ 8) (hd : decode cc pc = .ok (.invokestatic index, 3)) (hn : pc + 3 = pc')
    (k : SV E Γ nL (va_up M a (some (.inl (1, n1, .inr (.inl (va_cpy f g sp.toNatClampNeg dp.toNatClampNeg n.toNatClampNeg)))))) nx ce sl pc' lv st) : SV E Γ nL M nx ce sl pc lv (.int n :: .int dp :: .ref a :: .int sp :: .ref a0 :: st) := by
  obtain ⟨p, l, e, R, s, m, args, below, meth, c, Q⟩ := Γ
  obtain ⟨hx, hb, hml, hown, hts, hK, hr, hlk, hnm, hrm, hsz, hZ, hZC⟩ := hΓ
  subst hn
  intro H locs ls hR hS hl
  have nn : ∀ z : Int32, ¬ z < 0 → z.toInt = (z.toNatClampNeg : Int) := by
    intro z hz
    have hz0 : (0 : Int) ≤ z.toInt := by
      have := Int32.not_lt.mp hz
      simpa using Int32.le_iff_toInt_le.mp this
    show z.toInt = ((z.toInt.toNat : Nat) : Int)
    omega
  intro T hT X
  obtain ⟨ha1, ha2, hc1⟩ := hR.2.2 a _ hM
  obtain ⟨-, -, hc0⟩ := hR.2.2 a0 _ hM0
  replace hc0 : H[ta E a0]? = some (vp_cell (gA E 1) (n0, .inr (.inl f))) := hc0
  replace hc1 : H[ta E a]? = some (vp_cell (gA E 1) (n1, .inr (.inl g))) := hc1
  obtain ⟨-, k0, hk0, cm0, hkk0⟩ := (hK.2 1 _ rfl).1 n0 (fun j => .long (f j))
  obtain ⟨-, k1, hk1, cm1, hkk1⟩ := (hK.2 1 _ rfl).1 n1 (fun j => .long (g j))
  obtain ⟨vm', X', step⟩ := X.arraycopy hx hown (hts _ hw.1) (hts _ hw.2.1) (hts _ hw.2.2.1) (hts _ hw.2.2.2) (src := ta E a0) (dst := ta E a) (cs := vp_cell (gA E 1) (n0, .inr (.inl f))) (cd := vp_cell (gA E 1) (n1, .inr (.inl g))) (srcPos := sp) (destPos := dp) (n := n) (by rw [hT]; exact hc0) (by rw [hT]; exact hc1)
    (fun _ h => by cases h) (fun _ h => by cases h) (fun h => by cases h) (fun h => by cases h) hk0 hk1 hkk0 hkk1 (by simp [refKind]) h1 h2 h3
    (by rw [nn sp h1, nn n h3]; show ¬ _ > ((arrV (gA E 1) n0 (fun j => .long (f j))).slots.size : Int); rw [arrV_size]; omega)
    (by rw [nn dp h2, nn n h3]; show ¬ _ > ((arrV (gA E 1) n1 (fun j => .long (g j))).slots.size : Int); rw [arrV_size]; omega)
    (fun vm₁ _ i hi => by
      have e : (vp_cell (gA E 1) (n0, .inr (.inl f))).slots.getD (sp.toNatClampNeg + i) .null = .long (f (sp.toNatClampNeg + i)) := by
        show (arrV (gA E 1) n0 (fun j => .long (f j))).slots.getD _ _ = _
        rw [Array.getD_eq_getD_getElem?, arrV_read _ _ (by omega)]
        rfl
      refine ⟨?_, ?_⟩
      · rw [e]
        rfl
      · rw [e]
        exact trivial)
    (g := F0 m pc ls (.int n :: .int dp :: .ref (ta E a) :: .int sp :: .ref (ta E a0) :: st.map (tv E))) rfl (by rw [hml]; exact hl.1) (rest := st.map (tv E)) rfl (by rw [hb]; exact hd) (by omega) (by
      show 2 * 0 + _ + (nativeFrameWords "java/lang/System" "arraycopy" 5 + 11) ≤ _
      rw [tv_cats]
      have : nativeFrameWords "java/lang/System" "arraycopy" 5 ≤ 21 := by decide
      omega)
  have e1 : copied (vp_cell (gA E 1) (n0, .inr (.inl f))) (vp_cell (gA E 1) (n1, .inr (.inl g))) sp dp n = vp_cell (gA E 1) (n1, .inr (.inl (va_cpy f g sp.toNatClampNeg dp.toNatClampNeg n.toNatClampNeg))) := va_copied (fun z => .long z) (gA E 1) (gA E 1) f g h4
  rw [e1] at X' step
  have hlt : ta E a < H.size := (Array.getElem?_eq_some_iff.mp hc1).1
  have hheap : ((T.setVm vm').setCell (ta E a) (vp_cell (gA E 1) (n1, .inr (.inl (va_cpy f g sp.toNatClampNeg dp.toNatClampNeg n.toNatClampNeg))))).heap = H.setIfInBounds (ta E a) (vp_cell (gA E 1) (n1, .inr (.inl (va_cpy f g sp.toNatClampNeg dp.toNatClampNeg n.toNatClampNeg)))) := by rw [← hT]; rfl
  have oq : ∀ q : Nat, q ≠ ta E a → (H.setIfInBounds (ta E a) (vp_cell (gA E 1) (n1, .inr (.inl (va_cpy f g sp.toNatClampNeg dp.toNatClampNeg n.toNatClampNeg)))))[q]? = H[q]? := fun q hq => by simp [Array.getElem?_setIfInBounds, Ne.symm hq]
  obtain ⟨t, a1, b1⟩ := k _ _ ls (hR.set hM (x := .inl (1, n1, .inr (.inl (va_cpy f g sp.toNatClampNeg dp.toNatClampNeg n.toNatClampNeg)))) (show (H.setIfInBounds (ta E a) _)[ta E a]? = some _ by simp [Array.getElem?_setIfInBounds, hlt]; rfl) (by simp) oq) ⟨by simp; exact hS.1, fun q g1 g2 => by
      rw [oq q (fun e => g2 (by rw [e]; exact ta_ge ha1))]
      exact hS.2.1 q g1 g2, fun q hq => by
      rcases List.mem_append.mp hq with h | h
      · exact hS.2.2 q h
      · obtain ⟨z, -, hz⟩ := List.mem_map.mp h
        rw [← hz]
        exact ta_ge ha1⟩ hl _ hheap X'
  exact ⟨t, step t a1, b1⟩
theorem sv_clone (hΓ : CK E own cc nL ret nm d mc ms Γ) {index a n : Nat} {f : Nat → Int64} (hw : Cond.methodLink own index ⟨"[J", "clone", "()Ljava/lang/Object;"⟩ ∈ TB ∧ Cond.native ⟨"java/lang/Object", "clone", "()Ljava/lang/Object;"⟩ ∈ TB ∧ Cond.instanceMethod ⟨"java/lang/Object", "clone", "()Ljava/lang/Object;"⟩ ∈ TB ∧ Cond.selects "[J" ⟨"[J", "clone", "()Ljava/lang/Object;"⟩ ⟨"java/lang/Object", "clone", "()Ljava/lang/Object;"⟩ ∈ TB)
    (hz : ∀ U H, gZ E U H → va_Nw (.sameMethod "[J" "java/lang/Object" "clone" "()Ljava/lang/Object;") U ∧ va_Nw (.castable "[J" "java/lang/Cloneable") U) (hM : M a = some (.inl (1, n, .inr (.inl f)))) (hdd : 1 ≤ d) (hce : ce + 1 ≤ mc) (hsl : sl + n ≤ ms) (hcat : (st.map fun v => v.category).sum ≤ 8) (hd : decode cc pc = .ok (.invokevirtual index, 3)) (hn : pc + 3 = pc')
    (k : SV E Γ nL (va_up M nx (some (.inl (1, n, .inr (.inl f))))) (nx + 1) (ce + 1) (sl + n) pc' lv (.ref nx :: st)) : SV E Γ nL M nx ce sl pc lv (.ref a :: st) := by
  obtain ⟨p, l, e, R, s, m, args, below, meth, c, Q⟩ := Γ
  obtain ⟨hx, hb, hml, hown, hts, hK, hr, hlk, hnm, hrm, hsz, hZ, hZC⟩ := hΓ
  subst hn
  intro H locs ls hR hS hl
  have hnmJ : s.vm.findClass "[J" = some (gA E 1) := (hK.2 1 _ rfl).2
  have hszc : (vp_cell (gA E 1) (n, .inr (.inl f))).slots.size = n := arrV_size _ _ _
  have hcellE : ({ cls := (vp_cell (gA E 1) (n, .inr (.inl f))).cls, slots := (vp_cell (gA E 1) (n, .inr (.inl f))).slots } : Cell) = vp_cell (gA E 1) (n, .inr (.inl f)) := rfl
  obtain ⟨hz1, hz2⟩ := hz _ _ hZ
  obtain ⟨c0, t0', f1, f2, f3⟩ := Cond.castable_spec (va_Nw.use (A := args) rfl hz2)
  cases hnmJ.symm.trans f1
  intro T hT X
  have hat : H[ta E a]? = some (vp_cell (gA E 1) (n, .inr (.inl f))) := (hR.2.2 a _ hM).2.2
  have hcellT : T.heap[ta E a]? = some (vp_cell (gA E 1) (n, .inr (.inl f))) := by rw [hT]; exact hat
  obtain ⟨-, kA, hkA, comp, hkind⟩ := State.isArrayOf_alike X.warmed.alike ((hK.2 1 _ rfl).1 0 (fun _ => .null))
  obtain ⟨-, kS, hkS, compS, hkindS⟩ := (hK.2 1 _ rfl).1 0 (fun _ => .null)
  obtain ⟨vm', X', st'⟩ := X.cloneArray hx hown (hts _ hw.1) (va_Nw.use rfl hz1) (hts _ hw.2.1) (hts _ hw.2.2.1) (hts _ hw.2.2.2) (a := ta E a) (cell := vp_cell (gA E 1) (n, .inr (.inl f))) hcellT (fun k h => by cases h) (fun h => by cases h) hnmJ f2 f3
    (fun i v hv => by
      have hk' : T.vm.classes[gA E 1]? = some kA := hkA
      have hfit : fits .long v = true := va_fit (F := fun j => .long (f j)) (cA := gA E 1) (n := n) (fun i _ => rfl) i v hv
      show T.fitsSlot (gA E 1) _ i v = true
      simpa [State.fitsSlot, State.slotType?, hk', hkind] using hfit)
    (g := F0 m pc ls (.ref (ta E a) :: st.map (tv E))) rfl (by rw [hml]; exact hl.1) rfl (by rw [hb]; exact hd) (by omega) (by show 2 * 0 + _ + 14 ≤ _; rw [tv_cats]; omega) (by omega) (by rw [hszc]; omega) (hloader := Vm.clonesLoader_of_array hkS hkindS)
  rw [hcellE, hszc] at X'
  generalize hH1 : H.push (vp_cell (gA E 1) (n, .inr (.inl f))) = H1
  have z1 : H1.size = H.size + 1 := by rw [← hH1, Array.size_push]
  have e1 : H1[H.size]? = some (vp_cell (gA E 1) (n, .inr (.inl f))) := by rw [← hH1, Array.getElem?_push_size]
  have o1 : ∀ q : Nat, q < H.size → H1[q]? = H[q]? := fun q hq => by rw [← hH1, Array.getElem?_push, if_neg (Nat.ne_of_lt hq)]
  obtain ⟨t, b1, b2⟩ := k H1 locs ls (hR.push (x := .inl (1, n, .inr (.inl f))) (by rw [hR.1] at e1; exact e1) z1 o1) (hS.new z1 o1) hl
    ((T.setVm vm').pushCell (vp_cell (gA E 1) (n, .inr (.inl f)))) (by rw [← hH1, ← hT]; rfl) X'
  refine ⟨t, st' t ?_, b2⟩
  rw [hcellE, hT, hR.1]
  exact b1
/-- the law's own script: cell 0 -/
def SX (E : aG) (Γ : aC) : Prop :=
  match Γ with
  | (p, l, e, R, s, m, args, below, meth, c, Q) => va_X (gs E) (gL E) (gX E) s s.heap ∧ gs E < s.heap.size ∧ gs E < gb E
theorem sv_sld (hΓ : CK E own cc nL ret nm d mc ms Γ) (hX : SX E Γ) {i : Int32} (hin : vp_in i (gL E)) (hd : decode cc pc = .ok (.iaload, 1)) (hn : pc + 1 = pc') (k : SV E Γ nL M nx ce sl pc' lv (.int (gX E i.toNatClampNeg) :: st)) : SV E Γ nL M nx ce sl pc lv (.int i :: .ref 0 :: st) := by
  obtain ⟨p, l, e, R, s, m, args, below, meth, c, Q⟩ := Γ
  obtain ⟨hx, hb, hml, hown, hts, hK, hr, hlk, hnm, hrm, hsz, hZ, hZC⟩ := hΓ
  subst hn
  intro H locs ls hR hS hl
  exact va_sld hx hb hX.1 hX.2.1 (Nat.not_le.mpr hX.2.2) hS hin hd (k H locs ls hR hS hl)
theorem sv_slen (hΓ : CK E own cc nL ret nm d mc ms Γ) (hX : SX E Γ) (hd : decode cc pc = .ok (.arraylength, 1)) (hn : pc + 1 = pc') (k : SV E Γ nL M nx ce sl pc' lv (.int (Int32.ofNat (gL E)) :: st)) : SV E Γ nL M nx ce sl pc lv (.ref 0 :: st) := by
  obtain ⟨p, l, e, R, s, m, args, below, meth, c, Q⟩ := Γ
  obtain ⟨hx, hb, hml, hown, hts, hK, hr, hlk, hnm, hrm, hsz, hZ, hZC⟩ := hΓ
  subst hn
  intro H locs ls hR hS hl
  exact va_slen hx hb hX.1 hX.2.1 (Nat.not_le.mpr hX.2.2) hS hd (k H locs ls hR hS hl)
end
end
