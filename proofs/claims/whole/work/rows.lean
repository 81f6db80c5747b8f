section
-- ===== PART A: goes FIRST, ahead of the names: the tables' words, and 'selects' of the private methods out of them =====
/-- a private method of a class that the tables say can be made, by its rows of tables_1 -/
def lw_okq (q : MethodName × Nat) : Prop := (q.1.cls ≠ "java/lang/invoke/MethodHandle" ∧ q.1.cls ≠ "java/lang/invoke/VarHandle") ∧ Cond.instantiable q.1.cls q.2 ∈ tables_1 ∧ Cond.privateMethod q.1 ∈ tables_1 ∧ Cond.instanceMethod q.1 ∈ tables_1
theorem lw_p0 : lw_okq (⟨"TableStreams", "refuse", "(I)I"⟩, 12) := ⟨⟨by decide +kernel, by decide +kernel⟩, List.mem_of_getElem? (i := 22) (by decide +kernel), List.mem_of_getElem? (i := 265) (by decide +kernel), List.mem_of_getElem? (i := 266) (by decide +kernel)⟩
theorem lw_p1 : lw_okq (⟨"TableStreams", "grant", "(I)I"⟩, 12) := ⟨⟨by decide +kernel, by decide +kernel⟩, List.mem_of_getElem? (i := 22) (by decide +kernel), List.mem_of_getElem? (i := 281) (by decide +kernel), List.mem_of_getElem? (i := 282) (by decide +kernel)⟩
theorem lw_p2 : lw_okq (⟨"TableStreams$Tape", "isLetter", "(I)Z"⟩, 4) := ⟨⟨by decide +kernel, by decide +kernel⟩, List.mem_of_getElem? (i := 48) (by decide +kernel), List.mem_of_getElem? (i := 342) (by decide +kernel), List.mem_of_getElem? (i := 343) (by decide +kernel)⟩
theorem lw_p3 : lw_okq (⟨"TableStreams$Tape", "isDigit", "(I)Z"⟩, 4) := ⟨⟨by decide +kernel, by decide +kernel⟩, List.mem_of_getElem? (i := 48) (by decide +kernel), List.mem_of_getElem? (i := 346) (by decide +kernel), List.mem_of_getElem? (i := 347) (by decide +kernel)⟩
theorem lw_p4 : lw_okq (⟨"TableStreams$Parser", "takeNewName", "(LTableStreams$Tape;)I"⟩, 1) := ⟨⟨by decide +kernel, by decide +kernel⟩, List.mem_of_getElem? (i := 68) (by decide +kernel), List.mem_of_getElem? (i := 359) (by decide +kernel), List.mem_of_getElem? (i := 360) (by decide +kernel)⟩
theorem lw_p5 : lw_okq (⟨"TableStreams$Parser", "takeSign", "(LTableStreams$Tape;C)Z"⟩, 1) := ⟨⟨by decide +kernel, by decide +kernel⟩, List.mem_of_getElem? (i := 68) (by decide +kernel), List.mem_of_getElem? (i := 368) (by decide +kernel), List.mem_of_getElem? (i := 369) (by decide +kernel)⟩
theorem lw_p6 : lw_okq (⟨"TableStreams$Parser", "takeKind", "(LTableStreams$Tape;LTableStreams$Making;)Z"⟩, 1) := ⟨⟨by decide +kernel, by decide +kernel⟩, List.mem_of_getElem? (i := 68) (by decide +kernel), List.mem_of_getElem? (i := 376) (by decide +kernel), List.mem_of_getElem? (i := 377) (by decide +kernel)⟩
theorem lw_p7 : lw_okq (⟨"TableStreams$Parser", "takeParts", "(LTableStreams$Tape;LTableStreams$Making;)Z"⟩, 1) := ⟨⟨by decide +kernel, by decide +kernel⟩, List.mem_of_getElem? (i := 68) (by decide +kernel), List.mem_of_getElem? (i := 448) (by decide +kernel), List.mem_of_getElem? (i := 449) (by decide +kernel)⟩
theorem lw_p8 : lw_okq (⟨"TableStreams$Parser", "takeDigits", "(LTableStreams$Tape;LTableStreams$Making;II)Z"⟩, 1) := ⟨⟨by decide +kernel, by decide +kernel⟩, List.mem_of_getElem? (i := 68) (by decide +kernel), List.mem_of_getElem? (i := 452) (by decide +kernel), List.mem_of_getElem? (i := 453) (by decide +kernel)⟩
theorem lw_p9 : lw_okq (⟨"TableStreams$Parser", "takeLeft", "(LTableStreams$Tape;LTableStreams$Making;)Z"⟩, 1) := ⟨⟨by decide +kernel, by decide +kernel⟩, List.mem_of_getElem? (i := 68) (by decide +kernel), List.mem_of_getElem? (i := 461) (by decide +kernel), List.mem_of_getElem? (i := 462) (by decide +kernel)⟩
theorem lw_p10 : lw_okq (⟨"TableStreams$Parser", "takeName", "(LTableStreams$Tape;)I"⟩, 1) := ⟨⟨by decide +kernel, by decide +kernel⟩, List.mem_of_getElem? (i := 68) (by decide +kernel), List.mem_of_getElem? (i := 465) (by decide +kernel), List.mem_of_getElem? (i := 466) (by decide +kernel)⟩
theorem lw_p11 : lw_okq (⟨"TableStreams$Parser", "takeColumn", "(LTableStreams$Tape;LTableStreams$Making;)Z"⟩, 1) := ⟨⟨by decide +kernel, by decide +kernel⟩, List.mem_of_getElem? (i := 68) (by decide +kernel), List.mem_of_getElem? (i := 469) (by decide +kernel), List.mem_of_getElem? (i := 470) (by decide +kernel)⟩
theorem lw_p12 : lw_okq (⟨"TableStreams$Parser", "takeRelation", "(LTableStreams$Tape;LTableStreams$Making;)Z"⟩, 1) := ⟨⟨by decide +kernel, by decide +kernel⟩, List.mem_of_getElem? (i := 68) (by decide +kernel), List.mem_of_getElem? (i := 476) (by decide +kernel), List.mem_of_getElem? (i := 477) (by decide +kernel)⟩
theorem lw_p13 : lw_okq (⟨"TableStreams$Parser", "takeNumber", "(LTableStreams$Tape;LTableStreams$Making;)Z"⟩, 1) := ⟨⟨by decide +kernel, by decide +kernel⟩, List.mem_of_getElem? (i := 68) (by decide +kernel), List.mem_of_getElem? (i := 480) (by decide +kernel), List.mem_of_getElem? (i := 481) (by decide +kernel)⟩
theorem lw_p14 : lw_okq (⟨"TableStreams$Parser", "takeRight", "(LTableStreams$Tape;LTableStreams$Making;)Z"⟩, 1) := ⟨⟨by decide +kernel, by decide +kernel⟩, List.mem_of_getElem? (i := 68) (by decide +kernel), List.mem_of_getElem? (i := 484) (by decide +kernel), List.mem_of_getElem? (i := 485) (by decide +kernel)⟩
theorem lw_p15 : lw_okq (⟨"TableStreams", "beginAnew", "()V"⟩, 12) := ⟨⟨by decide +kernel, by decide +kernel⟩, List.mem_of_getElem? (i := 22) (by decide +kernel), List.mem_of_getElem? (i := 504) (by decide +kernel), List.mem_of_getElem? (i := 505) (by decide +kernel)⟩
def lw_privs_1 : List (MethodName × Nat) := [(⟨"TableStreams", "refuse", "(I)I"⟩, 12), (⟨"TableStreams", "grant", "(I)I"⟩, 12), (⟨"TableStreams$Tape", "isLetter", "(I)Z"⟩, 4), (⟨"TableStreams$Tape", "isDigit", "(I)Z"⟩, 4), (⟨"TableStreams$Parser", "takeNewName", "(LTableStreams$Tape;)I"⟩, 1), (⟨"TableStreams$Parser", "takeSign", "(LTableStreams$Tape;C)Z"⟩, 1), (⟨"TableStreams$Parser", "takeKind", "(LTableStreams$Tape;LTableStreams$Making;)Z"⟩, 1), (⟨"TableStreams$Parser", "takeParts", "(LTableStreams$Tape;LTableStreams$Making;)Z"⟩, 1), (⟨"TableStreams$Parser", "takeDigits", "(LTableStreams$Tape;LTableStreams$Making;II)Z"⟩, 1), (⟨"TableStreams$Parser", "takeLeft", "(LTableStreams$Tape;LTableStreams$Making;)Z"⟩, 1), (⟨"TableStreams$Parser", "takeName", "(LTableStreams$Tape;)I"⟩, 1), (⟨"TableStreams$Parser", "takeColumn", "(LTableStreams$Tape;LTableStreams$Making;)Z"⟩, 1), (⟨"TableStreams$Parser", "takeRelation", "(LTableStreams$Tape;LTableStreams$Making;)Z"⟩, 1), (⟨"TableStreams$Parser", "takeNumber", "(LTableStreams$Tape;LTableStreams$Making;)Z"⟩, 1), (⟨"TableStreams$Parser", "takeRight", "(LTableStreams$Tape;LTableStreams$Making;)Z"⟩, 1), (⟨"TableStreams", "beginAnew", "()V"⟩, 12)]
theorem lw_r1 : ∀ q ∈ lw_privs_1, lw_okq q := List.forall_mem_cons.mpr ⟨lw_p0, List.forall_mem_cons.mpr ⟨lw_p1, List.forall_mem_cons.mpr ⟨lw_p2, List.forall_mem_cons.mpr ⟨lw_p3, List.forall_mem_cons.mpr ⟨lw_p4, List.forall_mem_cons.mpr ⟨lw_p5, List.forall_mem_cons.mpr ⟨lw_p6, List.forall_mem_cons.mpr ⟨lw_p7, List.forall_mem_cons.mpr ⟨lw_p8, List.forall_mem_cons.mpr ⟨lw_p9, List.forall_mem_cons.mpr ⟨lw_p10, List.forall_mem_cons.mpr ⟨lw_p11, List.forall_mem_cons.mpr ⟨lw_p12, List.forall_mem_cons.mpr ⟨lw_p13, List.forall_mem_cons.mpr ⟨lw_p14, List.forall_mem_cons.mpr ⟨lw_p15, fun _ h => absurd h List.not_mem_nil⟩⟩⟩⟩⟩⟩⟩⟩⟩⟩⟩⟩⟩⟩⟩⟩
theorem lw_p16 : lw_okq (⟨"TableStreams", "readNext", "()Z"⟩, 12) := ⟨⟨by decide +kernel, by decide +kernel⟩, List.mem_of_getElem? (i := 22) (by decide +kernel), List.mem_of_getElem? (i := 550) (by decide +kernel), List.mem_of_getElem? (i := 551) (by decide +kernel)⟩
theorem lw_p17 : lw_okq (⟨"TableStreams$Tables", "touches", "(I)Z"⟩, 8) := ⟨⟨by decide +kernel, by decide +kernel⟩, List.mem_of_getElem? (i := 78) (by decide +kernel), List.mem_of_getElem? (i := 576) (by decide +kernel), List.mem_of_getElem? (i := 577) (by decide +kernel)⟩
theorem lw_p18 : lw_okq (⟨"TableStreams$Tables", "offeredOf", "(I)LTableStreams$Rows;"⟩, 8) := ⟨⟨by decide +kernel, by decide +kernel⟩, List.mem_of_getElem? (i := 78) (by decide +kernel), List.mem_of_getElem? (i := 596) (by decide +kernel), List.mem_of_getElem? (i := 597) (by decide +kernel)⟩
theorem lw_p19 : lw_okq (⟨"TableStreams$Making", "fillByGroup", "(LTableStreams$Rows;LTableStreams$Rows;)V"⟩, 6) := ⟨⟨by decide +kernel, by decide +kernel⟩, List.mem_of_getElem? (i := 108) (by decide +kernel), List.mem_of_getElem? (i := 609) (by decide +kernel), List.mem_of_getElem? (i := 610) (by decide +kernel)⟩
theorem lw_p20 : lw_okq (⟨"TableStreams$Making", "fillByKey", "(LTableStreams$Rows;LTableStreams$Rows;)V"⟩, 6) := ⟨⟨by decide +kernel, by decide +kernel⟩, List.mem_of_getElem? (i := 108) (by decide +kernel), List.mem_of_getElem? (i := 641) (by decide +kernel), List.mem_of_getElem? (i := 642) (by decide +kernel)⟩
theorem lw_p21 : lw_okq (⟨"TableStreams$Making", "fillByPairs", "(LTableStreams$Rows;LTableStreams$Rows;LTableStreams$Rows;)V"⟩, 6) := ⟨⟨by decide +kernel, by decide +kernel⟩, List.mem_of_getElem? (i := 108) (by decide +kernel), List.mem_of_getElem? (i := 646) (by decide +kernel), List.mem_of_getElem? (i := 647) (by decide +kernel)⟩
theorem lw_p22 : lw_okq (⟨"TableStreams$Making", "fillWithout", "(LTableStreams$Rows;ILTableStreams$Rows;)V"⟩, 6) := ⟨⟨by decide +kernel, by decide +kernel⟩, List.mem_of_getElem? (i := 108) (by decide +kernel), List.mem_of_getElem? (i := 660) (by decide +kernel), List.mem_of_getElem? (i := 661) (by decide +kernel)⟩
theorem lw_p23 : lw_okq (⟨"TableStreams$Making", "addOne", "(JLTableStreams$Rows;)V"⟩, 6) := ⟨⟨by decide +kernel, by decide +kernel⟩, List.mem_of_getElem? (i := 108) (by decide +kernel), List.mem_of_getElem? (i := 664) (by decide +kernel), List.mem_of_getElem? (i := 665) (by decide +kernel)⟩
theorem lw_p24 : lw_okq (⟨"TableStreams$Making", "holdsOf", "(I)Z"⟩, 6) := ⟨⟨by decide +kernel, by decide +kernel⟩, List.mem_of_getElem? (i := 108) (by decide +kernel), List.mem_of_getElem? (i := 675) (by decide +kernel), List.mem_of_getElem? (i := 676) (by decide +kernel)⟩
theorem lw_p25 : lw_okq (⟨"TableStreams$Rows", "merge", "(III[J)V"⟩, 3) := ⟨⟨by decide +kernel, by decide +kernel⟩, List.mem_of_getElem? (i := 85) (by decide +kernel), List.mem_of_getElem? (i := 685) (by decide +kernel), List.mem_of_getElem? (i := 686) (by decide +kernel)⟩
theorem lw_p26 : lw_okq (⟨"TableStreams$Changes", "addMissing", "(LTableStreams$Rows;LTableStreams$Rows;I)Z"⟩, 2) := ⟨⟨by decide +kernel, by decide +kernel⟩, List.mem_of_getElem? (i := 176) (by decide +kernel), List.mem_of_getElem? (i := 701) (by decide +kernel), List.mem_of_getElem? (i := 702) (by decide +kernel)⟩
theorem lw_p27 : lw_okq (⟨"TableStreams$Hosts", "choose", "(I)I"⟩, 3) := ⟨⟨by decide +kernel, by decide +kernel⟩, List.mem_of_getElem? (i := 189) (by decide +kernel), List.mem_of_getElem? (i := 787) (by decide +kernel), List.mem_of_getElem? (i := 788) (by decide +kernel)⟩
theorem lw_p28 : lw_okq (⟨"TableStreamsModel", "told", "(I)I"⟩, 52) := ⟨⟨by decide +kernel, by decide +kernel⟩, List.mem_of_getElem? (i := 827) (by decide +kernel), List.mem_of_getElem? (i := 1002) (by decide +kernel), List.mem_of_getElem? (i := 1003) (by decide +kernel)⟩
theorem lw_p29 : lw_okq (⟨"TableStreamsModel", "readOne", "()Z"⟩, 52) := ⟨⟨by decide +kernel, by decide +kernel⟩, List.mem_of_getElem? (i := 827) (by decide +kernel), List.mem_of_getElem? (i := 1011) (by decide +kernel), List.mem_of_getElem? (i := 1012) (by decide +kernel)⟩
theorem lw_p30 : lw_okq (⟨"TableStreamsModel", "latest", "(I)I"⟩, 52) := ⟨⟨by decide +kernel, by decide +kernel⟩, List.mem_of_getElem? (i := 827) (by decide +kernel), List.mem_of_getElem? (i := 1015) (by decide +kernel), List.mem_of_getElem? (i := 1016) (by decide +kernel)⟩
theorem lw_p31 : lw_okq (⟨"TableStreamsModel", "makeAll", "(I)Z"⟩, 52) := ⟨⟨by decide +kernel, by decide +kernel⟩, List.mem_of_getElem? (i := 827) (by decide +kernel), List.mem_of_getElem? (i := 1019) (by decide +kernel), List.mem_of_getElem? (i := 1020) (by decide +kernel)⟩
def lw_privs_2 : List (MethodName × Nat) := [(⟨"TableStreams", "readNext", "()Z"⟩, 12), (⟨"TableStreams$Tables", "touches", "(I)Z"⟩, 8), (⟨"TableStreams$Tables", "offeredOf", "(I)LTableStreams$Rows;"⟩, 8), (⟨"TableStreams$Making", "fillByGroup", "(LTableStreams$Rows;LTableStreams$Rows;)V"⟩, 6), (⟨"TableStreams$Making", "fillByKey", "(LTableStreams$Rows;LTableStreams$Rows;)V"⟩, 6), (⟨"TableStreams$Making", "fillByPairs", "(LTableStreams$Rows;LTableStreams$Rows;LTableStreams$Rows;)V"⟩, 6), (⟨"TableStreams$Making", "fillWithout", "(LTableStreams$Rows;ILTableStreams$Rows;)V"⟩, 6), (⟨"TableStreams$Making", "addOne", "(JLTableStreams$Rows;)V"⟩, 6), (⟨"TableStreams$Making", "holdsOf", "(I)Z"⟩, 6), (⟨"TableStreams$Rows", "merge", "(III[J)V"⟩, 3), (⟨"TableStreams$Changes", "addMissing", "(LTableStreams$Rows;LTableStreams$Rows;I)Z"⟩, 2), (⟨"TableStreams$Hosts", "choose", "(I)I"⟩, 3), (⟨"TableStreamsModel", "told", "(I)I"⟩, 52), (⟨"TableStreamsModel", "readOne", "()Z"⟩, 52), (⟨"TableStreamsModel", "latest", "(I)I"⟩, 52), (⟨"TableStreamsModel", "makeAll", "(I)Z"⟩, 52)]
theorem lw_r2 : ∀ q ∈ lw_privs_2, lw_okq q := List.forall_mem_cons.mpr ⟨lw_p16, List.forall_mem_cons.mpr ⟨lw_p17, List.forall_mem_cons.mpr ⟨lw_p18, List.forall_mem_cons.mpr ⟨lw_p19, List.forall_mem_cons.mpr ⟨lw_p20, List.forall_mem_cons.mpr ⟨lw_p21, List.forall_mem_cons.mpr ⟨lw_p22, List.forall_mem_cons.mpr ⟨lw_p23, List.forall_mem_cons.mpr ⟨lw_p24, List.forall_mem_cons.mpr ⟨lw_p25, List.forall_mem_cons.mpr ⟨lw_p26, List.forall_mem_cons.mpr ⟨lw_p27, List.forall_mem_cons.mpr ⟨lw_p28, List.forall_mem_cons.mpr ⟨lw_p29, List.forall_mem_cons.mpr ⟨lw_p30, List.forall_mem_cons.mpr ⟨lw_p31, fun _ h => absurd h List.not_mem_nil⟩⟩⟩⟩⟩⟩⟩⟩⟩⟩⟩⟩⟩⟩⟩⟩
theorem lw_p32 : lw_okq (⟨"TableStreamsModel", "make", "(II)V"⟩, 52) := ⟨⟨by decide +kernel, by decide +kernel⟩, List.mem_of_getElem? (i := 827) (by decide +kernel), List.mem_of_getElem? (i := 1023) (by decide +kernel), List.mem_of_getElem? (i := 1024) (by decide +kernel)⟩
theorem lw_p33 : lw_okq (⟨"TableStreamsModel", "add", "(IIJI)V"⟩, 52) := ⟨⟨by decide +kernel, by decide +kernel⟩, List.mem_of_getElem? (i := 827) (by decide +kernel), List.mem_of_getElem? (i := 1027) (by decide +kernel), List.mem_of_getElem? (i := 1028) (by decide +kernel)⟩
theorem lw_p34 : lw_okq (⟨"TableStreamsModel", "isBefore", "(IIII)Z"⟩, 52) := ⟨⟨by decide +kernel, by decide +kernel⟩, List.mem_of_getElem? (i := 827) (by decide +kernel), List.mem_of_getElem? (i := 1033) (by decide +kernel), List.mem_of_getElem? (i := 1034) (by decide +kernel)⟩
theorem lw_p35 : lw_okq (⟨"TableStreamsModel", "makeEach", "(I)V"⟩, 52) := ⟨⟨by decide +kernel, by decide +kernel⟩, List.mem_of_getElem? (i := 827) (by decide +kernel), List.mem_of_getElem? (i := 1037) (by decide +kernel), List.mem_of_getElem? (i := 1038) (by decide +kernel)⟩
theorem lw_p36 : lw_okq (⟨"TableStreamsModel", "makeHeaps", "(I)V"⟩, 52) := ⟨⟨by decide +kernel, by decide +kernel⟩, List.mem_of_getElem? (i := 827) (by decide +kernel), List.mem_of_getElem? (i := 1041) (by decide +kernel), List.mem_of_getElem? (i := 1042) (by decide +kernel)⟩
theorem lw_p37 : lw_okq (⟨"TableStreamsModel", "makeOfTwo", "(I)V"⟩, 52) := ⟨⟨by decide +kernel, by decide +kernel⟩, List.mem_of_getElem? (i := 827) (by decide +kernel), List.mem_of_getElem? (i := 1045) (by decide +kernel), List.mem_of_getElem? (i := 1046) (by decide +kernel)⟩
theorem lw_p38 : lw_okq (⟨"TableStreamsModel", "change", "(I)Z"⟩, 52) := ⟨⟨by decide +kernel, by decide +kernel⟩, List.mem_of_getElem? (i := 827) (by decide +kernel), List.mem_of_getElem? (i := 1049) (by decide +kernel), List.mem_of_getElem? (i := 1050) (by decide +kernel)⟩
theorem lw_p39 : lw_okq (⟨"TableStreamsModel", "order", "(II)I"⟩, 52) := ⟨⟨by decide +kernel, by decide +kernel⟩, List.mem_of_getElem? (i := 827) (by decide +kernel), List.mem_of_getElem? (i := 1053) (by decide +kernel), List.mem_of_getElem? (i := 1054) (by decide +kernel)⟩
theorem lw_p40 : lw_okq (⟨"TableStreamsModel", "keep", "()V"⟩, 52) := ⟨⟨by decide +kernel, by decide +kernel⟩, List.mem_of_getElem? (i := 827) (by decide +kernel), List.mem_of_getElem? (i := 1057) (by decide +kernel), List.mem_of_getElem? (i := 1058) (by decide +kernel)⟩
theorem lw_p41 : lw_okq (⟨"TableStreamsModel", "goTo", "(I)V"⟩, 52) := ⟨⟨by decide +kernel, by decide +kernel⟩, List.mem_of_getElem? (i := 827) (by decide +kernel), List.mem_of_getElem? (i := 1069) (by decide +kernel), List.mem_of_getElem? (i := 1070) (by decide +kernel)⟩
theorem lw_p42 : lw_okq (⟨"TableStreamsModel", "begin", "()V"⟩, 52) := ⟨⟨by decide +kernel, by decide +kernel⟩, List.mem_of_getElem? (i := 827) (by decide +kernel), List.mem_of_getElem? (i := 1078) (by decide +kernel), List.mem_of_getElem? (i := 1079) (by decide +kernel)⟩
theorem lw_p43 : lw_okq (⟨"TableStreamsModel", "four", "(I)V"⟩, 52) := ⟨⟨by decide +kernel, by decide +kernel⟩, List.mem_of_getElem? (i := 827) (by decide +kernel), List.mem_of_getElem? (i := 1086) (by decide +kernel), List.mem_of_getElem? (i := 1087) (by decide +kernel)⟩
theorem lw_p44 : lw_okq (⟨"TableStreamsModel", "next", "()V"⟩, 52) := ⟨⟨by decide +kernel, by decide +kernel⟩, List.mem_of_getElem? (i := 827) (by decide +kernel), List.mem_of_getElem? (i := 1098) (by decide +kernel), List.mem_of_getElem? (i := 1099) (by decide +kernel)⟩
theorem lw_p45 : lw_okq (⟨"TableStreamsModel", "readTable", "()V"⟩, 52) := ⟨⟨by decide +kernel, by decide +kernel⟩, List.mem_of_getElem? (i := 827) (by decide +kernel), List.mem_of_getElem? (i := 1112) (by decide +kernel), List.mem_of_getElem? (i := 1113) (by decide +kernel)⟩
theorem lw_p46 : lw_okq (⟨"TableStreamsModel", "isName", "()Z"⟩, 52) := ⟨⟨by decide +kernel, by decide +kernel⟩, List.mem_of_getElem? (i := 827) (by decide +kernel), List.mem_of_getElem? (i := 1116) (by decide +kernel), List.mem_of_getElem? (i := 1117) (by decide +kernel)⟩
theorem lw_p47 : lw_okq (⟨"TableStreamsModel", "must", "(Z)V"⟩, 52) := ⟨⟨by decide +kernel, by decide +kernel⟩, List.mem_of_getElem? (i := 827) (by decide +kernel), List.mem_of_getElem? (i := 1120) (by decide +kernel), List.mem_of_getElem? (i := 1121) (by decide +kernel)⟩
def lw_privs_3 : List (MethodName × Nat) := [(⟨"TableStreamsModel", "make", "(II)V"⟩, 52), (⟨"TableStreamsModel", "add", "(IIJI)V"⟩, 52), (⟨"TableStreamsModel", "isBefore", "(IIII)Z"⟩, 52), (⟨"TableStreamsModel", "makeEach", "(I)V"⟩, 52), (⟨"TableStreamsModel", "makeHeaps", "(I)V"⟩, 52), (⟨"TableStreamsModel", "makeOfTwo", "(I)V"⟩, 52), (⟨"TableStreamsModel", "change", "(I)Z"⟩, 52), (⟨"TableStreamsModel", "order", "(II)I"⟩, 52), (⟨"TableStreamsModel", "keep", "()V"⟩, 52), (⟨"TableStreamsModel", "goTo", "(I)V"⟩, 52), (⟨"TableStreamsModel", "begin", "()V"⟩, 52), (⟨"TableStreamsModel", "four", "(I)V"⟩, 52), (⟨"TableStreamsModel", "next", "()V"⟩, 52), (⟨"TableStreamsModel", "readTable", "()V"⟩, 52), (⟨"TableStreamsModel", "isName", "()Z"⟩, 52), (⟨"TableStreamsModel", "must", "(Z)V"⟩, 52)]
theorem lw_r3 : ∀ q ∈ lw_privs_3, lw_okq q := List.forall_mem_cons.mpr ⟨lw_p32, List.forall_mem_cons.mpr ⟨lw_p33, List.forall_mem_cons.mpr ⟨lw_p34, List.forall_mem_cons.mpr ⟨lw_p35, List.forall_mem_cons.mpr ⟨lw_p36, List.forall_mem_cons.mpr ⟨lw_p37, List.forall_mem_cons.mpr ⟨lw_p38, List.forall_mem_cons.mpr ⟨lw_p39, List.forall_mem_cons.mpr ⟨lw_p40, List.forall_mem_cons.mpr ⟨lw_p41, List.forall_mem_cons.mpr ⟨lw_p42, List.forall_mem_cons.mpr ⟨lw_p43, List.forall_mem_cons.mpr ⟨lw_p44, List.forall_mem_cons.mpr ⟨lw_p45, List.forall_mem_cons.mpr ⟨lw_p46, List.forall_mem_cons.mpr ⟨lw_p47, fun _ h => absurd h List.not_mem_nil⟩⟩⟩⟩⟩⟩⟩⟩⟩⟩⟩⟩⟩⟩⟩⟩
theorem lw_p48 : lw_okq (⟨"TableStreamsModel", "isSign", "(I)Z"⟩, 52) := ⟨⟨by decide +kernel, by decide +kernel⟩, List.mem_of_getElem? (i := 827) (by decide +kernel), List.mem_of_getElem? (i := 1124) (by decide +kernel), List.mem_of_getElem? (i := 1125) (by decide +kernel)⟩
theorem lw_p49 : lw_okq (⟨"TableStreamsModel", "kindAt", "()I"⟩, 52) := ⟨⟨by decide +kernel, by decide +kernel⟩, List.mem_of_getElem? (i := 827) (by decide +kernel), List.mem_of_getElem? (i := 1128) (by decide +kernel), List.mem_of_getElem? (i := 1129) (by decide +kernel)⟩
theorem lw_p50 : lw_okq (⟨"TableStreamsModel", "isWord", "(IIIIII)Z"⟩, 52) := ⟨⟨by decide +kernel, by decide +kernel⟩, List.mem_of_getElem? (i := 827) (by decide +kernel), List.mem_of_getElem? (i := 1132) (by decide +kernel), List.mem_of_getElem? (i := 1133) (by decide +kernel)⟩
theorem lw_p51 : lw_okq (⟨"TableStreamsModel", "number", "(JJ)I"⟩, 52) := ⟨⟨by decide +kernel, by decide +kernel⟩, List.mem_of_getElem? (i := 827) (by decide +kernel), List.mem_of_getElem? (i := 1136) (by decide +kernel), List.mem_of_getElem? (i := 1137) (by decide +kernel)⟩
theorem lw_p52 : lw_okq (⟨"TableStreamsModel", "name", "()I"⟩, 52) := ⟨⟨by decide +kernel, by decide +kernel⟩, List.mem_of_getElem? (i := 827) (by decide +kernel), List.mem_of_getElem? (i := 1140) (by decide +kernel), List.mem_of_getElem? (i := 1141) (by decide +kernel)⟩
theorem lw_p53 : lw_okq (⟨"TableStreamsModel", "signed", "()I"⟩, 52) := ⟨⟨by decide +kernel, by decide +kernel⟩, List.mem_of_getElem? (i := 827) (by decide +kernel), List.mem_of_getElem? (i := 1144) (by decide +kernel), List.mem_of_getElem? (i := 1145) (by decide +kernel)⟩
theorem lw_p54 : lw_okq (⟨"TableStreamsModel", "isTable", "(I)Z"⟩, 52) := ⟨⟨by decide +kernel, by decide +kernel⟩, List.mem_of_getElem? (i := 827) (by decide +kernel), List.mem_of_getElem? (i := 1156) (by decide +kernel), List.mem_of_getElem? (i := 1157) (by decide +kernel)⟩
def lw_privs_4 : List (MethodName × Nat) := [(⟨"TableStreamsModel", "isSign", "(I)Z"⟩, 52), (⟨"TableStreamsModel", "kindAt", "()I"⟩, 52), (⟨"TableStreamsModel", "isWord", "(IIIIII)Z"⟩, 52), (⟨"TableStreamsModel", "number", "(JJ)I"⟩, 52), (⟨"TableStreamsModel", "name", "()I"⟩, 52), (⟨"TableStreamsModel", "signed", "()I"⟩, 52), (⟨"TableStreamsModel", "isTable", "(I)Z"⟩, 52)]
theorem lw_r4 : ∀ q ∈ lw_privs_4, lw_okq q := List.forall_mem_cons.mpr ⟨lw_p48, List.forall_mem_cons.mpr ⟨lw_p49, List.forall_mem_cons.mpr ⟨lw_p50, List.forall_mem_cons.mpr ⟨lw_p51, List.forall_mem_cons.mpr ⟨lw_p52, List.forall_mem_cons.mpr ⟨lw_p53, List.forall_mem_cons.mpr ⟨lw_p54, fun _ h => absurd h List.not_mem_nil⟩⟩⟩⟩⟩⟩⟩
def lw_privs : List (MethodName × Nat) := lw_privs_1 ++ (lw_privs_2 ++ (lw_privs_3 ++ (lw_privs_4)))
def lw_tbl : List Cond := k2_sels lw_privs ++ tables_1
theorem lw_privs_ok : ∀ q ∈ lw_privs, lw_okq q := by
  show ∀ q ∈ lw_privs_1 ++ (lw_privs_2 ++ (lw_privs_3 ++ (lw_privs_4))), lw_okq q
  exact List.forall_mem_append.mpr ⟨lw_r1, List.forall_mem_append.mpr ⟨lw_r2, List.forall_mem_append.mpr ⟨lw_r3, lw_r4⟩⟩⟩
end
section
def RX0 : String := "TableStreams$Changes"
def TX0 : u_T := fun k => match k with
  | 0 => ("TableStreams$Changes", "cells", "[J", true)
  | _ => ("TableStreams$Changes", "size", "I", false)
def tyX0 : Nat → FieldType := fun k => match k with
  | 0 => .array .long
  | _ => .int
abbrev wsX00 : List Cond := u_ws RX0 TX0 2
theorem nmX0 : ∀ a, a < 2 → ∀ b, b < 2 → a ≠ b → (TX0 a).2.1 ≠ (TX0 b).2.1 := by decide +kernel
theorem tyX0_ok : ∀ k, k < 2 → parseFieldDescriptor (TX0 k).2.2.1 = some (tyX0 k) := by decide +kernel
abbrev cX0_init : ByteArray := prog_2_method_1_code
def yX0_init : MethodName := ⟨RX0, "<init>", "()V"⟩
abbrev cX0_clear : ByteArray := prog_2_method_2_code
def yX0_clear : MethodName := ⟨RX0, "clear", "()V"⟩
abbrev cX0_size : ByteArray := prog_2_method_3_code
def yX0_size : MethodName := ⟨RX0, "size", "()I"⟩
abbrev cX0_partOf : ByteArray := prog_2_method_4_code
def yX0_partOf : MethodName := ⟨RX0, "partOf", "(II)I"⟩
abbrev cX0_addAll : ByteArray := prog_2_method_5_code
def yX0_addAll : MethodName := ⟨RX0, "addAll", "(LTableStreams$Changes;)Z"⟩
abbrev cX0_addDifference : ByteArray := prog_2_method_6_code
def yX0_addDifference : MethodName := ⟨RX0, "addDifference", "(LTableStreams$Rows;LTableStreams$Rows;)Z"⟩
abbrev cX0_addMissing : ByteArray := prog_2_method_7_code
def yX0_addMissing : MethodName := ⟨RX0, "addMissing", "(LTableStreams$Rows;LTableStreams$Rows;I)Z"⟩
def RX1 : String := "TableStreams$Hosts"
def TX1 : u_T := fun k => match k with
  | 0 => ("TableStreams$Hosts", "isThere", "[Z", true)
  | 1 => ("TableStreams$Hosts", "owners", "[I", true)
  | _ => ("TableStreams$Hosts", "size", "I", false)
def tyX1 : Nat → FieldType := fun k => match k with
  | 0 => .array .boolean
  | 1 => .array .int
  | _ => .int
abbrev wsX10 : List Cond := u_ws RX1 TX1 3
theorem nmX1 : ∀ a, a < 3 → ∀ b, b < 3 → a ≠ b → (TX1 a).2.1 ≠ (TX1 b).2.1 := by decide +kernel
theorem tyX1_ok : ∀ k, k < 3 → parseFieldDescriptor (TX1 k).2.2.1 = some (tyX1 k) := by decide +kernel
abbrev cX1_init : ByteArray := prog_3_method_1_code
def yX1_init : MethodName := ⟨RX1, "<init>", "()V"⟩
abbrev cX1_size : ByteArray := prog_3_method_2_code
def yX1_size : MethodName := ⟨RX1, "size", "()I"⟩
abbrev cX1_has : ByteArray := prog_3_method_3_code
def yX1_has : MethodName := ⟨RX1, "has", "(I)Z"⟩
abbrev cX1_ownerOf : ByteArray := prog_3_method_4_code
def yX1_ownerOf : MethodName := ⟨RX1, "ownerOf", "(I)I"⟩
abbrev cX1_keysOf : ByteArray := prog_3_method_5_code
def yX1_keysOf : MethodName := ⟨RX1, "keysOf", "(I)I"⟩
abbrev cX1_change : ByteArray := prog_3_method_6_code
def yX1_change : MethodName := ⟨RX1, "change", "(IZ)I"⟩
abbrev cX1_choose : ByteArray := prog_3_method_7_code
def yX1_choose : MethodName := ⟨RX1, "choose", "(I)I"⟩
def RX2 : String := "TableStreams$Log"
def TX2 : u_T := fun k => match k with
  | 0 => ("TableStreams$Log", "sources", "[I", true)
  | 1 => ("TableStreams$Log", "told", "[J", true)
  | _ => ("TableStreams$Log", "size", "I", false)
def tyX2 : Nat → FieldType := fun k => match k with
  | 0 => .array .int
  | 1 => .array .long
  | _ => .int
abbrev wsX20 : List Cond := u_ws RX2 TX2 3
theorem nmX2 : ∀ a, a < 3 → ∀ b, b < 3 → a ≠ b → (TX2 a).2.1 ≠ (TX2 b).2.1 := by decide +kernel
theorem tyX2_ok : ∀ k, k < 3 → parseFieldDescriptor (TX2 k).2.2.1 = some (tyX2 k) := by decide +kernel
abbrev cX2_init : ByteArray := prog_4_method_1_code
def yX2_init : MethodName := ⟨RX2, "<init>", "()V"⟩
abbrev cX2_size : ByteArray := prog_4_method_2_code
def yX2_size : MethodName := ⟨RX2, "size", "()I"⟩
abbrev cX2_add : ByteArray := prog_4_method_3_code
def yX2_add : MethodName := ⟨RX2, "add", "(IJ)Z"⟩
abbrev cX2_sourceAt : ByteArray := prog_4_method_4_code
def yX2_sourceAt : MethodName := ⟨RX2, "sourceAt", "(I)I"⟩
abbrev cX2_rowAt : ByteArray := prog_4_method_5_code
def yX2_rowAt : MethodName := ⟨RX2, "rowAt", "(I)J"⟩
def RX3 : String := "TableStreams$Making"
def TX3 : u_T := fun k => match k with
  | 0 => ("TableStreams$Making", "kind", "I", false)
  | 1 => ("TableStreams$Making", "left", "I", false)
  | 2 => ("TableStreams$Making", "right", "I", false)
  | 3 => ("TableStreams$Making", "column", "I", false)
  | 4 => ("TableStreams$Making", "relation", "C", false)
  | _ => ("TableStreams$Making", "number", "I", false)
def tyX3 : Nat → FieldType := fun k => match k with
  | 0 => .int
  | 1 => .int
  | 2 => .int
  | 3 => .int
  | 4 => .char
  | _ => .int
abbrev wsX30 : List Cond := u_ws RX3 TX3 6
theorem nmX3 : ∀ a, a < 6 → ∀ b, b < 6 → a ≠ b → (TX3 a).2.1 ≠ (TX3 b).2.1 := by decide +kernel
theorem tyX3_ok : ∀ k, k < 6 → parseFieldDescriptor (TX3 k).2.2.1 = some (tyX3 k) := by decide +kernel
abbrev cX3_init : ByteArray := prog_5_method_1_code
def yX3_init : MethodName := ⟨RX3, "<init>", "()V"⟩
abbrev cX3_clear : ByteArray := prog_5_method_2_code
def yX3_clear : MethodName := ⟨RX3, "clear", "()V"⟩
abbrev cX3_fill : ByteArray := prog_5_method_3_code
def yX3_fill : MethodName := ⟨RX3, "fill", "(LTableStreams$Rows;LTableStreams$Rows;LTableStreams$Rows;)V"⟩
abbrev cX3_addOne : ByteArray := prog_5_method_4_code
def yX3_addOne : MethodName := ⟨RX3, "addOne", "(JLTableStreams$Rows;)V"⟩
abbrev cX3_holdsOf : ByteArray := prog_5_method_5_code
def yX3_holdsOf : MethodName := ⟨RX3, "holdsOf", "(I)Z"⟩
abbrev cX3_fillByGroup : ByteArray := prog_5_method_6_code
def yX3_fillByGroup : MethodName := ⟨RX3, "fillByGroup", "(LTableStreams$Rows;LTableStreams$Rows;)V"⟩
abbrev cX3_fillByKey : ByteArray := prog_5_method_7_code
def yX3_fillByKey : MethodName := ⟨RX3, "fillByKey", "(LTableStreams$Rows;LTableStreams$Rows;)V"⟩
abbrev cX3_fillByPairs : ByteArray := prog_5_method_8_code
def yX3_fillByPairs : MethodName := ⟨RX3, "fillByPairs", "(LTableStreams$Rows;LTableStreams$Rows;LTableStreams$Rows;)V"⟩
abbrev cX3_fillWithout : ByteArray := prog_5_method_9_code
def yX3_fillWithout : MethodName := ⟨RX3, "fillWithout", "(LTableStreams$Rows;ILTableStreams$Rows;)V"⟩
def RX4 : String := "TableStreams$Parser"
def TX4 : u_T := fun k => match k with
  | _ => ("TableStreams$Parser", "tableOfLetter", "[I", true)
def tyX4 : Nat → FieldType := fun k => match k with
  | _ => .array .int
abbrev wsX40 : List Cond := u_ws RX4 TX4 1
theorem nmX4 : ∀ a, a < 1 → ∀ b, b < 1 → a ≠ b → (TX4 a).2.1 ≠ (TX4 b).2.1 := by decide +kernel
theorem tyX4_ok : ∀ k, k < 1 → parseFieldDescriptor (TX4 k).2.2.1 = some (tyX4 k) := by decide +kernel
abbrev cX4_init : ByteArray := prog_6_method_1_code
def yX4_init : MethodName := ⟨RX4, "<init>", "()V"⟩
abbrev cX4_parse : ByteArray := prog_6_method_2_code
def yX4_parse : MethodName := ⟨RX4, "parse", "(LTableStreams$Tape;LTableStreams$Plan;)I"⟩
abbrev cX4_takeNewName : ByteArray := prog_6_method_3_code
def yX4_takeNewName : MethodName := ⟨RX4, "takeNewName", "(LTableStreams$Tape;)I"⟩
abbrev cX4_takeKind : ByteArray := prog_6_method_4_code
def yX4_takeKind : MethodName := ⟨RX4, "takeKind", "(LTableStreams$Tape;LTableStreams$Making;)Z"⟩
abbrev cX4_wordOf : ByteArray := prog_6_method_5_code
def yX4_wordOf : MethodName := ⟨RX4, "wordOf", "(I)Ljava/lang/String;"⟩
abbrev cX4_takeParts : ByteArray := prog_6_method_6_code
def yX4_takeParts : MethodName := ⟨RX4, "takeParts", "(LTableStreams$Tape;LTableStreams$Making;)Z"⟩
abbrev cX4_takeLeft : ByteArray := prog_6_method_7_code
def yX4_takeLeft : MethodName := ⟨RX4, "takeLeft", "(LTableStreams$Tape;LTableStreams$Making;)Z"⟩
abbrev cX4_takeRight : ByteArray := prog_6_method_8_code
def yX4_takeRight : MethodName := ⟨RX4, "takeRight", "(LTableStreams$Tape;LTableStreams$Making;)Z"⟩
abbrev cX4_takeName : ByteArray := prog_6_method_9_code
def yX4_takeName : MethodName := ⟨RX4, "takeName", "(LTableStreams$Tape;)I"⟩
abbrev cX4_takeColumn : ByteArray := prog_6_method_10_code
def yX4_takeColumn : MethodName := ⟨RX4, "takeColumn", "(LTableStreams$Tape;LTableStreams$Making;)Z"⟩
abbrev cX4_takeRelation : ByteArray := prog_6_method_11_code
def yX4_takeRelation : MethodName := ⟨RX4, "takeRelation", "(LTableStreams$Tape;LTableStreams$Making;)Z"⟩
abbrev cX4_takeNumber : ByteArray := prog_6_method_12_code
def yX4_takeNumber : MethodName := ⟨RX4, "takeNumber", "(LTableStreams$Tape;LTableStreams$Making;)Z"⟩
abbrev cX4_takeDigits : ByteArray := prog_6_method_13_code
def yX4_takeDigits : MethodName := ⟨RX4, "takeDigits", "(LTableStreams$Tape;LTableStreams$Making;II)Z"⟩
abbrev cX4_takeSign : ByteArray := prog_6_method_14_code
def yX4_takeSign : MethodName := ⟨RX4, "takeSign", "(LTableStreams$Tape;C)Z"⟩
def RX5 : String := "TableStreams$Plan"
def TX5 : u_T := fun k => match k with
  | 0 => ("TableStreams$Plan", "makings", "[LTableStreams$Making;", true)
  | _ => ("TableStreams$Plan", "size", "I", false)
def tyX5 : Nat → FieldType := fun k => match k with
  | 0 => .array (.object "TableStreams$Making")
  | _ => .int
abbrev wsX50 : List Cond := u_ws RX5 TX5 2
theorem nmX5 : ∀ a, a < 2 → ∀ b, b < 2 → a ≠ b → (TX5 a).2.1 ≠ (TX5 b).2.1 := by decide +kernel
theorem tyX5_ok : ∀ k, k < 2 → parseFieldDescriptor (TX5 k).2.2.1 = some (tyX5 k) := by decide +kernel
abbrev cX5_init : ByteArray := prog_7_method_1_code
def yX5_init : MethodName := ⟨RX5, "<init>", "()V"⟩
abbrev cX5_clear : ByteArray := prog_7_method_2_code
def yX5_clear : MethodName := ⟨RX5, "clear", "()V"⟩
abbrev cX5_size : ByteArray := prog_7_method_3_code
def yX5_size : MethodName := ⟨RX5, "size", "()I"⟩
abbrev cX5_at : ByteArray := prog_7_method_4_code
def yX5_at : MethodName := ⟨RX5, "at", "(I)LTableStreams$Making;"⟩
abbrev cX5_add : ByteArray := prog_7_method_5_code
def yX5_add : MethodName := ⟨RX5, "add", "()V"⟩
def RX6 : String := "TableStreams$Progress"
def TX6 : u_T := fun k => match k with
  | 0 => ("TableStreams$Progress", "rowsRead", "I", false)
  | 1 => ("TableStreams$Progress", "rowsLate", "I", false)
  | _ => ("TableStreams$Progress", "greatestTime", "I", false)
def tyX6 : Nat → FieldType := fun k => match k with
  | 0 => .int
  | 1 => .int
  | _ => .int
abbrev wsX60 : List Cond := u_ws RX6 TX6 3
theorem nmX6 : ∀ a, a < 3 → ∀ b, b < 3 → a ≠ b → (TX6 a).2.1 ≠ (TX6 b).2.1 := by decide +kernel
theorem tyX6_ok : ∀ k, k < 3 → parseFieldDescriptor (TX6 k).2.2.1 = some (tyX6 k) := by decide +kernel
abbrev cX6_init : ByteArray := prog_8_method_1_code
def yX6_init : MethodName := ⟨RX6, "<init>", "()V"⟩
abbrev cX6_clear : ByteArray := prog_8_method_2_code
def yX6_clear : MethodName := ⟨RX6, "clear", "()V"⟩
abbrev cX6_copy : ByteArray := prog_8_method_3_code
def yX6_copy : MethodName := ⟨RX6, "copy", "(LTableStreams$Progress;)V"⟩
abbrev cX6_step : ByteArray := prog_8_method_4_code
def yX6_step : MethodName := ⟨RX6, "step", "(IZ)V"⟩
abbrev cX6_rowsRead : ByteArray := prog_8_method_5_code
def yX6_rowsRead : MethodName := ⟨RX6, "rowsRead", "()I"⟩
abbrev cX6_rowsLate : ByteArray := prog_8_method_6_code
def yX6_rowsLate : MethodName := ⟨RX6, "rowsLate", "()I"⟩
abbrev cX6_greatestTime : ByteArray := prog_8_method_7_code
def yX6_greatestTime : MethodName := ⟨RX6, "greatestTime", "()I"⟩
def RX7 : String := "TableStreams$Row"
def TX7 : u_T := fun k => match k with
  | _ => ("", "", "", false)
def tyX7 : Nat → FieldType := fun k => match k with
  | _ => .int
abbrev wsX70 : List Cond := u_ws RX7 TX7 0
theorem nmX7 : ∀ a, a < 0 → ∀ b, b < 0 → a ≠ b → (TX7 a).2.1 ≠ (TX7 b).2.1 := by decide +kernel
theorem tyX7_ok : ∀ k, k < 0 → parseFieldDescriptor (TX7 k).2.2.1 = some (tyX7 k) := by decide +kernel
abbrev cX7_pack : ByteArray := prog_9_method_2_code
def yX7_pack : MethodName := ⟨RX7, "pack", "(III)J"⟩
abbrev cX7_keyOf : ByteArray := prog_9_method_3_code
def yX7_keyOf : MethodName := ⟨RX7, "keyOf", "(J)I"⟩
abbrev cX7_timeOf : ByteArray := prog_9_method_4_code
def yX7_timeOf : MethodName := ⟨RX7, "timeOf", "(J)I"⟩
abbrev cX7_valueOf : ByteArray := prog_9_method_5_code
def yX7_valueOf : MethodName := ⟨RX7, "valueOf", "(J)I"⟩
abbrev cX7_groupOf : ByteArray := prog_9_method_6_code
def yX7_groupOf : MethodName := ⟨RX7, "groupOf", "(J)J"⟩
abbrev cX7_partOf : ByteArray := prog_9_method_7_code
def yX7_partOf : MethodName := ⟨RX7, "partOf", "(JI)I"⟩
def RX8 : String := "TableStreams$Rows"
def TX8 : u_T := fun k => match k with
  | 0 => ("TableStreams$Rows", "cells", "[J", true)
  | 1 => ("TableStreams$Rows", "size", "I", false)
  | _ => ("TableStreams$Rows", "isFull", "Z", false)
def tyX8 : Nat → FieldType := fun k => match k with
  | 0 => .array .long
  | 1 => .int
  | _ => .boolean
abbrev wsX80 : List Cond := u_ws RX8 TX8 3
theorem nmX8 : ∀ a, a < 3 → ∀ b, b < 3 → a ≠ b → (TX8 a).2.1 ≠ (TX8 b).2.1 := by decide +kernel
theorem tyX8_ok : ∀ k, k < 3 → parseFieldDescriptor (TX8 k).2.2.1 = some (tyX8 k) := by decide +kernel
abbrev cX8_init : ByteArray := prog_10_method_1_code
def yX8_init : MethodName := ⟨RX8, "<init>", "()V"⟩
abbrev cX8_clear : ByteArray := prog_10_method_2_code
def yX8_clear : MethodName := ⟨RX8, "clear", "()V"⟩
abbrev cX8_size : ByteArray := prog_10_method_3_code
def yX8_size : MethodName := ⟨RX8, "size", "()I"⟩
abbrev cX8_isFull : ByteArray := prog_10_method_4_code
def yX8_isFull : MethodName := ⟨RX8, "isFull", "()Z"⟩
abbrev cX8_at : ByteArray := prog_10_method_5_code
def yX8_at : MethodName := ⟨RX8, "at", "(I)J"⟩
abbrev cX8_add : ByteArray := prog_10_method_6_code
def yX8_add : MethodName := ⟨RX8, "add", "(J)V"⟩
abbrev cX8_add_ : ByteArray := prog_10_method_7_code
def yX8_add_ : MethodName := ⟨RX8, "add", "(IIJ)V"⟩
abbrev cX8_copy : ByteArray := prog_10_method_8_code
def yX8_copy : MethodName := ⟨RX8, "copy", "(LTableStreams$Rows;)V"⟩
abbrev cX8_sort : ByteArray := prog_10_method_9_code
def yX8_sort : MethodName := ⟨RX8, "sort", "([J)V"⟩
abbrev cX8_merge : ByteArray := prog_10_method_10_code
def yX8_merge : MethodName := ⟨RX8, "merge", "(III[J)V"⟩
abbrev cX8_keys : ByteArray := prog_10_method_11_code
def yX8_keys : MethodName := ⟨RX8, "keys", "()I"⟩
abbrev cX8_countOfKeys : ByteArray := prog_10_method_12_code
def yX8_countOfKeys : MethodName := ⟨RX8, "countOfKeys", "(I)I"⟩
def RX9 : String := "TableStreams$Tables"
def TX9 : u_T := fun k => match k with
  | 0 => ("TableStreams$Tables", "current", "[LTableStreams$Rows;", true)
  | 1 => ("TableStreams$Tables", "offered", "[LTableStreams$Rows;", true)
  | 2 => ("TableStreams$Tables", "marked", "[LTableStreams$Rows;", true)
  | 3 => ("TableStreams$Tables", "isTouched", "[Z", true)
  | 4 => ("TableStreams$Tables", "nothing", "LTableStreams$Rows;", true)
  | 5 => ("TableStreams$Tables", "scratch", "[J", true)
  | 6 => ("TableStreams$Tables", "plan", "LTableStreams$Plan;", false)
  | _ => ("TableStreams$Tables", "draft", "LTableStreams$Plan;", false)
def tyX9 : Nat → FieldType := fun k => match k with
  | 0 => .array (.object "TableStreams$Rows")
  | 1 => .array (.object "TableStreams$Rows")
  | 2 => .array (.object "TableStreams$Rows")
  | 3 => .array .boolean
  | 4 => .object "TableStreams$Rows"
  | 5 => .array .long
  | 6 => .object "TableStreams$Plan"
  | _ => .object "TableStreams$Plan"
abbrev wsX90 : List Cond := u_ws RX9 TX9 8
theorem nmX9 : ∀ a, a < 8 → ∀ b, b < 8 → a ≠ b → (TX9 a).2.1 ≠ (TX9 b).2.1 := by decide +kernel
theorem tyX9_ok : ∀ k, k < 8 → parseFieldDescriptor (TX9 k).2.2.1 = some (tyX9 k) := by decide +kernel
abbrev cX9_init : ByteArray := prog_11_method_1_code
def yX9_init : MethodName := ⟨RX9, "<init>", "()V"⟩
abbrev cX9_draft : ByteArray := prog_11_method_2_code
def yX9_draft : MethodName := ⟨RX9, "draft", "()LTableStreams$Plan;"⟩
abbrev cX9_takeDraft : ByteArray := prog_11_method_3_code
def yX9_takeDraft : MethodName := ⟨RX9, "takeDraft", "()V"⟩
abbrev cX9_size : ByteArray := prog_11_method_4_code
def yX9_size : MethodName := ⟨RX9, "size", "()I"⟩
abbrev cX9_has : ByteArray := prog_11_method_5_code
def yX9_has : MethodName := ⟨RX9, "has", "(I)Z"⟩
abbrev cX9_rowsOf : ByteArray := prog_11_method_6_code
def yX9_rowsOf : MethodName := ⟨RX9, "rowsOf", "(I)LTableStreams$Rows;"⟩
abbrev cX9_answer : ByteArray := prog_11_method_7_code
def yX9_answer : MethodName := ⟨RX9, "answer", "()LTableStreams$Rows;"⟩
abbrev cX9_answerOffered : ByteArray := prog_11_method_8_code
def yX9_answerOffered : MethodName := ⟨RX9, "answerOffered", "()LTableStreams$Rows;"⟩
abbrev cX9_offeredOf : ByteArray := prog_11_method_9_code
def yX9_offeredOf : MethodName := ⟨RX9, "offeredOf", "(I)LTableStreams$Rows;"⟩
abbrev cX9_touches : ByteArray := prog_11_method_10_code
def yX9_touches : MethodName := ⟨RX9, "touches", "(I)Z"⟩
abbrev cX9_clear : ByteArray := prog_11_method_11_code
def yX9_clear : MethodName := ⟨RX9, "clear", "()V"⟩
abbrev cX9_keep : ByteArray := prog_11_method_12_code
def yX9_keep : MethodName := ⟨RX9, "keep", "()V"⟩
abbrev cX9_restore : ByteArray := prog_11_method_13_code
def yX9_restore : MethodName := ⟨RX9, "restore", "()V"⟩
abbrev cX9_offer : ByteArray := prog_11_method_14_code
def yX9_offer : MethodName := ⟨RX9, "offer", "(IJ)Z"⟩
abbrev cX9_acceptOffer : ByteArray := prog_11_method_15_code
def yX9_acceptOffer : MethodName := ⟨RX9, "acceptOffer", "()V"⟩
abbrev cX9_countOfKeys : ByteArray := prog_11_method_16_code
def yX9_countOfKeys : MethodName := ⟨RX9, "countOfKeys", "(I)I"⟩
def RX10 : String := "TableStreams$Tape"
def TX10 : u_T := fun k => match k with
  | 0 => ("TableStreams$Tape", "bytes", "[C", true)
  | 1 => ("TableStreams$Tape", "length", "I", false)
  | 2 => ("TableStreams$Tape", "start", "I", false)
  | _ => ("TableStreams$Tape", "stop", "I", false)
def tyX10 : Nat → FieldType := fun k => match k with
  | 0 => .array .char
  | 1 => .int
  | 2 => .int
  | _ => .int
abbrev wsX100 : List Cond := u_ws RX10 TX10 4
theorem nmX10 : ∀ a, a < 4 → ∀ b, b < 4 → a ≠ b → (TX10 a).2.1 ≠ (TX10 b).2.1 := by decide +kernel
theorem tyX10_ok : ∀ k, k < 4 → parseFieldDescriptor (TX10 k).2.2.1 = some (tyX10 k) := by decide +kernel
abbrev cX10_init : ByteArray := prog_12_method_1_code
def yX10_init : MethodName := ⟨RX10, "<init>", "()V"⟩
abbrev cX10_length : ByteArray := prog_12_method_2_code
def yX10_length : MethodName := ⟨RX10, "length", "()I"⟩
abbrev cX10_hasRoomFor : ByteArray := prog_12_method_3_code
def yX10_hasRoomFor : MethodName := ⟨RX10, "hasRoomFor", "(I)Z"⟩
abbrev cX10_addNumber : ByteArray := prog_12_method_4_code
def yX10_addNumber : MethodName := ⟨RX10, "addNumber", "(I)V"⟩
abbrev cX10_cut : ByteArray := prog_12_method_5_code
def yX10_cut : MethodName := ⟨RX10, "cut", "(I)V"⟩
abbrev cX10_toFirstToken : ByteArray := prog_12_method_6_code
def yX10_toFirstToken : MethodName := ⟨RX10, "toFirstToken", "()V"⟩
abbrev cX10_toNextToken : ByteArray := prog_12_method_7_code
def yX10_toNextToken : MethodName := ⟨RX10, "toNextToken", "()V"⟩
abbrev cX10_isLetter : ByteArray := prog_12_method_8_code
def yX10_isLetter : MethodName := ⟨RX10, "isLetter", "(I)Z"⟩
abbrev cX10_isDigit : ByteArray := prog_12_method_9_code
def yX10_isDigit : MethodName := ⟨RX10, "isDigit", "(I)Z"⟩
abbrev cX10_isAtEnd : ByteArray := prog_12_method_10_code
def yX10_isAtEnd : MethodName := ⟨RX10, "isAtEnd", "()Z"⟩
abbrev cX10_place : ByteArray := prog_12_method_11_code
def yX10_place : MethodName := ⟨RX10, "place", "()I"⟩
abbrev cX10_isToken : ByteArray := prog_12_method_12_code
def yX10_isToken : MethodName := ⟨RX10, "isToken", "(C)Z"⟩
abbrev cX10_isToken_ : ByteArray := prog_12_method_13_code
def yX10_isToken_ : MethodName := ⟨RX10, "isToken", "(Ljava/lang/String;)Z"⟩
abbrev cX10_letter : ByteArray := prog_12_method_14_code
def yX10_letter : MethodName := ⟨RX10, "letter", "()I"⟩
abbrev cX10_digits : ByteArray := prog_12_method_15_code
def yX10_digits : MethodName := ⟨RX10, "digits", "()I"⟩
def RX11 : String := "TableStreams"
def TX11 : u_T := fun k => match k with
  | 0 => ("TableStreams", "log", "LTableStreams$Log;", true)
  | 1 => ("TableStreams", "tape", "LTableStreams$Tape;", true)
  | 2 => ("TableStreams", "parser", "LTableStreams$Parser;", true)
  | 3 => ("TableStreams", "running", "LTableStreams$Tables;", true)
  | 4 => ("TableStreams", "waiting", "LTableStreams$Changes;", true)
  | 5 => ("TableStreams", "told", "LTableStreams$Changes;", true)
  | 6 => ("TableStreams", "hosts", "LTableStreams$Hosts;", true)
  | 7 => ("TableStreams", "now", "LTableStreams$Progress;", true)
  | 8 => ("TableStreams", "kept", "LTableStreams$Progress;", true)
  | 9 => ("TableStreams", "lateness", "I", false)
  | 10 => ("TableStreams", "faultPlace", "I", false)
  | _ => ("TableStreams", "refusal", "I", false)
def tyX11 : Nat → FieldType := fun k => match k with
  | 0 => .object "TableStreams$Log"
  | 1 => .object "TableStreams$Tape"
  | 2 => .object "TableStreams$Parser"
  | 3 => .object "TableStreams$Tables"
  | 4 => .object "TableStreams$Changes"
  | 5 => .object "TableStreams$Changes"
  | 6 => .object "TableStreams$Hosts"
  | 7 => .object "TableStreams$Progress"
  | 8 => .object "TableStreams$Progress"
  | 9 => .int
  | 10 => .int
  | _ => .int
abbrev wsX110 : List Cond := u_ws RX11 TX11 12
theorem nmX11 : ∀ a, a < 12 → ∀ b, b < 12 → a ≠ b → (TX11 a).2.1 ≠ (TX11 b).2.1 := by decide +kernel
theorem tyX11_ok : ∀ k, k < 12 → parseFieldDescriptor (TX11 k).2.2.1 = some (tyX11 k) := by decide +kernel
abbrev cX11_init : ByteArray := prog_1_method_1_code
def yX11_init : MethodName := ⟨RX11, "<init>", "()V"⟩
abbrev cX11_tell : ByteArray := prog_1_method_2_code
def yX11_tell : MethodName := ⟨RX11, "tell", "(IIII)I"⟩
abbrev cX11_feed : ByteArray := prog_1_method_3_code
def yX11_feed : MethodName := ⟨RX11, "feed", "(IIIII)I"⟩
abbrev cX11_end : ByteArray := prog_1_method_4_code
def yX11_end : MethodName := ⟨RX11, "end", "(I)I"⟩
abbrev cX11_tables : ByteArray := prog_1_method_5_code
def yX11_tables : MethodName := ⟨RX11, "tables", "()I"⟩
abbrev cX11_fault : ByteArray := prog_1_method_6_code
def yX11_fault : MethodName := ⟨RX11, "fault", "()I"⟩
abbrev cX11_late : ByteArray := prog_1_method_7_code
def yX11_late : MethodName := ⟨RX11, "late", "(I)I"⟩
abbrev cX11_read : ByteArray := prog_1_method_8_code
def yX11_read : MethodName := ⟨RX11, "read", "(I)I"⟩
abbrev cX11_mark : ByteArray := prog_1_method_9_code
def yX11_mark : MethodName := ⟨RX11, "mark", "()I"⟩
abbrev cX11_fall : ByteArray := prog_1_method_10_code
def yX11_fall : MethodName := ⟨RX11, "fall", "()I"⟩
abbrev cX11_rows : ByteArray := prog_1_method_11_code
def yX11_rows : MethodName := ⟨RX11, "rows", "(I)I"⟩
abbrev cX11_row : ByteArray := prog_1_method_12_code
def yX11_row : MethodName := ⟨RX11, "row", "(III)I"⟩
abbrev cX11_out : ByteArray := prog_1_method_13_code
def yX11_out : MethodName := ⟨RX11, "out", "(II)I"⟩
abbrev cX11_host : ByteArray := prog_1_method_14_code
def yX11_host : MethodName := ⟨RX11, "host", "(IZ)I"⟩
abbrev cX11_owner : ByteArray := prog_1_method_15_code
def yX11_owner : MethodName := ⟨RX11, "owner", "(I)I"⟩
abbrev cX11_owns : ByteArray := prog_1_method_16_code
def yX11_owns : MethodName := ⟨RX11, "owns", "(I)I"⟩
abbrev cX11_count : ByteArray := prog_1_method_17_code
def yX11_count : MethodName := ⟨RX11, "count", "(I)I"⟩
abbrev cX11_status : ByteArray := prog_1_method_18_code
def yX11_status : MethodName := ⟨RX11, "status", "()I"⟩
abbrev cX11_refuse : ByteArray := prog_1_method_19_code
def yX11_refuse : MethodName := ⟨RX11, "refuse", "(I)I"⟩
abbrev cX11_grant : ByteArray := prog_1_method_20_code
def yX11_grant : MethodName := ⟨RX11, "grant", "(I)I"⟩
abbrev cX11_beginAnew : ByteArray := prog_1_method_21_code
def yX11_beginAnew : MethodName := ⟨RX11, "beginAnew", "()V"⟩
abbrev cX11_readNext : ByteArray := prog_1_method_22_code
def yX11_readNext : MethodName := ⟨RX11, "readNext", "()Z"⟩
abbrev cX11_isWithin : ByteArray := prog_1_method_23_code
def yX11_isWithin : MethodName := ⟨RX11, "isWithin", "(III)Z"⟩
def RX12 : String := "TableStreamsModel"
def TX12 : u_T := fun k => match k with
  | 0 => ("TableStreamsModel", "thrown", "I", false)
  | 1 => ("TableStreamsModel", "status", "I", false)
  | 2 => ("TableStreamsModel", "logged", "I", false)
  | 3 => ("TableStreamsModel", "gSource", "[I", true)
  | 4 => ("TableStreamsModel", "gKey", "[I", true)
  | 5 => ("TableStreamsModel", "gValue", "[I", true)
  | 6 => ("TableStreamsModel", "gTime", "[I", true)
  | 7 => ("TableStreamsModel", "isLate", "[Z", true)
  | 8 => ("TableStreamsModel", "lateness", "I", false)
  | 9 => ("TableStreamsModel", "readMany", "I", false)
  | 10 => ("TableStreamsModel", "marked", "I", false)
  | 11 => ("TableStreamsModel", "tableMany", "I", false)
  | 12 => ("TableStreamsModel", "tKind", "[I", true)
  | 13 => ("TableStreamsModel", "tA", "[I", true)
  | 14 => ("TableStreamsModel", "tB", "[I", true)
  | 15 => ("TableStreamsModel", "tField", "[I", true)
  | 16 => ("TableStreamsModel", "tSign", "[I", true)
  | 17 => ("TableStreamsModel", "many", "[I", true)
  | 18 => ("TableStreamsModel", "keys", "[I", true)
  | 19 => ("TableStreamsModel", "values", "[I", true)
  | 20 => ("TableStreamsModel", "times", "[I", true)
  | 21 => ("TableStreamsModel", "nMany", "[I", true)
  | 22 => ("TableStreamsModel", "nKeys", "[I", true)
  | 23 => ("TableStreamsModel", "nValues", "[I", true)
  | 24 => ("TableStreamsModel", "nTimes", "[I", true)
  | 25 => ("TableStreamsModel", "full", "Z", false)
  | 26 => ("TableStreamsModel", "waiting", "I", false)
  | 27 => ("TableStreamsModel", "wKey", "[I", true)
  | 28 => ("TableStreamsModel", "wValue", "[I", true)
  | 29 => ("TableStreamsModel", "wTime", "[I", true)
  | 30 => ("TableStreamsModel", "wSign", "[I", true)
  | 31 => ("TableStreamsModel", "outMany", "I", false)
  | 32 => ("TableStreamsModel", "oKey", "[I", true)
  | 33 => ("TableStreamsModel", "oValue", "[I", true)
  | 34 => ("TableStreamsModel", "oTime", "[I", true)
  | 35 => ("TableStreamsModel", "oSign", "[I", true)
  | 36 => ("TableStreamsModel", "nTables", "I", false)
  | 37 => ("TableStreamsModel", "mKind", "[I", true)
  | 38 => ("TableStreamsModel", "mA", "[I", true)
  | 39 => ("TableStreamsModel", "mB", "[I", true)
  | 40 => ("TableStreamsModel", "mField", "[I", true)
  | 41 => ("TableStreamsModel", "mSign", "[I", true)
  | 42 => ("TableStreamsModel", "named", "[I", true)
  | 43 => ("TableStreamsModel", "tape", "[I", true)
  | 44 => ("TableStreamsModel", "taped", "I", false)
  | 45 => ("TableStreamsModel", "from", "I", false)
  | 46 => ("TableStreamsModel", "to", "I", false)
  | 47 => ("TableStreamsModel", "sort", "I", false)
  | 48 => ("TableStreamsModel", "worth", "J", false)
  | 49 => ("TableStreamsModel", "fault", "I", false)
  | 50 => ("TableStreamsModel", "bad", "Z", false)
  | _ => ("TableStreamsModel", "hosts", "I", false)
def tyX12 : Nat → FieldType := fun k => match k with
  | 0 => .int
  | 1 => .int
  | 2 => .int
  | 3 => .array .int
  | 4 => .array .int
  | 5 => .array .int
  | 6 => .array .int
  | 7 => .array .boolean
  | 8 => .int
  | 9 => .int
  | 10 => .int
  | 11 => .int
  | 12 => .array .int
  | 13 => .array .int
  | 14 => .array .int
  | 15 => .array .int
  | 16 => .array .int
  | 17 => .array .int
  | 18 => .array .int
  | 19 => .array .int
  | 20 => .array .int
  | 21 => .array .int
  | 22 => .array .int
  | 23 => .array .int
  | 24 => .array .int
  | 25 => .boolean
  | 26 => .int
  | 27 => .array .int
  | 28 => .array .int
  | 29 => .array .int
  | 30 => .array .int
  | 31 => .int
  | 32 => .array .int
  | 33 => .array .int
  | 34 => .array .int
  | 35 => .array .int
  | 36 => .int
  | 37 => .array .int
  | 38 => .array .int
  | 39 => .array .int
  | 40 => .array .int
  | 41 => .array .int
  | 42 => .array .int
  | 43 => .array .int
  | 44 => .int
  | 45 => .int
  | 46 => .int
  | 47 => .int
  | 48 => .long
  | 49 => .int
  | 50 => .boolean
  | _ => .int
abbrev wsX120 : List Cond := u_ws RX12 TX12 52
theorem nmX12 : ∀ a, a < 52 → ∀ b, b < 52 → a ≠ b → (TX12 a).2.1 ≠ (TX12 b).2.1 := by decide +kernel
theorem tyX12_ok : ∀ k, k < 52 → parseFieldDescriptor (TX12 k).2.2.1 = some (tyX12 k) := by decide +kernel
abbrev cX12_init : ByteArray := prog_14_method_1_code
def yX12_init : MethodName := ⟨RX12, "<init>", "()V"⟩
abbrev cX12_in : ByteArray := prog_14_method_3_code
def yX12_in : MethodName := ⟨RX12, "in", "(JJJ)Z"⟩
abbrev cX12_told : ByteArray := prog_14_method_4_code
def yX12_told : MethodName := ⟨RX12, "told", "(I)I"⟩
abbrev cX12_tell : ByteArray := prog_14_method_5_code
def yX12_tell : MethodName := ⟨RX12, "tell", "(IIII)I"⟩
abbrev cX12_latest : ByteArray := prog_14_method_6_code
def yX12_latest : MethodName := ⟨RX12, "latest", "(I)I"⟩
abbrev cX12_add : ByteArray := prog_14_method_7_code
def yX12_add : MethodName := ⟨RX12, "add", "(IIJI)V"⟩
abbrev cX12_isBefore : ByteArray := prog_14_method_8_code
def yX12_isBefore : MethodName := ⟨RX12, "isBefore", "(IIII)Z"⟩
abbrev cX12_make : ByteArray := prog_14_method_9_code
def yX12_make : MethodName := ⟨RX12, "make", "(II)V"⟩
abbrev cX12_makeEach : ByteArray := prog_14_method_10_code
def yX12_makeEach : MethodName := ⟨RX12, "makeEach", "(I)V"⟩
abbrev cX12_makeHeaps : ByteArray := prog_14_method_11_code
def yX12_makeHeaps : MethodName := ⟨RX12, "makeHeaps", "(I)V"⟩
abbrev cX12_makeOfTwo : ByteArray := prog_14_method_12_code
def yX12_makeOfTwo : MethodName := ⟨RX12, "makeOfTwo", "(I)V"⟩
abbrev cX12_makeAll : ByteArray := prog_14_method_13_code
def yX12_makeAll : MethodName := ⟨RX12, "makeAll", "(I)Z"⟩
abbrev cX12_keep : ByteArray := prog_14_method_14_code
def yX12_keep : MethodName := ⟨RX12, "keep", "()V"⟩
abbrev cX12_order : ByteArray := prog_14_method_15_code
def yX12_order : MethodName := ⟨RX12, "order", "(II)I"⟩
abbrev cX12_change : ByteArray := prog_14_method_16_code
def yX12_change : MethodName := ⟨RX12, "change", "(I)Z"⟩
abbrev cX12_readOne : ByteArray := prog_14_method_17_code
def yX12_readOne : MethodName := ⟨RX12, "readOne", "()Z"⟩
abbrev cX12_read : ByteArray := prog_14_method_18_code
def yX12_read : MethodName := ⟨RX12, "read", "(I)I"⟩
abbrev cX12_goTo : ByteArray := prog_14_method_19_code
def yX12_goTo : MethodName := ⟨RX12, "goTo", "(I)V"⟩
abbrev cX12_begin : ByteArray := prog_14_method_20_code
def yX12_begin : MethodName := ⟨RX12, "begin", "()V"⟩
abbrev cX12_mark : ByteArray := prog_14_method_21_code
def yX12_mark : MethodName := ⟨RX12, "mark", "()I"⟩
abbrev cX12_fall : ByteArray := prog_14_method_22_code
def yX12_fall : MethodName := ⟨RX12, "fall", "()I"⟩
abbrev cX12_late : ByteArray := prog_14_method_23_code
def yX12_late : MethodName := ⟨RX12, "late", "(I)I"⟩
abbrev cX12_four : ByteArray := prog_14_method_24_code
def yX12_four : MethodName := ⟨RX12, "four", "(I)V"⟩
abbrev cX12_feed : ByteArray := prog_14_method_25_code
def yX12_feed : MethodName := ⟨RX12, "feed", "(IIIII)I"⟩
abbrev cX12_end : ByteArray := prog_14_method_26_code
def yX12_end : MethodName := ⟨RX12, "end", "(I)I"⟩
abbrev cX12_isSmall : ByteArray := prog_14_method_27_code
def yX12_isSmall : MethodName := ⟨RX12, "isSmall", "(I)Z"⟩
abbrev cX12_isDigit : ByteArray := prog_14_method_28_code
def yX12_isDigit : MethodName := ⟨RX12, "isDigit", "(I)Z"⟩
abbrev cX12_next : ByteArray := prog_14_method_29_code
def yX12_next : MethodName := ⟨RX12, "next", "()V"⟩
abbrev cX12_isWord : ByteArray := prog_14_method_30_code
def yX12_isWord : MethodName := ⟨RX12, "isWord", "(IIIIII)Z"⟩
abbrev cX12_isSign : ByteArray := prog_14_method_31_code
def yX12_isSign : MethodName := ⟨RX12, "isSign", "(I)Z"⟩
abbrev cX12_must : ByteArray := prog_14_method_32_code
def yX12_must : MethodName := ⟨RX12, "must", "(Z)V"⟩
abbrev cX12_number : ByteArray := prog_14_method_33_code
def yX12_number : MethodName := ⟨RX12, "number", "(JJ)I"⟩
abbrev cX12_signed : ByteArray := prog_14_method_34_code
def yX12_signed : MethodName := ⟨RX12, "signed", "()I"⟩
abbrev cX12_isName : ByteArray := prog_14_method_35_code
def yX12_isName : MethodName := ⟨RX12, "isName", "()Z"⟩
abbrev cX12_name : ByteArray := prog_14_method_36_code
def yX12_name : MethodName := ⟨RX12, "name", "()I"⟩
abbrev cX12_kindAt : ByteArray := prog_14_method_37_code
def yX12_kindAt : MethodName := ⟨RX12, "kindAt", "()I"⟩
abbrev cX12_readTable : ByteArray := prog_14_method_38_code
def yX12_readTable : MethodName := ⟨RX12, "readTable", "()V"⟩
abbrev cX12_tables : ByteArray := prog_14_method_39_code
def yX12_tables : MethodName := ⟨RX12, "tables", "()I"⟩
abbrev cX12_fault : ByteArray := prog_14_method_40_code
def yX12_fault : MethodName := ⟨RX12, "fault", "()I"⟩
abbrev cX12_isTable : ByteArray := prog_14_method_41_code
def yX12_isTable : MethodName := ⟨RX12, "isTable", "(I)Z"⟩
abbrev cX12_rows : ByteArray := prog_14_method_42_code
def yX12_rows : MethodName := ⟨RX12, "rows", "(I)I"⟩
abbrev cX12_row : ByteArray := prog_14_method_43_code
def yX12_row : MethodName := ⟨RX12, "row", "(III)I"⟩
abbrev cX12_out : ByteArray := prog_14_method_44_code
def yX12_out : MethodName := ⟨RX12, "out", "(II)I"⟩
abbrev cX12_ownerBy : ByteArray := prog_14_method_45_code
def yX12_ownerBy : MethodName := ⟨RX12, "ownerBy", "(II)I"⟩
abbrev cX12_host : ByteArray := prog_14_method_46_code
def yX12_host : MethodName := ⟨RX12, "host", "(IZ)I"⟩
abbrev cX12_owner : ByteArray := prog_14_method_47_code
def yX12_owner : MethodName := ⟨RX12, "owner", "(I)I"⟩
abbrev cX12_owns : ByteArray := prog_14_method_48_code
def yX12_owns : MethodName := ⟨RX12, "owns", "(I)I"⟩
abbrev cX12_count : ByteArray := prog_14_method_49_code
def yX12_count : MethodName := ⟨RX12, "count", "(I)I"⟩
abbrev cX12_status : ByteArray := prog_14_method_50_code
def yX12_status : MethodName := ⟨RX12, "status", "()I"⟩
def RJ9 : String := "java/lang/Math"
abbrev cJ9_max_7cf53 : ByteArray := prog_15_method_65_code
def yJ9_max_7cf53 : MethodName := ⟨RJ9, "max", "(II)I"⟩
abbrev cJ9_min_7cf53 : ByteArray := prog_15_method_69_code
def yJ9_min_7cf53 : MethodName := ⟨RJ9, "min", "(II)I"⟩
def RJ0 : String := "java/lang/String"
abbrev cJ0_length_8abf5 : ByteArray := prog_16_method_54_code
def yJ0_length_8abf5 : MethodName := ⟨RJ0, "length", "()I"⟩
abbrev cJ0_charAt_5068e : ByteArray := prog_16_method_56_code
def yJ0_charAt_5068e : MethodName := ⟨RJ0, "charAt", "(I)C"⟩
abbrev cJ0_coder_7d493 : ByteArray := prog_16_method_152_code
def yJ0_coder_7d493 : MethodName := ⟨RJ0, "coder", "()B"⟩
abbrev cJ0_isLatin1_aae02 : ByteArray := prog_16_method_154_code
def yJ0_isLatin1_aae02 : MethodName := ⟨RJ0, "isLatin1", "()Z"⟩
abbrev cJ0_checkIndex_df160 : ByteArray := prog_16_method_155_code
def yJ0_checkIndex_df160 : MethodName := ⟨RJ0, "checkIndex", "(II)V"⟩
def RJ1 : String := "java/lang/StringLatin1"
abbrev cJ1_charAt_3b067 : ByteArray := prog_17_method_2_code
def yJ1_charAt_3b067 : MethodName := ⟨RJ1, "charAt", "([BI)C"⟩
def RJ2 : String := "java/lang/StringUTF16"
abbrev cJ2_getChar_3b067 : ByteArray := prog_18_method_5_code
def yJ2_getChar_3b067 : MethodName := ⟨RJ2, "getChar", "([BI)C"⟩
abbrev cJ2_length_9d52b : ByteArray := prog_18_method_6_code
def yJ2_length_9d52b : MethodName := ⟨RJ2, "length", "([B)I"⟩
abbrev cJ2_charAt_3b067 : ByteArray := prog_18_method_83_code
def yJ2_charAt_3b067 : MethodName := ⟨RJ2, "charAt", "([BI)C"⟩
abbrev cJ2_checkIndex_2214a : ByteArray := prog_18_method_91_code
def yJ2_checkIndex_2214a : MethodName := ⟨RJ2, "checkIndex", "(I[B)V"⟩
def RJ10 : String := "java/lang/System"
def RJ7 : String := "java/util/Arrays"
abbrev cJ7_fill_53178 : ByteArray := prog_20_method_103_code
def yJ7_fill_53178 : MethodName := ⟨RJ7, "fill", "([II)V"⟩
def RJ3 : String := "jdk/internal/util/Preconditions"
abbrev cJ3_checkIndex_8e157 : ByteArray := prog_21_method_11_code
def yJ3_checkIndex_8e157 : MethodName := ⟨RJ3, "checkIndex", "(IILjava/util/function/BiFunction;)I"⟩
def RL : String := "TableStreamsLaw"
abbrev cL_law : ByteArray := code
def yL_law : MethodName := ⟨RL, "law", "([I)Z"⟩
abbrev vwCl : List vw_C := [(RX0, TX0, 2), (RX1, TX1, 3), (RX2, TX2, 3), (RX3, TX3, 6), (RX4, TX4, 1), (RX5, TX5, 2), (RX6, TX6, 3), (RX8, TX8, 3), (RX9, TX9, 8), (RX10, TX10, 4), (RX11, TX11, 12), (RX12, TX12, 52)]
end
section
theorem dX0_init_0 : decode cX0_init 0 = .ok (.aload_n 0, 1) := by decide +kernel
theorem dX0_init_1 : decode cX0_init 1 = .ok (.invokespecial 3, 3) := by decide +kernel
theorem dX0_init_4 : decode cX0_init 4 = .ok (.aload_n 0, 1) := by decide +kernel
theorem dX0_init_5 : decode cX0_init 5 = .ok (.sipush 4000, 3) := by decide +kernel
theorem dX0_init_8 : decode cX0_init 8 = .ok (.newarray .long, 2) := by decide +kernel
theorem dX0_init_10 : decode cX0_init 10 = .ok (.putfield 9, 3) := by decide +kernel
theorem dX0_init_13 : decode cX0_init 13 = .ok (.return_, 1) := by decide +kernel
theorem dX0_clear_0 : decode cX0_clear 0 = .ok (.aload_n 0, 1) := by decide +kernel
theorem dX0_clear_1 : decode cX0_clear 1 = .ok (.iconst 0, 1) := by decide +kernel
theorem dX0_clear_2 : decode cX0_clear 2 = .ok (.putfield 15, 3) := by decide +kernel
theorem dX0_clear_5 : decode cX0_clear 5 = .ok (.return_, 1) := by decide +kernel
theorem dX0_size_0 : decode cX0_size 0 = .ok (.aload_n 0, 1) := by decide +kernel
theorem dX0_size_1 : decode cX0_size 1 = .ok (.getfield 15, 3) := by decide +kernel
theorem dX0_size_4 : decode cX0_size 4 = .ok (.ireturn, 1) := by decide +kernel
theorem dX0_partOf_0 : decode cX0_partOf 0 = .ok (.iload_n 1, 1) := by decide +kernel
theorem dX0_partOf_1 : decode cX0_partOf 1 = .ok (.iconst 0, 1) := by decide +kernel
theorem dX0_partOf_2 : decode cX0_partOf 2 = .ok (.aload_n 0, 1) := by decide +kernel
theorem dX0_partOf_3 : decode cX0_partOf 3 = .ok (.getfield 15, 3) := by decide +kernel
theorem dX0_partOf_6 : decode cX0_partOf 6 = .ok (.iconst 1, 1) := by decide +kernel
theorem dX0_partOf_7 : decode cX0_partOf 7 = .ok (.isub, 1) := by decide +kernel
theorem dX0_partOf_8 : decode cX0_partOf 8 = .ok (.invokestatic 19, 3) := by decide +kernel
theorem dX0_partOf_11 : decode cX0_partOf 11 = .ok (.ifCond .ne 6, 3) := by decide +kernel
theorem dX0_partOf_14 : decode cX0_partOf 14 = .ok (.ldc 23, 2) := by decide +kernel
theorem dX0_partOf_16 : decode cX0_partOf 16 = .ok (.ireturn, 1) := by decide +kernel
theorem dX0_partOf_17 : decode cX0_partOf 17 = .ok (.iload_n 2, 1) := by decide +kernel
theorem dX0_partOf_18 : decode cX0_partOf 18 = .ok (.iconst 3, 1) := by decide +kernel
theorem dX0_partOf_19 : decode cX0_partOf 19 = .ok (.if_icmp .ne 22, 3) := by decide +kernel
theorem dX0_partOf_22 : decode cX0_partOf 22 = .ok (.aload_n 0, 1) := by decide +kernel
theorem dX0_partOf_23 : decode cX0_partOf 23 = .ok (.getfield 9, 3) := by decide +kernel
theorem dX0_partOf_26 : decode cX0_partOf 26 = .ok (.iload_n 1, 1) := by decide +kernel
theorem dX0_partOf_27 : decode cX0_partOf 27 = .ok (.laload, 1) := by decide +kernel
theorem dX0_partOf_28 : decode cX0_partOf 28 = .ok (.lconst 1, 1) := by decide +kernel
theorem dX0_partOf_29 : decode cX0_partOf 29 = .ok (.land, 1) := by decide +kernel
theorem dX0_partOf_30 : decode cX0_partOf 30 = .ok (.lconst 1, 1) := by decide +kernel
theorem dX0_partOf_31 : decode cX0_partOf 31 = .ok (.lcmp, 1) := by decide +kernel
theorem dX0_partOf_32 : decode cX0_partOf 32 = .ok (.ifCond .ne 7, 3) := by decide +kernel
theorem dX0_partOf_35 : decode cX0_partOf 35 = .ok (.iconst 1, 1) := by decide +kernel
theorem dX0_partOf_36 : decode cX0_partOf 36 = .ok (.goto 4, 3) := by decide +kernel
theorem dX0_partOf_39 : decode cX0_partOf 39 = .ok (.iconst (-1), 1) := by decide +kernel
theorem dX0_partOf_40 : decode cX0_partOf 40 = .ok (.ireturn, 1) := by decide +kernel
theorem dX0_partOf_41 : decode cX0_partOf 41 = .ok (.aload_n 0, 1) := by decide +kernel
theorem dX0_partOf_42 : decode cX0_partOf 42 = .ok (.getfield 9, 3) := by decide +kernel
theorem dX0_partOf_45 : decode cX0_partOf 45 = .ok (.iload_n 1, 1) := by decide +kernel
theorem dX0_partOf_46 : decode cX0_partOf 46 = .ok (.laload, 1) := by decide +kernel
theorem dX0_partOf_47 : decode cX0_partOf 47 = .ok (.iconst 1, 1) := by decide +kernel
theorem dX0_partOf_48 : decode cX0_partOf 48 = .ok (.lushr, 1) := by decide +kernel
theorem dX0_partOf_49 : decode cX0_partOf 49 = .ok (.iload_n 2, 1) := by decide +kernel
theorem dX0_partOf_50 : decode cX0_partOf 50 = .ok (.invokestatic 24, 3) := by decide +kernel
theorem dX0_partOf_53 : decode cX0_partOf 53 = .ok (.ireturn, 1) := by decide +kernel
theorem dX0_addAll_0 : decode cX0_addAll 0 = .ok (.aload_n 0, 1) := by decide +kernel
theorem dX0_addAll_1 : decode cX0_addAll 1 = .ok (.getfield 15, 3) := by decide +kernel
theorem dX0_addAll_4 : decode cX0_addAll 4 = .ok (.aload_n 1, 1) := by decide +kernel
theorem dX0_addAll_5 : decode cX0_addAll 5 = .ok (.getfield 15, 3) := by decide +kernel
theorem dX0_addAll_8 : decode cX0_addAll 8 = .ok (.iadd, 1) := by decide +kernel
theorem dX0_addAll_9 : decode cX0_addAll 9 = .ok (.sipush 4000, 3) := by decide +kernel
theorem dX0_addAll_12 : decode cX0_addAll 12 = .ok (.if_icmp .le 5, 3) := by decide +kernel
theorem dX0_addAll_15 : decode cX0_addAll 15 = .ok (.iconst 0, 1) := by decide +kernel
theorem dX0_addAll_16 : decode cX0_addAll 16 = .ok (.ireturn, 1) := by decide +kernel
theorem dX0_addAll_17 : decode cX0_addAll 17 = .ok (.aload_n 1, 1) := by decide +kernel
theorem dX0_addAll_18 : decode cX0_addAll 18 = .ok (.getfield 9, 3) := by decide +kernel
theorem dX0_addAll_21 : decode cX0_addAll 21 = .ok (.iconst 0, 1) := by decide +kernel
theorem dX0_addAll_22 : decode cX0_addAll 22 = .ok (.aload_n 0, 1) := by decide +kernel
theorem dX0_addAll_23 : decode cX0_addAll 23 = .ok (.getfield 9, 3) := by decide +kernel
theorem dX0_addAll_26 : decode cX0_addAll 26 = .ok (.aload_n 0, 1) := by decide +kernel
theorem dX0_addAll_27 : decode cX0_addAll 27 = .ok (.getfield 15, 3) := by decide +kernel
theorem dX0_addAll_30 : decode cX0_addAll 30 = .ok (.aload_n 1, 1) := by decide +kernel
theorem dX0_addAll_31 : decode cX0_addAll 31 = .ok (.getfield 15, 3) := by decide +kernel
theorem dX0_addAll_34 : decode cX0_addAll 34 = .ok (.invokestatic 30, 3) := by decide +kernel
theorem dX0_addAll_37 : decode cX0_addAll 37 = .ok (.aload_n 0, 1) := by decide +kernel
theorem dX0_addAll_38 : decode cX0_addAll 38 = .ok (.dup, 1) := by decide +kernel
theorem dX0_addAll_39 : decode cX0_addAll 39 = .ok (.getfield 15, 3) := by decide +kernel
theorem dX0_addAll_42 : decode cX0_addAll 42 = .ok (.aload_n 1, 1) := by decide +kernel
theorem dX0_addAll_43 : decode cX0_addAll 43 = .ok (.getfield 15, 3) := by decide +kernel
theorem dX0_addAll_46 : decode cX0_addAll 46 = .ok (.iadd, 1) := by decide +kernel
theorem dX0_addAll_47 : decode cX0_addAll 47 = .ok (.putfield 15, 3) := by decide +kernel
theorem dX0_addAll_50 : decode cX0_addAll 50 = .ok (.iconst 1, 1) := by decide +kernel
theorem dX0_addAll_51 : decode cX0_addAll 51 = .ok (.ireturn, 1) := by decide +kernel
theorem dX0_addDifference_0 : decode cX0_addDifference 0 = .ok (.aload_n 0, 1) := by decide +kernel
theorem dX0_addDifference_1 : decode cX0_addDifference 1 = .ok (.getfield 15, 3) := by decide +kernel
theorem dX0_addDifference_4 : decode cX0_addDifference 4 = .ok (.istore_n 3, 1) := by decide +kernel
theorem dX0_addDifference_5 : decode cX0_addDifference 5 = .ok (.aload_n 0, 1) := by decide +kernel
theorem dX0_addDifference_6 : decode cX0_addDifference 6 = .ok (.aload_n 1, 1) := by decide +kernel
theorem dX0_addDifference_7 : decode cX0_addDifference 7 = .ok (.aload_n 2, 1) := by decide +kernel
theorem dX0_addDifference_8 : decode cX0_addDifference 8 = .ok (.iconst 0, 1) := by decide +kernel
theorem dX0_addDifference_9 : decode cX0_addDifference 9 = .ok (.invokevirtual 36, 3) := by decide +kernel
theorem dX0_addDifference_12 : decode cX0_addDifference 12 = .ok (.ifCond .eq 15, 3) := by decide +kernel
theorem dX0_addDifference_15 : decode cX0_addDifference 15 = .ok (.aload_n 0, 1) := by decide +kernel
theorem dX0_addDifference_16 : decode cX0_addDifference 16 = .ok (.aload_n 2, 1) := by decide +kernel
theorem dX0_addDifference_17 : decode cX0_addDifference 17 = .ok (.aload_n 1, 1) := by decide +kernel
theorem dX0_addDifference_18 : decode cX0_addDifference 18 = .ok (.iconst 1, 1) := by decide +kernel
theorem dX0_addDifference_19 : decode cX0_addDifference 19 = .ok (.invokevirtual 36, 3) := by decide +kernel
theorem dX0_addDifference_22 : decode cX0_addDifference 22 = .ok (.ifCond .eq 5, 3) := by decide +kernel
theorem dX0_addDifference_25 : decode cX0_addDifference 25 = .ok (.iconst 1, 1) := by decide +kernel
theorem dX0_addDifference_26 : decode cX0_addDifference 26 = .ok (.ireturn, 1) := by decide +kernel
theorem dX0_addDifference_27 : decode cX0_addDifference 27 = .ok (.aload_n 0, 1) := by decide +kernel
theorem dX0_addDifference_28 : decode cX0_addDifference 28 = .ok (.iload_n 3, 1) := by decide +kernel
theorem dX0_addDifference_29 : decode cX0_addDifference 29 = .ok (.putfield 15, 3) := by decide +kernel
theorem dX0_addDifference_32 : decode cX0_addDifference 32 = .ok (.iconst 0, 1) := by decide +kernel
theorem dX0_addDifference_33 : decode cX0_addDifference 33 = .ok (.ireturn, 1) := by decide +kernel
theorem dX0_addMissing_0 : decode cX0_addMissing 0 = .ok (.iconst 0, 1) := by decide +kernel
theorem dX0_addMissing_1 : decode cX0_addMissing 1 = .ok (.istore 4, 2) := by decide +kernel
theorem dX0_addMissing_3 : decode cX0_addMissing 3 = .ok (.iconst 0, 1) := by decide +kernel
theorem dX0_addMissing_4 : decode cX0_addMissing 4 = .ok (.istore 5, 2) := by decide +kernel
theorem dX0_addMissing_6 : decode cX0_addMissing 6 = .ok (.iload 5, 2) := by decide +kernel
theorem dX0_addMissing_8 : decode cX0_addMissing 8 = .ok (.aload_n 1, 1) := by decide +kernel
theorem dX0_addMissing_9 : decode cX0_addMissing 9 = .ok (.invokevirtual 40, 3) := by decide +kernel
theorem dX0_addMissing_12 : decode cX0_addMissing 12 = .ok (.if_icmp .ge 109, 3) := by decide +kernel
theorem dX0_addMissing_15 : decode cX0_addMissing 15 = .ok (.aload_n 1, 1) := by decide +kernel
theorem dX0_addMissing_16 : decode cX0_addMissing 16 = .ok (.iload 5, 2) := by decide +kernel
theorem dX0_addMissing_18 : decode cX0_addMissing 18 = .ok (.invokevirtual 45, 3) := by decide +kernel
theorem dX0_addMissing_21 : decode cX0_addMissing 21 = .ok (.lstore 6, 2) := by decide +kernel
theorem dX0_addMissing_23 : decode cX0_addMissing 23 = .ok (.iload 4, 2) := by decide +kernel
theorem dX0_addMissing_25 : decode cX0_addMissing 25 = .ok (.aload_n 2, 1) := by decide +kernel
theorem dX0_addMissing_26 : decode cX0_addMissing 26 = .ok (.invokevirtual 40, 3) := by decide +kernel
theorem dX0_addMissing_29 : decode cX0_addMissing 29 = .ok (.if_icmp .ge 21, 3) := by decide +kernel
theorem dX0_addMissing_32 : decode cX0_addMissing 32 = .ok (.aload_n 2, 1) := by decide +kernel
theorem dX0_addMissing_33 : decode cX0_addMissing 33 = .ok (.iload 4, 2) := by decide +kernel
theorem dX0_addMissing_35 : decode cX0_addMissing 35 = .ok (.invokevirtual 45, 3) := by decide +kernel
theorem dX0_addMissing_38 : decode cX0_addMissing 38 = .ok (.lload 6, 2) := by decide +kernel
theorem dX0_addMissing_40 : decode cX0_addMissing 40 = .ok (.lcmp, 1) := by decide +kernel
theorem dX0_addMissing_41 : decode cX0_addMissing 41 = .ok (.ifCond .ge 9, 3) := by decide +kernel
theorem dX0_addMissing_44 : decode cX0_addMissing 44 = .ok (.iinc 4 1, 3) := by decide +kernel
theorem dX0_addMissing_47 : decode cX0_addMissing 47 = .ok (.goto (-24), 3) := by decide +kernel
theorem dX0_addMissing_50 : decode cX0_addMissing 50 = .ok (.iload 4, 2) := by decide +kernel
theorem dX0_addMissing_52 : decode cX0_addMissing 52 = .ok (.aload_n 2, 1) := by decide +kernel
theorem dX0_addMissing_53 : decode cX0_addMissing 53 = .ok (.invokevirtual 40, 3) := by decide +kernel
theorem dX0_addMissing_56 : decode cX0_addMissing 56 = .ok (.if_icmp .ge 21, 3) := by decide +kernel
theorem dX0_addMissing_59 : decode cX0_addMissing 59 = .ok (.aload_n 2, 1) := by decide +kernel
theorem dX0_addMissing_60 : decode cX0_addMissing 60 = .ok (.iload 4, 2) := by decide +kernel
theorem dX0_addMissing_62 : decode cX0_addMissing 62 = .ok (.invokevirtual 45, 3) := by decide +kernel
theorem dX0_addMissing_65 : decode cX0_addMissing 65 = .ok (.lload 6, 2) := by decide +kernel
theorem dX0_addMissing_67 : decode cX0_addMissing 67 = .ok (.lcmp, 1) := by decide +kernel
theorem dX0_addMissing_68 : decode cX0_addMissing 68 = .ok (.ifCond .ne 9, 3) := by decide +kernel
theorem dX0_addMissing_71 : decode cX0_addMissing 71 = .ok (.iinc 4 1, 3) := by decide +kernel
theorem dX0_addMissing_74 : decode cX0_addMissing 74 = .ok (.goto 41, 3) := by decide +kernel
theorem dX0_addMissing_77 : decode cX0_addMissing 77 = .ok (.aload_n 0, 1) := by decide +kernel
theorem dX0_addMissing_78 : decode cX0_addMissing 78 = .ok (.getfield 15, 3) := by decide +kernel
theorem dX0_addMissing_81 : decode cX0_addMissing 81 = .ok (.sipush 4000, 3) := by decide +kernel
theorem dX0_addMissing_84 : decode cX0_addMissing 84 = .ok (.if_icmp .lt 5, 3) := by decide +kernel
theorem dX0_addMissing_87 : decode cX0_addMissing 87 = .ok (.iconst 0, 1) := by decide +kernel
theorem dX0_addMissing_88 : decode cX0_addMissing 88 = .ok (.ireturn, 1) := by decide +kernel
theorem dX0_addMissing_89 : decode cX0_addMissing 89 = .ok (.aload_n 0, 1) := by decide +kernel
theorem dX0_addMissing_90 : decode cX0_addMissing 90 = .ok (.getfield 9, 3) := by decide +kernel
theorem dX0_addMissing_93 : decode cX0_addMissing 93 = .ok (.aload_n 0, 1) := by decide +kernel
theorem dX0_addMissing_94 : decode cX0_addMissing 94 = .ok (.getfield 15, 3) := by decide +kernel
theorem dX0_addMissing_97 : decode cX0_addMissing 97 = .ok (.lload 6, 2) := by decide +kernel
theorem dX0_addMissing_99 : decode cX0_addMissing 99 = .ok (.iconst 1, 1) := by decide +kernel
theorem dX0_addMissing_100 : decode cX0_addMissing 100 = .ok (.lshl, 1) := by decide +kernel
theorem dX0_addMissing_101 : decode cX0_addMissing 101 = .ok (.iload_n 3, 1) := by decide +kernel
theorem dX0_addMissing_102 : decode cX0_addMissing 102 = .ok (.i2l, 1) := by decide +kernel
theorem dX0_addMissing_103 : decode cX0_addMissing 103 = .ok (.lor, 1) := by decide +kernel
theorem dX0_addMissing_104 : decode cX0_addMissing 104 = .ok (.lastore, 1) := by decide +kernel
theorem dX0_addMissing_105 : decode cX0_addMissing 105 = .ok (.aload_n 0, 1) := by decide +kernel
theorem dX0_addMissing_106 : decode cX0_addMissing 106 = .ok (.dup, 1) := by decide +kernel
theorem dX0_addMissing_107 : decode cX0_addMissing 107 = .ok (.getfield 15, 3) := by decide +kernel
theorem dX0_addMissing_110 : decode cX0_addMissing 110 = .ok (.iconst 1, 1) := by decide +kernel
theorem dX0_addMissing_111 : decode cX0_addMissing 111 = .ok (.iadd, 1) := by decide +kernel
theorem dX0_addMissing_112 : decode cX0_addMissing 112 = .ok (.putfield 15, 3) := by decide +kernel
theorem dX0_addMissing_115 : decode cX0_addMissing 115 = .ok (.iinc 5 1, 3) := by decide +kernel
theorem dX0_addMissing_118 : decode cX0_addMissing 118 = .ok (.goto (-112), 3) := by decide +kernel
theorem dX0_addMissing_121 : decode cX0_addMissing 121 = .ok (.iconst 1, 1) := by decide +kernel
theorem dX0_addMissing_122 : decode cX0_addMissing 122 = .ok (.ireturn, 1) := by decide +kernel
theorem dX1_init_0 : decode cX1_init 0 = .ok (.aload_n 0, 1) := by decide +kernel
theorem dX1_init_1 : decode cX1_init 1 = .ok (.invokespecial 3, 3) := by decide +kernel
theorem dX1_init_4 : decode cX1_init 4 = .ok (.aload_n 0, 1) := by decide +kernel
theorem dX1_init_5 : decode cX1_init 5 = .ok (.bipush 8, 2) := by decide +kernel
theorem dX1_init_7 : decode cX1_init 7 = .ok (.newarray .boolean, 2) := by decide +kernel
theorem dX1_init_9 : decode cX1_init 9 = .ok (.putfield 9, 3) := by decide +kernel
theorem dX1_init_12 : decode cX1_init 12 = .ok (.aload_n 0, 1) := by decide +kernel
theorem dX1_init_13 : decode cX1_init 13 = .ok (.getfield 9, 3) := by decide +kernel
theorem dX1_init_16 : decode cX1_init 16 = .ok (.iconst 0, 1) := by decide +kernel
theorem dX1_init_17 : decode cX1_init 17 = .ok (.iconst 1, 1) := by decide +kernel
theorem dX1_init_18 : decode cX1_init 18 = .ok (.bastore, 1) := by decide +kernel
theorem dX1_init_19 : decode cX1_init 19 = .ok (.aload_n 0, 1) := by decide +kernel
theorem dX1_init_20 : decode cX1_init 20 = .ok (.iconst 1, 1) := by decide +kernel
theorem dX1_init_21 : decode cX1_init 21 = .ok (.putfield 15, 3) := by decide +kernel
theorem dX1_init_24 : decode cX1_init 24 = .ok (.aload_n 0, 1) := by decide +kernel
theorem dX1_init_25 : decode cX1_init 25 = .ok (.bipush 32, 2) := by decide +kernel
theorem dX1_init_27 : decode cX1_init 27 = .ok (.newarray .int, 2) := by decide +kernel
theorem dX1_init_29 : decode cX1_init 29 = .ok (.putfield 19, 3) := by decide +kernel
theorem dX1_init_32 : decode cX1_init 32 = .ok (.return_, 1) := by decide +kernel
theorem dX1_size_0 : decode cX1_size 0 = .ok (.aload_n 0, 1) := by decide +kernel
theorem dX1_size_1 : decode cX1_size 1 = .ok (.getfield 15, 3) := by decide +kernel
theorem dX1_size_4 : decode cX1_size 4 = .ok (.ireturn, 1) := by decide +kernel
theorem dX1_has_0 : decode cX1_has 0 = .ok (.iload_n 1, 1) := by decide +kernel
theorem dX1_has_1 : decode cX1_has 1 = .ok (.iconst 0, 1) := by decide +kernel
theorem dX1_has_2 : decode cX1_has 2 = .ok (.bipush 7, 2) := by decide +kernel
theorem dX1_has_4 : decode cX1_has 4 = .ok (.invokestatic 23, 3) := by decide +kernel
theorem dX1_has_7 : decode cX1_has 7 = .ok (.ifCond .eq 16, 3) := by decide +kernel
theorem dX1_has_10 : decode cX1_has 10 = .ok (.aload_n 0, 1) := by decide +kernel
theorem dX1_has_11 : decode cX1_has 11 = .ok (.getfield 9, 3) := by decide +kernel
theorem dX1_has_14 : decode cX1_has 14 = .ok (.iload_n 1, 1) := by decide +kernel
theorem dX1_has_15 : decode cX1_has 15 = .ok (.baload, 1) := by decide +kernel
theorem dX1_has_16 : decode cX1_has 16 = .ok (.ifCond .eq 7, 3) := by decide +kernel
theorem dX1_has_19 : decode cX1_has 19 = .ok (.iconst 1, 1) := by decide +kernel
theorem dX1_has_20 : decode cX1_has 20 = .ok (.goto 4, 3) := by decide +kernel
theorem dX1_has_23 : decode cX1_has 23 = .ok (.iconst 0, 1) := by decide +kernel
theorem dX1_has_24 : decode cX1_has 24 = .ok (.ireturn, 1) := by decide +kernel
theorem dX1_ownerOf_0 : decode cX1_ownerOf 0 = .ok (.iload_n 1, 1) := by decide +kernel
theorem dX1_ownerOf_1 : decode cX1_ownerOf 1 = .ok (.iconst 0, 1) := by decide +kernel
theorem dX1_ownerOf_2 : decode cX1_ownerOf 2 = .ok (.bipush 31, 2) := by decide +kernel
theorem dX1_ownerOf_4 : decode cX1_ownerOf 4 = .ok (.invokestatic 23, 3) := by decide +kernel
theorem dX1_ownerOf_7 : decode cX1_ownerOf 7 = .ok (.ifCond .eq 12, 3) := by decide +kernel
theorem dX1_ownerOf_10 : decode cX1_ownerOf 10 = .ok (.aload_n 0, 1) := by decide +kernel
theorem dX1_ownerOf_11 : decode cX1_ownerOf 11 = .ok (.getfield 19, 3) := by decide +kernel
theorem dX1_ownerOf_14 : decode cX1_ownerOf 14 = .ok (.iload_n 1, 1) := by decide +kernel
theorem dX1_ownerOf_15 : decode cX1_ownerOf 15 = .ok (.iaload, 1) := by decide +kernel
theorem dX1_ownerOf_16 : decode cX1_ownerOf 16 = .ok (.goto 4, 3) := by decide +kernel
theorem dX1_ownerOf_19 : decode cX1_ownerOf 19 = .ok (.iconst (-1), 1) := by decide +kernel
theorem dX1_ownerOf_20 : decode cX1_ownerOf 20 = .ok (.ireturn, 1) := by decide +kernel
theorem dX1_keysOf_0 : decode cX1_keysOf 0 = .ok (.iconst 0, 1) := by decide +kernel
theorem dX1_keysOf_1 : decode cX1_keysOf 1 = .ok (.istore_n 2, 1) := by decide +kernel
theorem dX1_keysOf_2 : decode cX1_keysOf 2 = .ok (.iconst 0, 1) := by decide +kernel
theorem dX1_keysOf_3 : decode cX1_keysOf 3 = .ok (.istore_n 3, 1) := by decide +kernel
theorem dX1_keysOf_4 : decode cX1_keysOf 4 = .ok (.iload_n 3, 1) := by decide +kernel
theorem dX1_keysOf_5 : decode cX1_keysOf 5 = .ok (.bipush 32, 2) := by decide +kernel
theorem dX1_keysOf_7 : decode cX1_keysOf 7 = .ok (.if_icmp .ge 25, 3) := by decide +kernel
theorem dX1_keysOf_10 : decode cX1_keysOf 10 = .ok (.aload_n 0, 1) := by decide +kernel
theorem dX1_keysOf_11 : decode cX1_keysOf 11 = .ok (.getfield 19, 3) := by decide +kernel
theorem dX1_keysOf_14 : decode cX1_keysOf 14 = .ok (.iload_n 3, 1) := by decide +kernel
theorem dX1_keysOf_15 : decode cX1_keysOf 15 = .ok (.iaload, 1) := by decide +kernel
theorem dX1_keysOf_16 : decode cX1_keysOf 16 = .ok (.iload_n 1, 1) := by decide +kernel
theorem dX1_keysOf_17 : decode cX1_keysOf 17 = .ok (.if_icmp .ne 9, 3) := by decide +kernel
theorem dX1_keysOf_20 : decode cX1_keysOf 20 = .ok (.iload_n 2, 1) := by decide +kernel
theorem dX1_keysOf_21 : decode cX1_keysOf 21 = .ok (.iconst 1, 1) := by decide +kernel
theorem dX1_keysOf_22 : decode cX1_keysOf 22 = .ok (.iload_n 3, 1) := by decide +kernel
theorem dX1_keysOf_23 : decode cX1_keysOf 23 = .ok (.ishl, 1) := by decide +kernel
theorem dX1_keysOf_24 : decode cX1_keysOf 24 = .ok (.ior, 1) := by decide +kernel
theorem dX1_keysOf_25 : decode cX1_keysOf 25 = .ok (.istore_n 2, 1) := by decide +kernel
theorem dX1_keysOf_26 : decode cX1_keysOf 26 = .ok (.iinc 3 1, 3) := by decide +kernel
theorem dX1_keysOf_29 : decode cX1_keysOf 29 = .ok (.goto (-25), 3) := by decide +kernel
theorem dX1_keysOf_32 : decode cX1_keysOf 32 = .ok (.iload_n 2, 1) := by decide +kernel
theorem dX1_keysOf_33 : decode cX1_keysOf 33 = .ok (.ireturn, 1) := by decide +kernel
theorem dX1_change_0 : decode cX1_change 0 = .ok (.iload_n 1, 1) := by decide +kernel
theorem dX1_change_1 : decode cX1_change 1 = .ok (.iconst 0, 1) := by decide +kernel
theorem dX1_change_2 : decode cX1_change 2 = .ok (.bipush 7, 2) := by decide +kernel
theorem dX1_change_4 : decode cX1_change 4 = .ok (.invokestatic 23, 3) := by decide +kernel
theorem dX1_change_7 : decode cX1_change 7 = .ok (.ifCond .eq 13, 3) := by decide +kernel
theorem dX1_change_10 : decode cX1_change 10 = .ok (.aload_n 0, 1) := by decide +kernel
theorem dX1_change_11 : decode cX1_change 11 = .ok (.getfield 9, 3) := by decide +kernel
theorem dX1_change_14 : decode cX1_change 14 = .ok (.iload_n 1, 1) := by decide +kernel
theorem dX1_change_15 : decode cX1_change 15 = .ok (.baload, 1) := by decide +kernel
theorem dX1_change_16 : decode cX1_change 16 = .ok (.iload_n 2, 1) := by decide +kernel
theorem dX1_change_17 : decode cX1_change 17 = .ok (.if_icmp .ne 5, 3) := by decide +kernel
theorem dX1_change_20 : decode cX1_change 20 = .ok (.iconst 0, 1) := by decide +kernel
theorem dX1_change_21 : decode cX1_change 21 = .ok (.ireturn, 1) := by decide +kernel
theorem dX1_change_22 : decode cX1_change 22 = .ok (.aload_n 0, 1) := by decide +kernel
theorem dX1_change_23 : decode cX1_change 23 = .ok (.getfield 9, 3) := by decide +kernel
theorem dX1_change_26 : decode cX1_change 26 = .ok (.iload_n 1, 1) := by decide +kernel
theorem dX1_change_27 : decode cX1_change 27 = .ok (.iload_n 2, 1) := by decide +kernel
theorem dX1_change_28 : decode cX1_change 28 = .ok (.bastore, 1) := by decide +kernel
theorem dX1_change_29 : decode cX1_change 29 = .ok (.aload_n 0, 1) := by decide +kernel
theorem dX1_change_30 : decode cX1_change 30 = .ok (.dup, 1) := by decide +kernel
theorem dX1_change_31 : decode cX1_change 31 = .ok (.getfield 15, 3) := by decide +kernel
theorem dX1_change_34 : decode cX1_change 34 = .ok (.iload_n 2, 1) := by decide +kernel
theorem dX1_change_35 : decode cX1_change 35 = .ok (.ifCond .eq 7, 3) := by decide +kernel
theorem dX1_change_38 : decode cX1_change 38 = .ok (.iconst 1, 1) := by decide +kernel
theorem dX1_change_39 : decode cX1_change 39 = .ok (.goto 4, 3) := by decide +kernel
theorem dX1_change_42 : decode cX1_change 42 = .ok (.iconst (-1), 1) := by decide +kernel
theorem dX1_change_43 : decode cX1_change 43 = .ok (.iadd, 1) := by decide +kernel
theorem dX1_change_44 : decode cX1_change 44 = .ok (.putfield 15, 3) := by decide +kernel
theorem dX1_change_47 : decode cX1_change 47 = .ok (.iconst 0, 1) := by decide +kernel
theorem dX1_change_48 : decode cX1_change 48 = .ok (.istore_n 3, 1) := by decide +kernel
theorem dX1_change_49 : decode cX1_change 49 = .ok (.iconst 0, 1) := by decide +kernel
theorem dX1_change_50 : decode cX1_change 50 = .ok (.istore 4, 2) := by decide +kernel
theorem dX1_change_52 : decode cX1_change 52 = .ok (.iload 4, 2) := by decide +kernel
theorem dX1_change_54 : decode cX1_change 54 = .ok (.bipush 32, 2) := by decide +kernel
theorem dX1_change_56 : decode cX1_change 56 = .ok (.if_icmp .ge 45, 3) := by decide +kernel
theorem dX1_change_59 : decode cX1_change 59 = .ok (.aload_n 0, 1) := by decide +kernel
theorem dX1_change_60 : decode cX1_change 60 = .ok (.iload 4, 2) := by decide +kernel
theorem dX1_change_62 : decode cX1_change 62 = .ok (.invokevirtual 27, 3) := by decide +kernel
theorem dX1_change_65 : decode cX1_change 65 = .ok (.istore 5, 2) := by decide +kernel
theorem dX1_change_67 : decode cX1_change 67 = .ok (.iload 5, 2) := by decide +kernel
theorem dX1_change_69 : decode cX1_change 69 = .ok (.aload_n 0, 1) := by decide +kernel
theorem dX1_change_70 : decode cX1_change 70 = .ok (.getfield 19, 3) := by decide +kernel
theorem dX1_change_73 : decode cX1_change 73 = .ok (.iload 4, 2) := by decide +kernel
theorem dX1_change_75 : decode cX1_change 75 = .ok (.iaload, 1) := by decide +kernel
theorem dX1_change_76 : decode cX1_change 76 = .ok (.if_icmp .eq 19, 3) := by decide +kernel
theorem dX1_change_79 : decode cX1_change 79 = .ok (.aload_n 0, 1) := by decide +kernel
theorem dX1_change_80 : decode cX1_change 80 = .ok (.getfield 19, 3) := by decide +kernel
theorem dX1_change_83 : decode cX1_change 83 = .ok (.iload 4, 2) := by decide +kernel
theorem dX1_change_85 : decode cX1_change 85 = .ok (.iload 5, 2) := by decide +kernel
theorem dX1_change_87 : decode cX1_change 87 = .ok (.iastore, 1) := by decide +kernel
theorem dX1_change_88 : decode cX1_change 88 = .ok (.iload_n 3, 1) := by decide +kernel
theorem dX1_change_89 : decode cX1_change 89 = .ok (.iconst 1, 1) := by decide +kernel
theorem dX1_change_90 : decode cX1_change 90 = .ok (.iload 4, 2) := by decide +kernel
theorem dX1_change_92 : decode cX1_change 92 = .ok (.ishl, 1) := by decide +kernel
theorem dX1_change_93 : decode cX1_change 93 = .ok (.ior, 1) := by decide +kernel
theorem dX1_change_94 : decode cX1_change 94 = .ok (.istore_n 3, 1) := by decide +kernel
theorem dX1_change_95 : decode cX1_change 95 = .ok (.iinc 4 1, 3) := by decide +kernel
theorem dX1_change_98 : decode cX1_change 98 = .ok (.goto (-46), 3) := by decide +kernel
theorem dX1_change_101 : decode cX1_change 101 = .ok (.iload_n 3, 1) := by decide +kernel
theorem dX1_change_102 : decode cX1_change 102 = .ok (.ireturn, 1) := by decide +kernel
theorem dX1_choose_0 : decode cX1_choose 0 = .ok (.iconst (-1), 1) := by decide +kernel
theorem dX1_choose_1 : decode cX1_choose 1 = .ok (.istore_n 2, 1) := by decide +kernel
theorem dX1_choose_2 : decode cX1_choose 2 = .ok (.iconst (-1), 1) := by decide +kernel
theorem dX1_choose_3 : decode cX1_choose 3 = .ok (.istore_n 3, 1) := by decide +kernel
theorem dX1_choose_4 : decode cX1_choose 4 = .ok (.iconst 0, 1) := by decide +kernel
theorem dX1_choose_5 : decode cX1_choose 5 = .ok (.istore 4, 2) := by decide +kernel
theorem dX1_choose_7 : decode cX1_choose 7 = .ok (.iload 4, 2) := by decide +kernel
theorem dX1_choose_9 : decode cX1_choose 9 = .ok (.bipush 8, 2) := by decide +kernel
theorem dX1_choose_11 : decode cX1_choose 11 = .ok (.if_icmp .ge 46, 3) := by decide +kernel
theorem dX1_choose_14 : decode cX1_choose 14 = .ok (.iload_n 1, 1) := by decide +kernel
theorem dX1_choose_15 : decode cX1_choose 15 = .ok (.iconst 1, 1) := by decide +kernel
theorem dX1_choose_16 : decode cX1_choose 16 = .ok (.iadd, 1) := by decide +kernel
theorem dX1_choose_17 : decode cX1_choose 17 = .ok (.iconst 2, 1) := by decide +kernel
theorem dX1_choose_18 : decode cX1_choose 18 = .ok (.iload 4, 2) := by decide +kernel
theorem dX1_choose_20 : decode cX1_choose 20 = .ok (.imul, 1) := by decide +kernel
theorem dX1_choose_21 : decode cX1_choose 21 = .ok (.iconst 3, 1) := by decide +kernel
theorem dX1_choose_22 : decode cX1_choose 22 = .ok (.iadd, 1) := by decide +kernel
theorem dX1_choose_23 : decode cX1_choose 23 = .ok (.imul, 1) := by decide +kernel
theorem dX1_choose_24 : decode cX1_choose 24 = .ok (.bipush 97, 2) := by decide +kernel
theorem dX1_choose_26 : decode cX1_choose 26 = .ok (.irem, 1) := by decide +kernel
theorem dX1_choose_27 : decode cX1_choose 27 = .ok (.istore 5, 2) := by decide +kernel
theorem dX1_choose_29 : decode cX1_choose 29 = .ok (.aload_n 0, 1) := by decide +kernel
theorem dX1_choose_30 : decode cX1_choose 30 = .ok (.getfield 9, 3) := by decide +kernel
theorem dX1_choose_33 : decode cX1_choose 33 = .ok (.iload 4, 2) := by decide +kernel
theorem dX1_choose_35 : decode cX1_choose 35 = .ok (.baload, 1) := by decide +kernel
theorem dX1_choose_36 : decode cX1_choose 36 = .ok (.ifCond .eq 15, 3) := by decide +kernel
theorem dX1_choose_39 : decode cX1_choose 39 = .ok (.iload 5, 2) := by decide +kernel
theorem dX1_choose_41 : decode cX1_choose 41 = .ok (.iload_n 3, 1) := by decide +kernel
theorem dX1_choose_42 : decode cX1_choose 42 = .ok (.if_icmp .le 9, 3) := by decide +kernel
theorem dX1_choose_45 : decode cX1_choose 45 = .ok (.iload 4, 2) := by decide +kernel
theorem dX1_choose_47 : decode cX1_choose 47 = .ok (.istore_n 2, 1) := by decide +kernel
theorem dX1_choose_48 : decode cX1_choose 48 = .ok (.iload 5, 2) := by decide +kernel
theorem dX1_choose_50 : decode cX1_choose 50 = .ok (.istore_n 3, 1) := by decide +kernel
theorem dX1_choose_51 : decode cX1_choose 51 = .ok (.iinc 4 1, 3) := by decide +kernel
theorem dX1_choose_54 : decode cX1_choose 54 = .ok (.goto (-47), 3) := by decide +kernel
theorem dX1_choose_57 : decode cX1_choose 57 = .ok (.iload_n 2, 1) := by decide +kernel
theorem dX1_choose_58 : decode cX1_choose 58 = .ok (.ireturn, 1) := by decide +kernel
theorem dX2_init_0 : decode cX2_init 0 = .ok (.aload_n 0, 1) := by decide +kernel
theorem dX2_init_1 : decode cX2_init 1 = .ok (.invokespecial 3, 3) := by decide +kernel
theorem dX2_init_4 : decode cX2_init 4 = .ok (.aload_n 0, 1) := by decide +kernel
theorem dX2_init_5 : decode cX2_init 5 = .ok (.sipush 150, 3) := by decide +kernel
theorem dX2_init_8 : decode cX2_init 8 = .ok (.newarray .int, 2) := by decide +kernel
theorem dX2_init_10 : decode cX2_init 10 = .ok (.putfield 9, 3) := by decide +kernel
theorem dX2_init_13 : decode cX2_init 13 = .ok (.aload_n 0, 1) := by decide +kernel
theorem dX2_init_14 : decode cX2_init 14 = .ok (.sipush 150, 3) := by decide +kernel
theorem dX2_init_17 : decode cX2_init 17 = .ok (.newarray .long, 2) := by decide +kernel
theorem dX2_init_19 : decode cX2_init 19 = .ok (.putfield 15, 3) := by decide +kernel
theorem dX2_init_22 : decode cX2_init 22 = .ok (.return_, 1) := by decide +kernel
theorem dX2_size_0 : decode cX2_size 0 = .ok (.aload_n 0, 1) := by decide +kernel
theorem dX2_size_1 : decode cX2_size 1 = .ok (.getfield 19, 3) := by decide +kernel
theorem dX2_size_4 : decode cX2_size 4 = .ok (.ireturn, 1) := by decide +kernel
theorem dX2_add_0 : decode cX2_add 0 = .ok (.aload_n 0, 1) := by decide +kernel
theorem dX2_add_1 : decode cX2_add 1 = .ok (.getfield 19, 3) := by decide +kernel
theorem dX2_add_4 : decode cX2_add 4 = .ok (.sipush 150, 3) := by decide +kernel
theorem dX2_add_7 : decode cX2_add 7 = .ok (.if_icmp .lt 5, 3) := by decide +kernel
theorem dX2_add_10 : decode cX2_add 10 = .ok (.iconst 0, 1) := by decide +kernel
theorem dX2_add_11 : decode cX2_add 11 = .ok (.ireturn, 1) := by decide +kernel
theorem dX2_add_12 : decode cX2_add 12 = .ok (.aload_n 0, 1) := by decide +kernel
theorem dX2_add_13 : decode cX2_add 13 = .ok (.getfield 9, 3) := by decide +kernel
theorem dX2_add_16 : decode cX2_add 16 = .ok (.aload_n 0, 1) := by decide +kernel
theorem dX2_add_17 : decode cX2_add 17 = .ok (.getfield 19, 3) := by decide +kernel
theorem dX2_add_20 : decode cX2_add 20 = .ok (.iload_n 1, 1) := by decide +kernel
theorem dX2_add_21 : decode cX2_add 21 = .ok (.iastore, 1) := by decide +kernel
theorem dX2_add_22 : decode cX2_add 22 = .ok (.aload_n 0, 1) := by decide +kernel
theorem dX2_add_23 : decode cX2_add 23 = .ok (.getfield 15, 3) := by decide +kernel
theorem dX2_add_26 : decode cX2_add 26 = .ok (.aload_n 0, 1) := by decide +kernel
theorem dX2_add_27 : decode cX2_add 27 = .ok (.getfield 19, 3) := by decide +kernel
theorem dX2_add_30 : decode cX2_add 30 = .ok (.lload_n 2, 1) := by decide +kernel
theorem dX2_add_31 : decode cX2_add 31 = .ok (.lastore, 1) := by decide +kernel
theorem dX2_add_32 : decode cX2_add 32 = .ok (.aload_n 0, 1) := by decide +kernel
theorem dX2_add_33 : decode cX2_add 33 = .ok (.dup, 1) := by decide +kernel
theorem dX2_add_34 : decode cX2_add 34 = .ok (.getfield 19, 3) := by decide +kernel
theorem dX2_add_37 : decode cX2_add 37 = .ok (.iconst 1, 1) := by decide +kernel
theorem dX2_add_38 : decode cX2_add 38 = .ok (.iadd, 1) := by decide +kernel
theorem dX2_add_39 : decode cX2_add 39 = .ok (.putfield 19, 3) := by decide +kernel
theorem dX2_add_42 : decode cX2_add 42 = .ok (.iconst 1, 1) := by decide +kernel
theorem dX2_add_43 : decode cX2_add 43 = .ok (.ireturn, 1) := by decide +kernel
theorem dX2_sourceAt_0 : decode cX2_sourceAt 0 = .ok (.iload_n 1, 1) := by decide +kernel
theorem dX2_sourceAt_1 : decode cX2_sourceAt 1 = .ok (.iconst 0, 1) := by decide +kernel
theorem dX2_sourceAt_2 : decode cX2_sourceAt 2 = .ok (.aload_n 0, 1) := by decide +kernel
theorem dX2_sourceAt_3 : decode cX2_sourceAt 3 = .ok (.getfield 19, 3) := by decide +kernel
theorem dX2_sourceAt_6 : decode cX2_sourceAt 6 = .ok (.iconst 1, 1) := by decide +kernel
theorem dX2_sourceAt_7 : decode cX2_sourceAt 7 = .ok (.isub, 1) := by decide +kernel
theorem dX2_sourceAt_8 : decode cX2_sourceAt 8 = .ok (.invokestatic 23, 3) := by decide +kernel
theorem dX2_sourceAt_11 : decode cX2_sourceAt 11 = .ok (.ifCond .eq 12, 3) := by decide +kernel
theorem dX2_sourceAt_14 : decode cX2_sourceAt 14 = .ok (.aload_n 0, 1) := by decide +kernel
theorem dX2_sourceAt_15 : decode cX2_sourceAt 15 = .ok (.getfield 9, 3) := by decide +kernel
theorem dX2_sourceAt_18 : decode cX2_sourceAt 18 = .ok (.iload_n 1, 1) := by decide +kernel
theorem dX2_sourceAt_19 : decode cX2_sourceAt 19 = .ok (.iaload, 1) := by decide +kernel
theorem dX2_sourceAt_20 : decode cX2_sourceAt 20 = .ok (.goto 4, 3) := by decide +kernel
theorem dX2_sourceAt_23 : decode cX2_sourceAt 23 = .ok (.iconst (-1), 1) := by decide +kernel
theorem dX2_sourceAt_24 : decode cX2_sourceAt 24 = .ok (.ireturn, 1) := by decide +kernel
theorem dX2_rowAt_0 : decode cX2_rowAt 0 = .ok (.iload_n 1, 1) := by decide +kernel
theorem dX2_rowAt_1 : decode cX2_rowAt 1 = .ok (.iconst 0, 1) := by decide +kernel
theorem dX2_rowAt_2 : decode cX2_rowAt 2 = .ok (.aload_n 0, 1) := by decide +kernel
theorem dX2_rowAt_3 : decode cX2_rowAt 3 = .ok (.getfield 19, 3) := by decide +kernel
theorem dX2_rowAt_6 : decode cX2_rowAt 6 = .ok (.iconst 1, 1) := by decide +kernel
theorem dX2_rowAt_7 : decode cX2_rowAt 7 = .ok (.isub, 1) := by decide +kernel
theorem dX2_rowAt_8 : decode cX2_rowAt 8 = .ok (.invokestatic 23, 3) := by decide +kernel
theorem dX2_rowAt_11 : decode cX2_rowAt 11 = .ok (.ifCond .eq 12, 3) := by decide +kernel
theorem dX2_rowAt_14 : decode cX2_rowAt 14 = .ok (.aload_n 0, 1) := by decide +kernel
theorem dX2_rowAt_15 : decode cX2_rowAt 15 = .ok (.getfield 15, 3) := by decide +kernel
theorem dX2_rowAt_18 : decode cX2_rowAt 18 = .ok (.iload_n 1, 1) := by decide +kernel
theorem dX2_rowAt_19 : decode cX2_rowAt 19 = .ok (.laload, 1) := by decide +kernel
theorem dX2_rowAt_20 : decode cX2_rowAt 20 = .ok (.goto 4, 3) := by decide +kernel
theorem dX2_rowAt_23 : decode cX2_rowAt 23 = .ok (.lconst 0, 1) := by decide +kernel
theorem dX2_rowAt_24 : decode cX2_rowAt 24 = .ok (.lreturn, 1) := by decide +kernel
theorem dX3_init_0 : decode cX3_init 0 = .ok (.aload_n 0, 1) := by decide +kernel
theorem dX3_init_1 : decode cX3_init 1 = .ok (.invokespecial 3, 3) := by decide +kernel
theorem dX3_init_4 : decode cX3_init 4 = .ok (.return_, 1) := by decide +kernel
theorem dX3_clear_0 : decode cX3_clear 0 = .ok (.aload_n 0, 1) := by decide +kernel
theorem dX3_clear_1 : decode cX3_clear 1 = .ok (.iconst 0, 1) := by decide +kernel
theorem dX3_clear_2 : decode cX3_clear 2 = .ok (.putfield 9, 3) := by decide +kernel
theorem dX3_clear_5 : decode cX3_clear 5 = .ok (.aload_n 0, 1) := by decide +kernel
theorem dX3_clear_6 : decode cX3_clear 6 = .ok (.iconst (-1), 1) := by decide +kernel
theorem dX3_clear_7 : decode cX3_clear 7 = .ok (.putfield 15, 3) := by decide +kernel
theorem dX3_clear_10 : decode cX3_clear 10 = .ok (.aload_n 0, 1) := by decide +kernel
theorem dX3_clear_11 : decode cX3_clear 11 = .ok (.iconst (-1), 1) := by decide +kernel
theorem dX3_clear_12 : decode cX3_clear 12 = .ok (.putfield 18, 3) := by decide +kernel
theorem dX3_clear_15 : decode cX3_clear 15 = .ok (.aload_n 0, 1) := by decide +kernel
theorem dX3_clear_16 : decode cX3_clear 16 = .ok (.iconst 0, 1) := by decide +kernel
theorem dX3_clear_17 : decode cX3_clear 17 = .ok (.putfield 21, 3) := by decide +kernel
theorem dX3_clear_20 : decode cX3_clear 20 = .ok (.aload_n 0, 1) := by decide +kernel
theorem dX3_clear_21 : decode cX3_clear 21 = .ok (.bipush 61, 2) := by decide +kernel
theorem dX3_clear_23 : decode cX3_clear 23 = .ok (.putfield 24, 3) := by decide +kernel
theorem dX3_clear_26 : decode cX3_clear 26 = .ok (.aload_n 0, 1) := by decide +kernel
theorem dX3_clear_27 : decode cX3_clear 27 = .ok (.iconst 0, 1) := by decide +kernel
theorem dX3_clear_28 : decode cX3_clear 28 = .ok (.putfield 28, 3) := by decide +kernel
theorem dX3_clear_31 : decode cX3_clear 31 = .ok (.return_, 1) := by decide +kernel
theorem dX3_fill_0 : decode cX3_fill 0 = .ok (.aload_n 3, 1) := by decide +kernel
theorem dX3_fill_1 : decode cX3_fill 1 = .ok (.invokevirtual 31, 3) := by decide +kernel
theorem dX3_fill_4 : decode cX3_fill 4 = .ok (.aload_n 0, 1) := by decide +kernel
theorem dX3_fill_5 : decode cX3_fill 5 = .ok (.getfield 9, 3) := by decide +kernel
theorem dX3_fill_8 : decode cX3_fill 8 = .ok (.tableswitch 81 7 12 #[40, 40, 40, 49, 58, 68], 40) := by decide +kernel
theorem dX3_fill_48 : decode cX3_fill 48 = .ok (.aload_n 0, 1) := by decide +kernel
theorem dX3_fill_49 : decode cX3_fill 49 = .ok (.aload_n 1, 1) := by decide +kernel
theorem dX3_fill_50 : decode cX3_fill 50 = .ok (.aload_n 3, 1) := by decide +kernel
theorem dX3_fill_51 : decode cX3_fill 51 = .ok (.invokevirtual 36, 3) := by decide +kernel
theorem dX3_fill_54 : decode cX3_fill 54 = .ok (.goto 64, 3) := by decide +kernel
theorem dX3_fill_57 : decode cX3_fill 57 = .ok (.aload_n 0, 1) := by decide +kernel
theorem dX3_fill_58 : decode cX3_fill 58 = .ok (.aload_n 1, 1) := by decide +kernel
theorem dX3_fill_59 : decode cX3_fill 59 = .ok (.aload_n 3, 1) := by decide +kernel
theorem dX3_fill_60 : decode cX3_fill 60 = .ok (.invokevirtual 40, 3) := by decide +kernel
theorem dX3_fill_63 : decode cX3_fill 63 = .ok (.goto 55, 3) := by decide +kernel
theorem dX3_fill_66 : decode cX3_fill 66 = .ok (.aload_n 0, 1) := by decide +kernel
theorem dX3_fill_67 : decode cX3_fill 67 = .ok (.aload_n 1, 1) := by decide +kernel
theorem dX3_fill_68 : decode cX3_fill 68 = .ok (.aload_n 2, 1) := by decide +kernel
theorem dX3_fill_69 : decode cX3_fill 69 = .ok (.aload_n 3, 1) := by decide +kernel
theorem dX3_fill_70 : decode cX3_fill 70 = .ok (.invokevirtual 43, 3) := by decide +kernel
theorem dX3_fill_73 : decode cX3_fill 73 = .ok (.goto 45, 3) := by decide +kernel
theorem dX3_fill_76 : decode cX3_fill 76 = .ok (.aload_n 0, 1) := by decide +kernel
theorem dX3_fill_77 : decode cX3_fill 77 = .ok (.aload_n 1, 1) := by decide +kernel
theorem dX3_fill_78 : decode cX3_fill 78 = .ok (.aload_n 2, 1) := by decide +kernel
theorem dX3_fill_79 : decode cX3_fill 79 = .ok (.invokevirtual 47, 3) := by decide +kernel
theorem dX3_fill_82 : decode cX3_fill 82 = .ok (.aload_n 3, 1) := by decide +kernel
theorem dX3_fill_83 : decode cX3_fill 83 = .ok (.invokevirtual 51, 3) := by decide +kernel
theorem dX3_fill_86 : decode cX3_fill 86 = .ok (.goto 32, 3) := by decide +kernel
theorem dX3_fill_89 : decode cX3_fill 89 = .ok (.iconst 0, 1) := by decide +kernel
theorem dX3_fill_90 : decode cX3_fill 90 = .ok (.istore 4, 2) := by decide +kernel
theorem dX3_fill_92 : decode cX3_fill 92 = .ok (.iload 4, 2) := by decide +kernel
theorem dX3_fill_94 : decode cX3_fill 94 = .ok (.aload_n 1, 1) := by decide +kernel
theorem dX3_fill_95 : decode cX3_fill 95 = .ok (.invokevirtual 55, 3) := by decide +kernel
theorem dX3_fill_98 : decode cX3_fill 98 = .ok (.if_icmp .ge 20, 3) := by decide +kernel
theorem dX3_fill_101 : decode cX3_fill 101 = .ok (.aload_n 0, 1) := by decide +kernel
theorem dX3_fill_102 : decode cX3_fill 102 = .ok (.aload_n 1, 1) := by decide +kernel
theorem dX3_fill_103 : decode cX3_fill 103 = .ok (.iload 4, 2) := by decide +kernel
theorem dX3_fill_105 : decode cX3_fill 105 = .ok (.invokevirtual 58, 3) := by decide +kernel
theorem dX3_fill_108 : decode cX3_fill 108 = .ok (.aload_n 3, 1) := by decide +kernel
theorem dX3_fill_109 : decode cX3_fill 109 = .ok (.invokevirtual 62, 3) := by decide +kernel
theorem dX3_fill_112 : decode cX3_fill 112 = .ok (.iinc 4 1, 3) := by decide +kernel
theorem dX3_fill_115 : decode cX3_fill 115 = .ok (.goto (-23), 3) := by decide +kernel
theorem dX3_fill_118 : decode cX3_fill 118 = .ok (.return_, 1) := by decide +kernel
theorem dX3_addOne_0 : decode cX3_addOne 0 = .ok (.lload_n 1, 1) := by decide +kernel
theorem dX3_addOne_1 : decode cX3_addOne 1 = .ok (.invokestatic 66, 3) := by decide +kernel
theorem dX3_addOne_4 : decode cX3_addOne 4 = .ok (.istore 4, 2) := by decide +kernel
theorem dX3_addOne_6 : decode cX3_addOne 6 = .ok (.lload_n 1, 1) := by decide +kernel
theorem dX3_addOne_7 : decode cX3_addOne 7 = .ok (.invokestatic 72, 3) := by decide +kernel
theorem dX3_addOne_10 : decode cX3_addOne 10 = .ok (.istore 5, 2) := by decide +kernel
theorem dX3_addOne_12 : decode cX3_addOne 12 = .ok (.lload_n 1, 1) := by decide +kernel
theorem dX3_addOne_13 : decode cX3_addOne 13 = .ok (.invokestatic 75, 3) := by decide +kernel
theorem dX3_addOne_16 : decode cX3_addOne 16 = .ok (.i2l, 1) := by decide +kernel
theorem dX3_addOne_17 : decode cX3_addOne 17 = .ok (.lstore 6, 2) := by decide +kernel
theorem dX3_addOne_19 : decode cX3_addOne 19 = .ok (.aload_n 0, 1) := by decide +kernel
theorem dX3_addOne_20 : decode cX3_addOne 20 = .ok (.getfield 9, 3) := by decide +kernel
theorem dX3_addOne_23 : decode cX3_addOne 23 = .ok (.tableswitch 164 1 6 #[37, 60, 79, 98, 119, 152], 37) := by decide +kernel
theorem dX3_addOne_60 : decode cX3_addOne 60 = .ok (.aload_n 0, 1) := by decide +kernel
theorem dX3_addOne_61 : decode cX3_addOne 61 = .ok (.lload_n 1, 1) := by decide +kernel
theorem dX3_addOne_62 : decode cX3_addOne 62 = .ok (.aload_n 0, 1) := by decide +kernel
theorem dX3_addOne_63 : decode cX3_addOne 63 = .ok (.getfield 21, 3) := by decide +kernel
theorem dX3_addOne_66 : decode cX3_addOne 66 = .ok (.invokestatic 78, 3) := by decide +kernel
theorem dX3_addOne_69 : decode cX3_addOne 69 = .ok (.invokevirtual 82, 3) := by decide +kernel
theorem dX3_addOne_72 : decode cX3_addOne 72 = .ok (.ifCond .eq 115, 3) := by decide +kernel
theorem dX3_addOne_75 : decode cX3_addOne 75 = .ok (.aload_n 3, 1) := by decide +kernel
theorem dX3_addOne_76 : decode cX3_addOne 76 = .ok (.lload_n 1, 1) := by decide +kernel
theorem dX3_addOne_77 : decode cX3_addOne 77 = .ok (.invokevirtual 86, 3) := by decide +kernel
theorem dX3_addOne_80 : decode cX3_addOne 80 = .ok (.goto 107, 3) := by decide +kernel
theorem dX3_addOne_83 : decode cX3_addOne 83 = .ok (.aload_n 3, 1) := by decide +kernel
theorem dX3_addOne_84 : decode cX3_addOne 84 = .ok (.iload 4, 2) := by decide +kernel
theorem dX3_addOne_86 : decode cX3_addOne 86 = .ok (.iload 5, 2) := by decide +kernel
theorem dX3_addOne_88 : decode cX3_addOne 88 = .ok (.lload 6, 2) := by decide +kernel
theorem dX3_addOne_90 : decode cX3_addOne 90 = .ok (.aload_n 0, 1) := by decide +kernel
theorem dX3_addOne_91 : decode cX3_addOne 91 = .ok (.getfield 28, 3) := by decide +kernel
theorem dX3_addOne_94 : decode cX3_addOne 94 = .ok (.i2l, 1) := by decide +kernel
theorem dX3_addOne_95 : decode cX3_addOne 95 = .ok (.ladd, 1) := by decide +kernel
theorem dX3_addOne_96 : decode cX3_addOne 96 = .ok (.invokevirtual 90, 3) := by decide +kernel
theorem dX3_addOne_99 : decode cX3_addOne 99 = .ok (.goto 88, 3) := by decide +kernel
theorem dX3_addOne_102 : decode cX3_addOne 102 = .ok (.aload_n 3, 1) := by decide +kernel
theorem dX3_addOne_103 : decode cX3_addOne 103 = .ok (.iload 4, 2) := by decide +kernel
theorem dX3_addOne_105 : decode cX3_addOne 105 = .ok (.iload 5, 2) := by decide +kernel
theorem dX3_addOne_107 : decode cX3_addOne 107 = .ok (.lload 6, 2) := by decide +kernel
theorem dX3_addOne_109 : decode cX3_addOne 109 = .ok (.aload_n 0, 1) := by decide +kernel
theorem dX3_addOne_110 : decode cX3_addOne 110 = .ok (.getfield 28, 3) := by decide +kernel
theorem dX3_addOne_113 : decode cX3_addOne 113 = .ok (.i2l, 1) := by decide +kernel
theorem dX3_addOne_114 : decode cX3_addOne 114 = .ok (.lmul, 1) := by decide +kernel
theorem dX3_addOne_115 : decode cX3_addOne 115 = .ok (.invokevirtual 90, 3) := by decide +kernel
theorem dX3_addOne_118 : decode cX3_addOne 118 = .ok (.goto 69, 3) := by decide +kernel
theorem dX3_addOne_121 : decode cX3_addOne 121 = .ok (.aload_n 3, 1) := by decide +kernel
theorem dX3_addOne_122 : decode cX3_addOne 122 = .ok (.iload 4, 2) := by decide +kernel
theorem dX3_addOne_124 : decode cX3_addOne 124 = .ok (.aload_n 0, 1) := by decide +kernel
theorem dX3_addOne_125 : decode cX3_addOne 125 = .ok (.getfield 28, 3) := by decide +kernel
theorem dX3_addOne_128 : decode cX3_addOne 128 = .ok (.iadd, 1) := by decide +kernel
theorem dX3_addOne_129 : decode cX3_addOne 129 = .ok (.bipush 32, 2) := by decide +kernel
theorem dX3_addOne_131 : decode cX3_addOne 131 = .ok (.irem, 1) := by decide +kernel
theorem dX3_addOne_132 : decode cX3_addOne 132 = .ok (.iload 5, 2) := by decide +kernel
theorem dX3_addOne_134 : decode cX3_addOne 134 = .ok (.lload 6, 2) := by decide +kernel
theorem dX3_addOne_136 : decode cX3_addOne 136 = .ok (.invokevirtual 90, 3) := by decide +kernel
theorem dX3_addOne_139 : decode cX3_addOne 139 = .ok (.goto 48, 3) := by decide +kernel
theorem dX3_addOne_142 : decode cX3_addOne 142 = .ok (.aload_n 3, 1) := by decide +kernel
theorem dX3_addOne_143 : decode cX3_addOne 143 = .ok (.iload 4, 2) := by decide +kernel
theorem dX3_addOne_145 : decode cX3_addOne 145 = .ok (.aload_n 0, 1) := by decide +kernel
theorem dX3_addOne_146 : decode cX3_addOne 146 = .ok (.getfield 28, 3) := by decide +kernel
theorem dX3_addOne_149 : decode cX3_addOne 149 = .ok (.ifCond .le 16, 3) := by decide +kernel
theorem dX3_addOne_152 : decode cX3_addOne 152 = .ok (.iload 5, 2) := by decide +kernel
theorem dX3_addOne_154 : decode cX3_addOne 154 = .ok (.iload 5, 2) := by decide +kernel
theorem dX3_addOne_156 : decode cX3_addOne 156 = .ok (.aload_n 0, 1) := by decide +kernel
theorem dX3_addOne_157 : decode cX3_addOne 157 = .ok (.getfield 28, 3) := by decide +kernel
theorem dX3_addOne_160 : decode cX3_addOne 160 = .ok (.irem, 1) := by decide +kernel
theorem dX3_addOne_161 : decode cX3_addOne 161 = .ok (.isub, 1) := by decide +kernel
theorem dX3_addOne_162 : decode cX3_addOne 162 = .ok (.goto 5, 3) := by decide +kernel
theorem dX3_addOne_165 : decode cX3_addOne 165 = .ok (.iload 5, 2) := by decide +kernel
theorem dX3_addOne_167 : decode cX3_addOne 167 = .ok (.lload 6, 2) := by decide +kernel
theorem dX3_addOne_169 : decode cX3_addOne 169 = .ok (.invokevirtual 90, 3) := by decide +kernel
theorem dX3_addOne_172 : decode cX3_addOne 172 = .ok (.goto 15, 3) := by decide +kernel
theorem dX3_addOne_175 : decode cX3_addOne 175 = .ok (.aload_n 3, 1) := by decide +kernel
theorem dX3_addOne_176 : decode cX3_addOne 176 = .ok (.iload 4, 2) := by decide +kernel
theorem dX3_addOne_178 : decode cX3_addOne 178 = .ok (.iconst 0, 1) := by decide +kernel
theorem dX3_addOne_179 : decode cX3_addOne 179 = .ok (.lload 6, 2) := by decide +kernel
theorem dX3_addOne_181 : decode cX3_addOne 181 = .ok (.invokevirtual 90, 3) := by decide +kernel
theorem dX3_addOne_184 : decode cX3_addOne 184 = .ok (.goto 3, 3) := by decide +kernel
theorem dX3_addOne_187 : decode cX3_addOne 187 = .ok (.return_, 1) := by decide +kernel
theorem dX3_holdsOf_0 : decode cX3_holdsOf 0 = .ok (.aload_n 0, 1) := by decide +kernel
theorem dX3_holdsOf_1 : decode cX3_holdsOf 1 = .ok (.getfield 24, 3) := by decide +kernel
theorem dX3_holdsOf_4 : decode cX3_holdsOf 4 = .ok (.bipush 60, 2) := by decide +kernel
theorem dX3_holdsOf_6 : decode cX3_holdsOf 6 = .ok (.if_icmp .ne 17, 3) := by decide +kernel
theorem dX3_holdsOf_9 : decode cX3_holdsOf 9 = .ok (.iload_n 1, 1) := by decide +kernel
theorem dX3_holdsOf_10 : decode cX3_holdsOf 10 = .ok (.aload_n 0, 1) := by decide +kernel
theorem dX3_holdsOf_11 : decode cX3_holdsOf 11 = .ok (.getfield 28, 3) := by decide +kernel
theorem dX3_holdsOf_14 : decode cX3_holdsOf 14 = .ok (.if_icmp .ge 7, 3) := by decide +kernel
theorem dX3_holdsOf_17 : decode cX3_holdsOf 17 = .ok (.iconst 1, 1) := by decide +kernel
theorem dX3_holdsOf_18 : decode cX3_holdsOf 18 = .ok (.goto 4, 3) := by decide +kernel
theorem dX3_holdsOf_21 : decode cX3_holdsOf 21 = .ok (.iconst 0, 1) := by decide +kernel
theorem dX3_holdsOf_22 : decode cX3_holdsOf 22 = .ok (.ireturn, 1) := by decide +kernel
theorem dX3_holdsOf_23 : decode cX3_holdsOf 23 = .ok (.aload_n 0, 1) := by decide +kernel
theorem dX3_holdsOf_24 : decode cX3_holdsOf 24 = .ok (.getfield 24, 3) := by decide +kernel
theorem dX3_holdsOf_27 : decode cX3_holdsOf 27 = .ok (.bipush 62, 2) := by decide +kernel
theorem dX3_holdsOf_29 : decode cX3_holdsOf 29 = .ok (.if_icmp .ne 19, 3) := by decide +kernel
theorem dX3_holdsOf_32 : decode cX3_holdsOf 32 = .ok (.iload_n 1, 1) := by decide +kernel
theorem dX3_holdsOf_33 : decode cX3_holdsOf 33 = .ok (.aload_n 0, 1) := by decide +kernel
theorem dX3_holdsOf_34 : decode cX3_holdsOf 34 = .ok (.getfield 28, 3) := by decide +kernel
theorem dX3_holdsOf_37 : decode cX3_holdsOf 37 = .ok (.if_icmp .le 7, 3) := by decide +kernel
theorem dX3_holdsOf_40 : decode cX3_holdsOf 40 = .ok (.iconst 1, 1) := by decide +kernel
theorem dX3_holdsOf_41 : decode cX3_holdsOf 41 = .ok (.goto 20, 3) := by decide +kernel
theorem dX3_holdsOf_44 : decode cX3_holdsOf 44 = .ok (.iconst 0, 1) := by decide +kernel
theorem dX3_holdsOf_45 : decode cX3_holdsOf 45 = .ok (.goto 16, 3) := by decide +kernel
theorem dX3_holdsOf_48 : decode cX3_holdsOf 48 = .ok (.iload_n 1, 1) := by decide +kernel
theorem dX3_holdsOf_49 : decode cX3_holdsOf 49 = .ok (.aload_n 0, 1) := by decide +kernel
theorem dX3_holdsOf_50 : decode cX3_holdsOf 50 = .ok (.getfield 28, 3) := by decide +kernel
theorem dX3_holdsOf_53 : decode cX3_holdsOf 53 = .ok (.if_icmp .ne 7, 3) := by decide +kernel
theorem dX3_holdsOf_56 : decode cX3_holdsOf 56 = .ok (.iconst 1, 1) := by decide +kernel
theorem dX3_holdsOf_57 : decode cX3_holdsOf 57 = .ok (.goto 4, 3) := by decide +kernel
theorem dX3_holdsOf_60 : decode cX3_holdsOf 60 = .ok (.iconst 0, 1) := by decide +kernel
theorem dX3_holdsOf_61 : decode cX3_holdsOf 61 = .ok (.ireturn, 1) := by decide +kernel
theorem dX3_fillByGroup_0 : decode cX3_fillByGroup 0 = .ok (.lconst 0, 1) := by decide +kernel
theorem dX3_fillByGroup_1 : decode cX3_fillByGroup 1 = .ok (.lstore_n 3, 1) := by decide +kernel
theorem dX3_fillByGroup_2 : decode cX3_fillByGroup 2 = .ok (.iconst 0, 1) := by decide +kernel
theorem dX3_fillByGroup_3 : decode cX3_fillByGroup 3 = .ok (.istore 5, 2) := by decide +kernel
theorem dX3_fillByGroup_5 : decode cX3_fillByGroup 5 = .ok (.iconst 0, 1) := by decide +kernel
theorem dX3_fillByGroup_6 : decode cX3_fillByGroup 6 = .ok (.istore 6, 2) := by decide +kernel
theorem dX3_fillByGroup_8 : decode cX3_fillByGroup 8 = .ok (.iload 6, 2) := by decide +kernel
theorem dX3_fillByGroup_10 : decode cX3_fillByGroup 10 = .ok (.aload_n 1, 1) := by decide +kernel
theorem dX3_fillByGroup_11 : decode cX3_fillByGroup 11 = .ok (.invokevirtual 55, 3) := by decide +kernel
theorem dX3_fillByGroup_14 : decode cX3_fillByGroup 14 = .ok (.if_icmp .ge 121, 3) := by decide +kernel
theorem dX3_fillByGroup_17 : decode cX3_fillByGroup 17 = .ok (.aload_n 1, 1) := by decide +kernel
theorem dX3_fillByGroup_18 : decode cX3_fillByGroup 18 = .ok (.iload 6, 2) := by decide +kernel
theorem dX3_fillByGroup_20 : decode cX3_fillByGroup 20 = .ok (.invokevirtual 58, 3) := by decide +kernel
theorem dX3_fillByGroup_23 : decode cX3_fillByGroup 23 = .ok (.lstore 7, 2) := by decide +kernel
theorem dX3_fillByGroup_25 : decode cX3_fillByGroup 25 = .ok (.lload 7, 2) := by decide +kernel
theorem dX3_fillByGroup_27 : decode cX3_fillByGroup 27 = .ok (.invokestatic 75, 3) := by decide +kernel
theorem dX3_fillByGroup_30 : decode cX3_fillByGroup 30 = .ok (.istore 9, 2) := by decide +kernel
theorem dX3_fillByGroup_32 : decode cX3_fillByGroup 32 = .ok (.lload_n 3, 1) := by decide +kernel
theorem dX3_fillByGroup_33 : decode cX3_fillByGroup 33 = .ok (.iload 9, 2) := by decide +kernel
theorem dX3_fillByGroup_35 : decode cX3_fillByGroup 35 = .ok (.i2l, 1) := by decide +kernel
theorem dX3_fillByGroup_36 : decode cX3_fillByGroup 36 = .ok (.ladd, 1) := by decide +kernel
theorem dX3_fillByGroup_37 : decode cX3_fillByGroup 37 = .ok (.lstore_n 3, 1) := by decide +kernel
theorem dX3_fillByGroup_38 : decode cX3_fillByGroup 38 = .ok (.iinc 5 1, 3) := by decide +kernel
theorem dX3_fillByGroup_41 : decode cX3_fillByGroup 41 = .ok (.iload 6, 2) := by decide +kernel
theorem dX3_fillByGroup_43 : decode cX3_fillByGroup 43 = .ok (.iconst 1, 1) := by decide +kernel
theorem dX3_fillByGroup_44 : decode cX3_fillByGroup 44 = .ok (.iadd, 1) := by decide +kernel
theorem dX3_fillByGroup_45 : decode cX3_fillByGroup 45 = .ok (.aload_n 1, 1) := by decide +kernel
theorem dX3_fillByGroup_46 : decode cX3_fillByGroup 46 = .ok (.invokevirtual 55, 3) := by decide +kernel
theorem dX3_fillByGroup_49 : decode cX3_fillByGroup 49 = .ok (.if_icmp .ge 26, 3) := by decide +kernel
theorem dX3_fillByGroup_52 : decode cX3_fillByGroup 52 = .ok (.aload_n 1, 1) := by decide +kernel
theorem dX3_fillByGroup_53 : decode cX3_fillByGroup 53 = .ok (.iload 6, 2) := by decide +kernel
theorem dX3_fillByGroup_55 : decode cX3_fillByGroup 55 = .ok (.iconst 1, 1) := by decide +kernel
theorem dX3_fillByGroup_56 : decode cX3_fillByGroup 56 = .ok (.iadd, 1) := by decide +kernel
theorem dX3_fillByGroup_57 : decode cX3_fillByGroup 57 = .ok (.invokevirtual 58, 3) := by decide +kernel
theorem dX3_fillByGroup_60 : decode cX3_fillByGroup 60 = .ok (.invokestatic 93, 3) := by decide +kernel
theorem dX3_fillByGroup_63 : decode cX3_fillByGroup 63 = .ok (.lload 7, 2) := by decide +kernel
theorem dX3_fillByGroup_65 : decode cX3_fillByGroup 65 = .ok (.invokestatic 93, 3) := by decide +kernel
theorem dX3_fillByGroup_68 : decode cX3_fillByGroup 68 = .ok (.lcmp, 1) := by decide +kernel
theorem dX3_fillByGroup_69 : decode cX3_fillByGroup 69 = .ok (.ifCond .ne 6, 3) := by decide +kernel
theorem dX3_fillByGroup_72 : decode cX3_fillByGroup 72 = .ok (.goto 57, 3) := by decide +kernel
theorem dX3_fillByGroup_75 : decode cX3_fillByGroup 75 = .ok (.aload_n 0, 1) := by decide +kernel
theorem dX3_fillByGroup_76 : decode cX3_fillByGroup 76 = .ok (.getfield 9, 3) := by decide +kernel
theorem dX3_fillByGroup_79 : decode cX3_fillByGroup 79 = .ok (.bipush 7, 2) := by decide +kernel
theorem dX3_fillByGroup_81 : decode cX3_fillByGroup 81 = .ok (.if_icmp .ne 7, 3) := by decide +kernel
theorem dX3_fillByGroup_84 : decode cX3_fillByGroup 84 = .ok (.lload_n 3, 1) := by decide +kernel
theorem dX3_fillByGroup_85 : decode cX3_fillByGroup 85 = .ok (.goto 21, 3) := by decide +kernel
theorem dX3_fillByGroup_88 : decode cX3_fillByGroup 88 = .ok (.aload_n 0, 1) := by decide +kernel
theorem dX3_fillByGroup_89 : decode cX3_fillByGroup 89 = .ok (.getfield 9, 3) := by decide +kernel
theorem dX3_fillByGroup_92 : decode cX3_fillByGroup 92 = .ok (.bipush 8, 2) := by decide +kernel
theorem dX3_fillByGroup_94 : decode cX3_fillByGroup 94 = .ok (.if_icmp .ne 9, 3) := by decide +kernel
theorem dX3_fillByGroup_97 : decode cX3_fillByGroup 97 = .ok (.iload 5, 2) := by decide +kernel
theorem dX3_fillByGroup_99 : decode cX3_fillByGroup 99 = .ok (.i2l, 1) := by decide +kernel
theorem dX3_fillByGroup_100 : decode cX3_fillByGroup 100 = .ok (.goto 6, 3) := by decide +kernel
theorem dX3_fillByGroup_103 : decode cX3_fillByGroup 103 = .ok (.iload 9, 2) := by decide +kernel
theorem dX3_fillByGroup_105 : decode cX3_fillByGroup 105 = .ok (.i2l, 1) := by decide +kernel
theorem dX3_fillByGroup_106 : decode cX3_fillByGroup 106 = .ok (.lstore 10, 2) := by decide +kernel
theorem dX3_fillByGroup_108 : decode cX3_fillByGroup 108 = .ok (.aload_n 2, 1) := by decide +kernel
theorem dX3_fillByGroup_109 : decode cX3_fillByGroup 109 = .ok (.lload 7, 2) := by decide +kernel
theorem dX3_fillByGroup_111 : decode cX3_fillByGroup 111 = .ok (.invokestatic 66, 3) := by decide +kernel
theorem dX3_fillByGroup_114 : decode cX3_fillByGroup 114 = .ok (.lload 7, 2) := by decide +kernel
theorem dX3_fillByGroup_116 : decode cX3_fillByGroup 116 = .ok (.invokestatic 72, 3) := by decide +kernel
theorem dX3_fillByGroup_119 : decode cX3_fillByGroup 119 = .ok (.lload 10, 2) := by decide +kernel
theorem dX3_fillByGroup_121 : decode cX3_fillByGroup 121 = .ok (.invokevirtual 90, 3) := by decide +kernel
theorem dX3_fillByGroup_124 : decode cX3_fillByGroup 124 = .ok (.lconst 0, 1) := by decide +kernel
theorem dX3_fillByGroup_125 : decode cX3_fillByGroup 125 = .ok (.lstore_n 3, 1) := by decide +kernel
theorem dX3_fillByGroup_126 : decode cX3_fillByGroup 126 = .ok (.iconst 0, 1) := by decide +kernel
theorem dX3_fillByGroup_127 : decode cX3_fillByGroup 127 = .ok (.istore 5, 2) := by decide +kernel
theorem dX3_fillByGroup_129 : decode cX3_fillByGroup 129 = .ok (.iinc 6 1, 3) := by decide +kernel
theorem dX3_fillByGroup_132 : decode cX3_fillByGroup 132 = .ok (.goto (-124), 3) := by decide +kernel
theorem dX3_fillByGroup_135 : decode cX3_fillByGroup 135 = .ok (.return_, 1) := by decide +kernel
theorem dX3_fillByKey_0 : decode cX3_fillByKey 0 = .ok (.iconst 0, 1) := by decide +kernel
theorem dX3_fillByKey_1 : decode cX3_fillByKey 1 = .ok (.istore_n 3, 1) := by decide +kernel
theorem dX3_fillByKey_2 : decode cX3_fillByKey 2 = .ok (.iload_n 3, 1) := by decide +kernel
theorem dX3_fillByKey_3 : decode cX3_fillByKey 3 = .ok (.aload_n 1, 1) := by decide +kernel
theorem dX3_fillByKey_4 : decode cX3_fillByKey 4 = .ok (.invokevirtual 55, 3) := by decide +kernel
theorem dX3_fillByKey_7 : decode cX3_fillByKey 7 = .ok (.if_icmp .ge 50, 3) := by decide +kernel
theorem dX3_fillByKey_10 : decode cX3_fillByKey 10 = .ok (.aload_n 1, 1) := by decide +kernel
theorem dX3_fillByKey_11 : decode cX3_fillByKey 11 = .ok (.iload_n 3, 1) := by decide +kernel
theorem dX3_fillByKey_12 : decode cX3_fillByKey 12 = .ok (.invokevirtual 58, 3) := by decide +kernel
theorem dX3_fillByKey_15 : decode cX3_fillByKey 15 = .ok (.lstore 4, 2) := by decide +kernel
theorem dX3_fillByKey_17 : decode cX3_fillByKey 17 = .ok (.iload_n 3, 1) := by decide +kernel
theorem dX3_fillByKey_18 : decode cX3_fillByKey 18 = .ok (.iconst 1, 1) := by decide +kernel
theorem dX3_fillByKey_19 : decode cX3_fillByKey 19 = .ok (.iadd, 1) := by decide +kernel
theorem dX3_fillByKey_20 : decode cX3_fillByKey 20 = .ok (.aload_n 1, 1) := by decide +kernel
theorem dX3_fillByKey_21 : decode cX3_fillByKey 21 = .ok (.invokevirtual 55, 3) := by decide +kernel
theorem dX3_fillByKey_24 : decode cX3_fillByKey 24 = .ok (.if_icmp .eq 21, 3) := by decide +kernel
theorem dX3_fillByKey_27 : decode cX3_fillByKey 27 = .ok (.aload_n 1, 1) := by decide +kernel
theorem dX3_fillByKey_28 : decode cX3_fillByKey 28 = .ok (.iload_n 3, 1) := by decide +kernel
theorem dX3_fillByKey_29 : decode cX3_fillByKey 29 = .ok (.iconst 1, 1) := by decide +kernel
theorem dX3_fillByKey_30 : decode cX3_fillByKey 30 = .ok (.iadd, 1) := by decide +kernel
theorem dX3_fillByKey_31 : decode cX3_fillByKey 31 = .ok (.invokevirtual 58, 3) := by decide +kernel
theorem dX3_fillByKey_34 : decode cX3_fillByKey 34 = .ok (.invokestatic 66, 3) := by decide +kernel
theorem dX3_fillByKey_37 : decode cX3_fillByKey 37 = .ok (.lload 4, 2) := by decide +kernel
theorem dX3_fillByKey_39 : decode cX3_fillByKey 39 = .ok (.invokestatic 66, 3) := by decide +kernel
theorem dX3_fillByKey_42 : decode cX3_fillByKey 42 = .ok (.if_icmp .eq 9, 3) := by decide +kernel
theorem dX3_fillByKey_45 : decode cX3_fillByKey 45 = .ok (.aload_n 2, 1) := by decide +kernel
theorem dX3_fillByKey_46 : decode cX3_fillByKey 46 = .ok (.lload 4, 2) := by decide +kernel
theorem dX3_fillByKey_48 : decode cX3_fillByKey 48 = .ok (.invokevirtual 86, 3) := by decide +kernel
theorem dX3_fillByKey_51 : decode cX3_fillByKey 51 = .ok (.iinc 3 1, 3) := by decide +kernel
theorem dX3_fillByKey_54 : decode cX3_fillByKey 54 = .ok (.goto (-52), 3) := by decide +kernel
theorem dX3_fillByKey_57 : decode cX3_fillByKey 57 = .ok (.return_, 1) := by decide +kernel
theorem dX3_fillByPairs_0 : decode cX3_fillByPairs 0 = .ok (.iconst 0, 1) := by decide +kernel
theorem dX3_fillByPairs_1 : decode cX3_fillByPairs 1 = .ok (.istore 4, 2) := by decide +kernel
theorem dX3_fillByPairs_3 : decode cX3_fillByPairs 3 = .ok (.iconst 0, 1) := by decide +kernel
theorem dX3_fillByPairs_4 : decode cX3_fillByPairs 4 = .ok (.istore 5, 2) := by decide +kernel
theorem dX3_fillByPairs_6 : decode cX3_fillByPairs 6 = .ok (.iload 5, 2) := by decide +kernel
theorem dX3_fillByPairs_8 : decode cX3_fillByPairs 8 = .ok (.aload_n 1, 1) := by decide +kernel
theorem dX3_fillByPairs_9 : decode cX3_fillByPairs 9 = .ok (.invokevirtual 55, 3) := by decide +kernel
theorem dX3_fillByPairs_12 : decode cX3_fillByPairs 12 = .ok (.if_icmp .ge 144, 3) := by decide +kernel
theorem dX3_fillByPairs_15 : decode cX3_fillByPairs 15 = .ok (.aload_n 3, 1) := by decide +kernel
theorem dX3_fillByPairs_16 : decode cX3_fillByPairs 16 = .ok (.invokevirtual 97, 3) := by decide +kernel
theorem dX3_fillByPairs_19 : decode cX3_fillByPairs 19 = .ok (.ifCond .ne 137, 3) := by decide +kernel
theorem dX3_fillByPairs_22 : decode cX3_fillByPairs 22 = .ok (.aload_n 1, 1) := by decide +kernel
theorem dX3_fillByPairs_23 : decode cX3_fillByPairs 23 = .ok (.iload 5, 2) := by decide +kernel
theorem dX3_fillByPairs_25 : decode cX3_fillByPairs 25 = .ok (.invokevirtual 58, 3) := by decide +kernel
theorem dX3_fillByPairs_28 : decode cX3_fillByPairs 28 = .ok (.lstore 6, 2) := by decide +kernel
theorem dX3_fillByPairs_30 : decode cX3_fillByPairs 30 = .ok (.lload 6, 2) := by decide +kernel
theorem dX3_fillByPairs_32 : decode cX3_fillByPairs 32 = .ok (.invokestatic 66, 3) := by decide +kernel
theorem dX3_fillByPairs_35 : decode cX3_fillByPairs 35 = .ok (.istore 8, 2) := by decide +kernel
theorem dX3_fillByPairs_37 : decode cX3_fillByPairs 37 = .ok (.iload 4, 2) := by decide +kernel
theorem dX3_fillByPairs_39 : decode cX3_fillByPairs 39 = .ok (.aload_n 2, 1) := by decide +kernel
theorem dX3_fillByPairs_40 : decode cX3_fillByPairs 40 = .ok (.invokevirtual 55, 3) := by decide +kernel
theorem dX3_fillByPairs_43 : decode cX3_fillByPairs 43 = .ok (.if_icmp .ge 23, 3) := by decide +kernel
theorem dX3_fillByPairs_46 : decode cX3_fillByPairs 46 = .ok (.aload_n 2, 1) := by decide +kernel
theorem dX3_fillByPairs_47 : decode cX3_fillByPairs 47 = .ok (.iload 4, 2) := by decide +kernel
theorem dX3_fillByPairs_49 : decode cX3_fillByPairs 49 = .ok (.invokevirtual 58, 3) := by decide +kernel
theorem dX3_fillByPairs_52 : decode cX3_fillByPairs 52 = .ok (.invokestatic 66, 3) := by decide +kernel
theorem dX3_fillByPairs_55 : decode cX3_fillByPairs 55 = .ok (.iload 8, 2) := by decide +kernel
theorem dX3_fillByPairs_57 : decode cX3_fillByPairs 57 = .ok (.if_icmp .ge 9, 3) := by decide +kernel
theorem dX3_fillByPairs_60 : decode cX3_fillByPairs 60 = .ok (.iinc 4 1, 3) := by decide +kernel
theorem dX3_fillByPairs_63 : decode cX3_fillByPairs 63 = .ok (.goto (-26), 3) := by decide +kernel
theorem dX3_fillByPairs_66 : decode cX3_fillByPairs 66 = .ok (.iload 4, 2) := by decide +kernel
theorem dX3_fillByPairs_68 : decode cX3_fillByPairs 68 = .ok (.istore 9, 2) := by decide +kernel
theorem dX3_fillByPairs_70 : decode cX3_fillByPairs 70 = .ok (.iload 9, 2) := by decide +kernel
theorem dX3_fillByPairs_72 : decode cX3_fillByPairs 72 = .ok (.aload_n 2, 1) := by decide +kernel
theorem dX3_fillByPairs_73 : decode cX3_fillByPairs 73 = .ok (.invokevirtual 55, 3) := by decide +kernel
theorem dX3_fillByPairs_76 : decode cX3_fillByPairs 76 = .ok (.if_icmp .ge 74, 3) := by decide +kernel
theorem dX3_fillByPairs_79 : decode cX3_fillByPairs 79 = .ok (.aload_n 2, 1) := by decide +kernel
theorem dX3_fillByPairs_80 : decode cX3_fillByPairs 80 = .ok (.iload 9, 2) := by decide +kernel
theorem dX3_fillByPairs_82 : decode cX3_fillByPairs 82 = .ok (.invokevirtual 58, 3) := by decide +kernel
theorem dX3_fillByPairs_85 : decode cX3_fillByPairs 85 = .ok (.invokestatic 66, 3) := by decide +kernel
theorem dX3_fillByPairs_88 : decode cX3_fillByPairs 88 = .ok (.iload 8, 2) := by decide +kernel
theorem dX3_fillByPairs_90 : decode cX3_fillByPairs 90 = .ok (.if_icmp .ne 60, 3) := by decide +kernel
theorem dX3_fillByPairs_93 : decode cX3_fillByPairs 93 = .ok (.aload_n 3, 1) := by decide +kernel
theorem dX3_fillByPairs_94 : decode cX3_fillByPairs 94 = .ok (.invokevirtual 97, 3) := by decide +kernel
theorem dX3_fillByPairs_97 : decode cX3_fillByPairs 97 = .ok (.ifCond .ne 53, 3) := by decide +kernel
theorem dX3_fillByPairs_100 : decode cX3_fillByPairs 100 = .ok (.aload_n 2, 1) := by decide +kernel
theorem dX3_fillByPairs_101 : decode cX3_fillByPairs 101 = .ok (.iload 9, 2) := by decide +kernel
theorem dX3_fillByPairs_103 : decode cX3_fillByPairs 103 = .ok (.invokevirtual 58, 3) := by decide +kernel
theorem dX3_fillByPairs_106 : decode cX3_fillByPairs 106 = .ok (.lstore 10, 2) := by decide +kernel
theorem dX3_fillByPairs_108 : decode cX3_fillByPairs 108 = .ok (.lload 6, 2) := by decide +kernel
theorem dX3_fillByPairs_110 : decode cX3_fillByPairs 110 = .ok (.invokestatic 75, 3) := by decide +kernel
theorem dX3_fillByPairs_113 : decode cX3_fillByPairs 113 = .ok (.i2l, 1) := by decide +kernel
theorem dX3_fillByPairs_114 : decode cX3_fillByPairs 114 = .ok (.lload 10, 2) := by decide +kernel
theorem dX3_fillByPairs_116 : decode cX3_fillByPairs 116 = .ok (.invokestatic 75, 3) := by decide +kernel
theorem dX3_fillByPairs_119 : decode cX3_fillByPairs 119 = .ok (.i2l, 1) := by decide +kernel
theorem dX3_fillByPairs_120 : decode cX3_fillByPairs 120 = .ok (.ladd, 1) := by decide +kernel
theorem dX3_fillByPairs_121 : decode cX3_fillByPairs 121 = .ok (.lstore 12, 2) := by decide +kernel
theorem dX3_fillByPairs_123 : decode cX3_fillByPairs 123 = .ok (.aload_n 3, 1) := by decide +kernel
theorem dX3_fillByPairs_124 : decode cX3_fillByPairs 124 = .ok (.iload 8, 2) := by decide +kernel
theorem dX3_fillByPairs_126 : decode cX3_fillByPairs 126 = .ok (.lload 6, 2) := by decide +kernel
theorem dX3_fillByPairs_128 : decode cX3_fillByPairs 128 = .ok (.invokestatic 72, 3) := by decide +kernel
theorem dX3_fillByPairs_131 : decode cX3_fillByPairs 131 = .ok (.lload 10, 2) := by decide +kernel
theorem dX3_fillByPairs_133 : decode cX3_fillByPairs 133 = .ok (.invokestatic 72, 3) := by decide +kernel
theorem dX3_fillByPairs_136 : decode cX3_fillByPairs 136 = .ok (.invokestatic 101, 3) := by decide +kernel
theorem dX3_fillByPairs_139 : decode cX3_fillByPairs 139 = .ok (.lload 12, 2) := by decide +kernel
theorem dX3_fillByPairs_141 : decode cX3_fillByPairs 141 = .ok (.invokevirtual 90, 3) := by decide +kernel
theorem dX3_fillByPairs_144 : decode cX3_fillByPairs 144 = .ok (.iinc 9 1, 3) := by decide +kernel
theorem dX3_fillByPairs_147 : decode cX3_fillByPairs 147 = .ok (.goto (-77), 3) := by decide +kernel
theorem dX3_fillByPairs_150 : decode cX3_fillByPairs 150 = .ok (.iinc 5 1, 3) := by decide +kernel
theorem dX3_fillByPairs_153 : decode cX3_fillByPairs 153 = .ok (.goto (-147), 3) := by decide +kernel
theorem dX3_fillByPairs_156 : decode cX3_fillByPairs 156 = .ok (.return_, 1) := by decide +kernel
theorem dX3_fillWithout_0 : decode cX3_fillWithout 0 = .ok (.iconst 0, 1) := by decide +kernel
theorem dX3_fillWithout_1 : decode cX3_fillWithout 1 = .ok (.istore 4, 2) := by decide +kernel
theorem dX3_fillWithout_3 : decode cX3_fillWithout 3 = .ok (.iload 4, 2) := by decide +kernel
theorem dX3_fillWithout_5 : decode cX3_fillWithout 5 = .ok (.aload_n 1, 1) := by decide +kernel
theorem dX3_fillWithout_6 : decode cX3_fillWithout 6 = .ok (.invokevirtual 55, 3) := by decide +kernel
theorem dX3_fillWithout_9 : decode cX3_fillWithout 9 = .ok (.if_icmp .ge 35, 3) := by decide +kernel
theorem dX3_fillWithout_12 : decode cX3_fillWithout 12 = .ok (.aload_n 1, 1) := by decide +kernel
theorem dX3_fillWithout_13 : decode cX3_fillWithout 13 = .ok (.iload 4, 2) := by decide +kernel
theorem dX3_fillWithout_15 : decode cX3_fillWithout 15 = .ok (.invokevirtual 58, 3) := by decide +kernel
theorem dX3_fillWithout_18 : decode cX3_fillWithout 18 = .ok (.lstore 5, 2) := by decide +kernel
theorem dX3_fillWithout_20 : decode cX3_fillWithout 20 = .ok (.iload_n 2, 1) := by decide +kernel
theorem dX3_fillWithout_21 : decode cX3_fillWithout 21 = .ok (.lload 5, 2) := by decide +kernel
theorem dX3_fillWithout_23 : decode cX3_fillWithout 23 = .ok (.invokestatic 66, 3) := by decide +kernel
theorem dX3_fillWithout_26 : decode cX3_fillWithout 26 = .ok (.iushr, 1) := by decide +kernel
theorem dX3_fillWithout_27 : decode cX3_fillWithout 27 = .ok (.iconst 1, 1) := by decide +kernel
theorem dX3_fillWithout_28 : decode cX3_fillWithout 28 = .ok (.iand, 1) := by decide +kernel
theorem dX3_fillWithout_29 : decode cX3_fillWithout 29 = .ok (.ifCond .ne 9, 3) := by decide +kernel
theorem dX3_fillWithout_32 : decode cX3_fillWithout 32 = .ok (.aload_n 3, 1) := by decide +kernel
theorem dX3_fillWithout_33 : decode cX3_fillWithout 33 = .ok (.lload 5, 2) := by decide +kernel
theorem dX3_fillWithout_35 : decode cX3_fillWithout 35 = .ok (.invokevirtual 86, 3) := by decide +kernel
theorem dX3_fillWithout_38 : decode cX3_fillWithout 38 = .ok (.iinc 4 1, 3) := by decide +kernel
theorem dX3_fillWithout_41 : decode cX3_fillWithout 41 = .ok (.goto (-38), 3) := by decide +kernel
theorem dX3_fillWithout_44 : decode cX3_fillWithout 44 = .ok (.return_, 1) := by decide +kernel
theorem dX4_init_0 : decode cX4_init 0 = .ok (.aload_n 0, 1) := by decide +kernel
theorem dX4_init_1 : decode cX4_init 1 = .ok (.invokespecial 3, 3) := by decide +kernel
theorem dX4_init_4 : decode cX4_init 4 = .ok (.aload_n 0, 1) := by decide +kernel
theorem dX4_init_5 : decode cX4_init 5 = .ok (.bipush 26, 2) := by decide +kernel
theorem dX4_init_7 : decode cX4_init 7 = .ok (.newarray .int, 2) := by decide +kernel
theorem dX4_init_9 : decode cX4_init 9 = .ok (.putfield 9, 3) := by decide +kernel
theorem dX4_init_12 : decode cX4_init 12 = .ok (.return_, 1) := by decide +kernel
theorem dX4_parse_0 : decode cX4_parse 0 = .ok (.aload_n 2, 1) := by decide +kernel
theorem dX4_parse_1 : decode cX4_parse 1 = .ok (.invokevirtual 15, 3) := by decide +kernel
theorem dX4_parse_4 : decode cX4_parse 4 = .ok (.aload_n 0, 1) := by decide +kernel
theorem dX4_parse_5 : decode cX4_parse 5 = .ok (.getfield 9, 3) := by decide +kernel
theorem dX4_parse_8 : decode cX4_parse 8 = .ok (.iconst (-1), 1) := by decide +kernel
theorem dX4_parse_9 : decode cX4_parse 9 = .ok (.invokestatic 20, 3) := by decide +kernel
theorem dX4_parse_12 : decode cX4_parse 12 = .ok (.aload_n 1, 1) := by decide +kernel
theorem dX4_parse_13 : decode cX4_parse 13 = .ok (.invokevirtual 26, 3) := by decide +kernel
theorem dX4_parse_16 : decode cX4_parse 16 = .ok (.iconst 0, 1) := by decide +kernel
theorem dX4_parse_17 : decode cX4_parse 17 = .ok (.istore_n 3, 1) := by decide +kernel
theorem dX4_parse_18 : decode cX4_parse 18 = .ok (.iload_n 3, 1) := by decide +kernel
theorem dX4_parse_19 : decode cX4_parse 19 = .ok (.bipush 12, 2) := by decide +kernel
theorem dX4_parse_21 : decode cX4_parse 21 = .ok (.if_icmp .ge 105, 3) := by decide +kernel
theorem dX4_parse_24 : decode cX4_parse 24 = .ok (.aload_n 2, 1) := by decide +kernel
theorem dX4_parse_25 : decode cX4_parse 25 = .ok (.iload_n 3, 1) := by decide +kernel
theorem dX4_parse_26 : decode cX4_parse 26 = .ok (.invokevirtual 31, 3) := by decide +kernel
theorem dX4_parse_29 : decode cX4_parse 29 = .ok (.astore 4, 2) := by decide +kernel
theorem dX4_parse_31 : decode cX4_parse 31 = .ok (.aload 4, 2) := by decide +kernel
theorem dX4_parse_33 : decode cX4_parse 33 = .ok (.invokevirtual 35, 3) := by decide +kernel
theorem dX4_parse_36 : decode cX4_parse 36 = .ok (.aload_n 0, 1) := by decide +kernel
theorem dX4_parse_37 : decode cX4_parse 37 = .ok (.aload_n 1, 1) := by decide +kernel
theorem dX4_parse_38 : decode cX4_parse 38 = .ok (.invokevirtual 38, 3) := by decide +kernel
theorem dX4_parse_41 : decode cX4_parse 41 = .ok (.istore 5, 2) := by decide +kernel
theorem dX4_parse_43 : decode cX4_parse 43 = .ok (.iload 5, 2) := by decide +kernel
theorem dX4_parse_45 : decode cX4_parse 45 = .ok (.iconst (-1), 1) := by decide +kernel
theorem dX4_parse_46 : decode cX4_parse 46 = .ok (.if_icmp .eq 33, 3) := by decide +kernel
theorem dX4_parse_49 : decode cX4_parse 49 = .ok (.aload_n 0, 1) := by decide +kernel
theorem dX4_parse_50 : decode cX4_parse 50 = .ok (.aload_n 1, 1) := by decide +kernel
theorem dX4_parse_51 : decode cX4_parse 51 = .ok (.bipush 61, 2) := by decide +kernel
theorem dX4_parse_53 : decode cX4_parse 53 = .ok (.invokevirtual 42, 3) := by decide +kernel
theorem dX4_parse_56 : decode cX4_parse 56 = .ok (.ifCond .eq 23, 3) := by decide +kernel
theorem dX4_parse_59 : decode cX4_parse 59 = .ok (.aload_n 0, 1) := by decide +kernel
theorem dX4_parse_60 : decode cX4_parse 60 = .ok (.aload_n 1, 1) := by decide +kernel
theorem dX4_parse_61 : decode cX4_parse 61 = .ok (.aload 4, 2) := by decide +kernel
theorem dX4_parse_63 : decode cX4_parse 63 = .ok (.invokevirtual 46, 3) := by decide +kernel
theorem dX4_parse_66 : decode cX4_parse 66 = .ok (.ifCond .eq 13, 3) := by decide +kernel
theorem dX4_parse_69 : decode cX4_parse 69 = .ok (.aload_n 0, 1) := by decide +kernel
theorem dX4_parse_70 : decode cX4_parse 70 = .ok (.aload_n 1, 1) := by decide +kernel
theorem dX4_parse_71 : decode cX4_parse 71 = .ok (.aload 4, 2) := by decide +kernel
theorem dX4_parse_73 : decode cX4_parse 73 = .ok (.invokevirtual 50, 3) := by decide +kernel
theorem dX4_parse_76 : decode cX4_parse 76 = .ok (.ifCond .ne 8, 3) := by decide +kernel
theorem dX4_parse_79 : decode cX4_parse 79 = .ok (.aload_n 1, 1) := by decide +kernel
theorem dX4_parse_80 : decode cX4_parse 80 = .ok (.invokevirtual 53, 3) := by decide +kernel
theorem dX4_parse_83 : decode cX4_parse 83 = .ok (.ireturn, 1) := by decide +kernel
theorem dX4_parse_84 : decode cX4_parse 84 = .ok (.aload_n 0, 1) := by decide +kernel
theorem dX4_parse_85 : decode cX4_parse 85 = .ok (.getfield 9, 3) := by decide +kernel
theorem dX4_parse_88 : decode cX4_parse 88 = .ok (.iload 5, 2) := by decide +kernel
theorem dX4_parse_90 : decode cX4_parse 90 = .ok (.iload_n 3, 1) := by decide +kernel
theorem dX4_parse_91 : decode cX4_parse 91 = .ok (.iastore, 1) := by decide +kernel
theorem dX4_parse_92 : decode cX4_parse 92 = .ok (.aload_n 2, 1) := by decide +kernel
theorem dX4_parse_93 : decode cX4_parse 93 = .ok (.invokevirtual 57, 3) := by decide +kernel
theorem dX4_parse_96 : decode cX4_parse 96 = .ok (.aload_n 1, 1) := by decide +kernel
theorem dX4_parse_97 : decode cX4_parse 97 = .ok (.invokevirtual 60, 3) := by decide +kernel
theorem dX4_parse_100 : decode cX4_parse 100 = .ok (.ifCond .eq 5, 3) := by decide +kernel
theorem dX4_parse_103 : decode cX4_parse 103 = .ok (.iconst (-1), 1) := by decide +kernel
theorem dX4_parse_104 : decode cX4_parse 104 = .ok (.ireturn, 1) := by decide +kernel
theorem dX4_parse_105 : decode cX4_parse 105 = .ok (.aload_n 0, 1) := by decide +kernel
theorem dX4_parse_106 : decode cX4_parse 106 = .ok (.aload_n 1, 1) := by decide +kernel
theorem dX4_parse_107 : decode cX4_parse 107 = .ok (.bipush 59, 2) := by decide +kernel
theorem dX4_parse_109 : decode cX4_parse 109 = .ok (.invokevirtual 42, 3) := by decide +kernel
theorem dX4_parse_112 : decode cX4_parse 112 = .ok (.ifCond .ne 8, 3) := by decide +kernel
theorem dX4_parse_115 : decode cX4_parse 115 = .ok (.aload_n 1, 1) := by decide +kernel
theorem dX4_parse_116 : decode cX4_parse 116 = .ok (.invokevirtual 53, 3) := by decide +kernel
theorem dX4_parse_119 : decode cX4_parse 119 = .ok (.ireturn, 1) := by decide +kernel
theorem dX4_parse_120 : decode cX4_parse 120 = .ok (.iinc 3 1, 3) := by decide +kernel
theorem dX4_parse_123 : decode cX4_parse 123 = .ok (.goto (-105), 3) := by decide +kernel
theorem dX4_parse_126 : decode cX4_parse 126 = .ok (.aload_n 1, 1) := by decide +kernel
theorem dX4_parse_127 : decode cX4_parse 127 = .ok (.invokevirtual 53, 3) := by decide +kernel
theorem dX4_parse_130 : decode cX4_parse 130 = .ok (.ireturn, 1) := by decide +kernel
theorem dX4_takeNewName_0 : decode cX4_takeNewName 0 = .ok (.aload_n 1, 1) := by decide +kernel
theorem dX4_takeNewName_1 : decode cX4_takeNewName 1 = .ok (.invokevirtual 64, 3) := by decide +kernel
theorem dX4_takeNewName_4 : decode cX4_takeNewName 4 = .ok (.istore_n 2, 1) := by decide +kernel
theorem dX4_takeNewName_5 : decode cX4_takeNewName 5 = .ok (.iload_n 2, 1) := by decide +kernel
theorem dX4_takeNewName_6 : decode cX4_takeNewName 6 = .ok (.iconst (-1), 1) := by decide +kernel
theorem dX4_takeNewName_7 : decode cX4_takeNewName 7 = .ok (.if_icmp .eq 13, 3) := by decide +kernel
theorem dX4_takeNewName_10 : decode cX4_takeNewName 10 = .ok (.aload_n 0, 1) := by decide +kernel
theorem dX4_takeNewName_11 : decode cX4_takeNewName 11 = .ok (.getfield 9, 3) := by decide +kernel
theorem dX4_takeNewName_14 : decode cX4_takeNewName 14 = .ok (.iload_n 2, 1) := by decide +kernel
theorem dX4_takeNewName_15 : decode cX4_takeNewName 15 = .ok (.iaload, 1) := by decide +kernel
theorem dX4_takeNewName_16 : decode cX4_takeNewName 16 = .ok (.iconst (-1), 1) := by decide +kernel
theorem dX4_takeNewName_17 : decode cX4_takeNewName 17 = .ok (.if_icmp .eq 5, 3) := by decide +kernel
theorem dX4_takeNewName_20 : decode cX4_takeNewName 20 = .ok (.iconst (-1), 1) := by decide +kernel
theorem dX4_takeNewName_21 : decode cX4_takeNewName 21 = .ok (.ireturn, 1) := by decide +kernel
theorem dX4_takeNewName_22 : decode cX4_takeNewName 22 = .ok (.aload_n 1, 1) := by decide +kernel
theorem dX4_takeNewName_23 : decode cX4_takeNewName 23 = .ok (.invokevirtual 67, 3) := by decide +kernel
theorem dX4_takeNewName_26 : decode cX4_takeNewName 26 = .ok (.iload_n 2, 1) := by decide +kernel
theorem dX4_takeNewName_27 : decode cX4_takeNewName 27 = .ok (.ireturn, 1) := by decide +kernel
theorem dX4_takeKind_0 : decode cX4_takeKind 0 = .ok (.iconst 0, 1) := by decide +kernel
theorem dX4_takeKind_1 : decode cX4_takeKind 1 = .ok (.istore_n 3, 1) := by decide +kernel
theorem dX4_takeKind_2 : decode cX4_takeKind 2 = .ok (.iload_n 3, 1) := by decide +kernel
theorem dX4_takeKind_3 : decode cX4_takeKind 3 = .ok (.bipush 13, 2) := by decide +kernel
theorem dX4_takeKind_5 : decode cX4_takeKind 5 = .ok (.if_icmp .ge 31, 3) := by decide +kernel
theorem dX4_takeKind_8 : decode cX4_takeKind 8 = .ok (.aload_n 1, 1) := by decide +kernel
theorem dX4_takeKind_9 : decode cX4_takeKind 9 = .ok (.iload_n 3, 1) := by decide +kernel
theorem dX4_takeKind_10 : decode cX4_takeKind 10 = .ok (.invokestatic 70, 3) := by decide +kernel
theorem dX4_takeKind_13 : decode cX4_takeKind 13 = .ok (.invokevirtual 74, 3) := by decide +kernel
theorem dX4_takeKind_16 : decode cX4_takeKind 16 = .ok (.ifCond .eq 14, 3) := by decide +kernel
theorem dX4_takeKind_19 : decode cX4_takeKind 19 = .ok (.aload_n 2, 1) := by decide +kernel
theorem dX4_takeKind_20 : decode cX4_takeKind 20 = .ok (.iload_n 3, 1) := by decide +kernel
theorem dX4_takeKind_21 : decode cX4_takeKind 21 = .ok (.putfield 78, 3) := by decide +kernel
theorem dX4_takeKind_24 : decode cX4_takeKind 24 = .ok (.aload_n 1, 1) := by decide +kernel
theorem dX4_takeKind_25 : decode cX4_takeKind 25 = .ok (.invokevirtual 67, 3) := by decide +kernel
theorem dX4_takeKind_28 : decode cX4_takeKind 28 = .ok (.iconst 1, 1) := by decide +kernel
theorem dX4_takeKind_29 : decode cX4_takeKind 29 = .ok (.ireturn, 1) := by decide +kernel
theorem dX4_takeKind_30 : decode cX4_takeKind 30 = .ok (.iinc 3 1, 3) := by decide +kernel
theorem dX4_takeKind_33 : decode cX4_takeKind 33 = .ok (.goto (-31), 3) := by decide +kernel
theorem dX4_takeKind_36 : decode cX4_takeKind 36 = .ok (.iconst 0, 1) := by decide +kernel
theorem dX4_takeKind_37 : decode cX4_takeKind 37 = .ok (.ireturn, 1) := by decide +kernel
theorem dX4_wordOf_0 : decode cX4_wordOf 0 = .ok (.iload_n 0, 1) := by decide +kernel
theorem dX4_wordOf_1 : decode cX4_wordOf 1 = .ok (.tableswitch 99 0 11 #[63, 66, 69, 72, 75, 78, 81, 84, 87, 90, 93, 96], 63) := by decide +kernel
theorem dX4_wordOf_64 : decode cX4_wordOf 64 = .ok (.ldc 82, 2) := by decide +kernel
theorem dX4_wordOf_66 : decode cX4_wordOf 66 = .ok (.areturn, 1) := by decide +kernel
theorem dX4_wordOf_67 : decode cX4_wordOf 67 = .ok (.ldc 84, 2) := by decide +kernel
theorem dX4_wordOf_69 : decode cX4_wordOf 69 = .ok (.areturn, 1) := by decide +kernel
theorem dX4_wordOf_70 : decode cX4_wordOf 70 = .ok (.ldc 86, 2) := by decide +kernel
theorem dX4_wordOf_72 : decode cX4_wordOf 72 = .ok (.areturn, 1) := by decide +kernel
theorem dX4_wordOf_73 : decode cX4_wordOf 73 = .ok (.ldc 88, 2) := by decide +kernel
theorem dX4_wordOf_75 : decode cX4_wordOf 75 = .ok (.areturn, 1) := by decide +kernel
theorem dX4_wordOf_76 : decode cX4_wordOf 76 = .ok (.ldc 90, 2) := by decide +kernel
theorem dX4_wordOf_78 : decode cX4_wordOf 78 = .ok (.areturn, 1) := by decide +kernel
theorem dX4_wordOf_79 : decode cX4_wordOf 79 = .ok (.ldc 92, 2) := by decide +kernel
theorem dX4_wordOf_81 : decode cX4_wordOf 81 = .ok (.areturn, 1) := by decide +kernel
theorem dX4_wordOf_82 : decode cX4_wordOf 82 = .ok (.ldc 94, 2) := by decide +kernel
theorem dX4_wordOf_84 : decode cX4_wordOf 84 = .ok (.areturn, 1) := by decide +kernel
theorem dX4_wordOf_85 : decode cX4_wordOf 85 = .ok (.ldc 96, 2) := by decide +kernel
theorem dX4_wordOf_87 : decode cX4_wordOf 87 = .ok (.areturn, 1) := by decide +kernel
theorem dX4_wordOf_88 : decode cX4_wordOf 88 = .ok (.ldc 98, 2) := by decide +kernel
theorem dX4_wordOf_90 : decode cX4_wordOf 90 = .ok (.areturn, 1) := by decide +kernel
theorem dX4_wordOf_91 : decode cX4_wordOf 91 = .ok (.ldc 100, 2) := by decide +kernel
theorem dX4_wordOf_93 : decode cX4_wordOf 93 = .ok (.areturn, 1) := by decide +kernel
theorem dX4_wordOf_94 : decode cX4_wordOf 94 = .ok (.ldc 102, 2) := by decide +kernel
theorem dX4_wordOf_96 : decode cX4_wordOf 96 = .ok (.areturn, 1) := by decide +kernel
theorem dX4_wordOf_97 : decode cX4_wordOf 97 = .ok (.ldc 104, 2) := by decide +kernel
theorem dX4_wordOf_99 : decode cX4_wordOf 99 = .ok (.areturn, 1) := by decide +kernel
theorem dX4_wordOf_100 : decode cX4_wordOf 100 = .ok (.ldc 106, 2) := by decide +kernel
theorem dX4_wordOf_102 : decode cX4_wordOf 102 = .ok (.areturn, 1) := by decide +kernel
theorem dX4_takeParts_0 : decode cX4_takeParts 0 = .ok (.aload_n 2, 1) := by decide +kernel
theorem dX4_takeParts_1 : decode cX4_takeParts 1 = .ok (.getfield 78, 3) := by decide +kernel
theorem dX4_takeParts_4 : decode cX4_takeParts 4 = .ok (.ifCond .ne 12, 3) := by decide +kernel
theorem dX4_takeParts_7 : decode cX4_takeParts 7 = .ok (.aload_n 0, 1) := by decide +kernel
theorem dX4_takeParts_8 : decode cX4_takeParts 8 = .ok (.aload_n 1, 1) := by decide +kernel
theorem dX4_takeParts_9 : decode cX4_takeParts 9 = .ok (.aload_n 2, 1) := by decide +kernel
theorem dX4_takeParts_10 : decode cX4_takeParts 10 = .ok (.iconst 0, 1) := by decide +kernel
theorem dX4_takeParts_11 : decode cX4_takeParts 11 = .ok (.iconst 2, 1) := by decide +kernel
theorem dX4_takeParts_12 : decode cX4_takeParts 12 = .ok (.invokevirtual 108, 3) := by decide +kernel
theorem dX4_takeParts_15 : decode cX4_takeParts 15 = .ok (.ireturn, 1) := by decide +kernel
theorem dX4_takeParts_16 : decode cX4_takeParts 16 = .ok (.aload_n 0, 1) := by decide +kernel
theorem dX4_takeParts_17 : decode cX4_takeParts 17 = .ok (.aload_n 1, 1) := by decide +kernel
theorem dX4_takeParts_18 : decode cX4_takeParts 18 = .ok (.aload_n 2, 1) := by decide +kernel
theorem dX4_takeParts_19 : decode cX4_takeParts 19 = .ok (.invokevirtual 112, 3) := by decide +kernel
theorem dX4_takeParts_22 : decode cX4_takeParts 22 = .ok (.ifCond .ne 5, 3) := by decide +kernel
theorem dX4_takeParts_25 : decode cX4_takeParts 25 = .ok (.iconst 0, 1) := by decide +kernel
theorem dX4_takeParts_26 : decode cX4_takeParts 26 = .ok (.ireturn, 1) := by decide +kernel
theorem dX4_takeParts_27 : decode cX4_takeParts 27 = .ok (.aload_n 2, 1) := by decide +kernel
theorem dX4_takeParts_28 : decode cX4_takeParts 28 = .ok (.getfield 78, 3) := by decide +kernel
theorem dX4_takeParts_31 : decode cX4_takeParts 31 = .ok (.tableswitch 129 1 12 #[61, 94, 94, 101, 111, 129, 129, 129, 129, 129, 122, 122], 61) := by decide +kernel
theorem dX4_takeParts_92 : decode cX4_takeParts 92 = .ok (.aload_n 0, 1) := by decide +kernel
theorem dX4_takeParts_93 : decode cX4_takeParts 93 = .ok (.aload_n 1, 1) := by decide +kernel
theorem dX4_takeParts_94 : decode cX4_takeParts 94 = .ok (.aload_n 2, 1) := by decide +kernel
theorem dX4_takeParts_95 : decode cX4_takeParts 95 = .ok (.invokevirtual 115, 3) := by decide +kernel
theorem dX4_takeParts_98 : decode cX4_takeParts 98 = .ok (.ifCond .eq 25, 3) := by decide +kernel
theorem dX4_takeParts_101 : decode cX4_takeParts 101 = .ok (.aload_n 0, 1) := by decide +kernel
theorem dX4_takeParts_102 : decode cX4_takeParts 102 = .ok (.aload_n 1, 1) := by decide +kernel
theorem dX4_takeParts_103 : decode cX4_takeParts 103 = .ok (.aload_n 2, 1) := by decide +kernel
theorem dX4_takeParts_104 : decode cX4_takeParts 104 = .ok (.invokevirtual 118, 3) := by decide +kernel
theorem dX4_takeParts_107 : decode cX4_takeParts 107 = .ok (.ifCond .eq 16, 3) := by decide +kernel
theorem dX4_takeParts_110 : decode cX4_takeParts 110 = .ok (.aload_n 0, 1) := by decide +kernel
theorem dX4_takeParts_111 : decode cX4_takeParts 111 = .ok (.aload_n 1, 1) := by decide +kernel
theorem dX4_takeParts_112 : decode cX4_takeParts 112 = .ok (.aload_n 2, 1) := by decide +kernel
theorem dX4_takeParts_113 : decode cX4_takeParts 113 = .ok (.invokevirtual 121, 3) := by decide +kernel
theorem dX4_takeParts_116 : decode cX4_takeParts 116 = .ok (.ifCond .eq 7, 3) := by decide +kernel
theorem dX4_takeParts_119 : decode cX4_takeParts 119 = .ok (.iconst 1, 1) := by decide +kernel
theorem dX4_takeParts_120 : decode cX4_takeParts 120 = .ok (.goto 4, 3) := by decide +kernel
theorem dX4_takeParts_123 : decode cX4_takeParts 123 = .ok (.iconst 0, 1) := by decide +kernel
theorem dX4_takeParts_124 : decode cX4_takeParts 124 = .ok (.ireturn, 1) := by decide +kernel
theorem dX4_takeParts_125 : decode cX4_takeParts 125 = .ok (.aload_n 0, 1) := by decide +kernel
theorem dX4_takeParts_126 : decode cX4_takeParts 126 = .ok (.aload_n 1, 1) := by decide +kernel
theorem dX4_takeParts_127 : decode cX4_takeParts 127 = .ok (.aload_n 2, 1) := by decide +kernel
theorem dX4_takeParts_128 : decode cX4_takeParts 128 = .ok (.invokevirtual 121, 3) := by decide +kernel
theorem dX4_takeParts_131 : decode cX4_takeParts 131 = .ok (.ireturn, 1) := by decide +kernel
theorem dX4_takeParts_132 : decode cX4_takeParts 132 = .ok (.aload_n 0, 1) := by decide +kernel
theorem dX4_takeParts_133 : decode cX4_takeParts 133 = .ok (.aload_n 1, 1) := by decide +kernel
theorem dX4_takeParts_134 : decode cX4_takeParts 134 = .ok (.aload_n 2, 1) := by decide +kernel
theorem dX4_takeParts_135 : decode cX4_takeParts 135 = .ok (.iconst 0, 1) := by decide +kernel
theorem dX4_takeParts_136 : decode cX4_takeParts 136 = .ok (.bipush 31, 2) := by decide +kernel
theorem dX4_takeParts_138 : decode cX4_takeParts 138 = .ok (.invokevirtual 108, 3) := by decide +kernel
theorem dX4_takeParts_141 : decode cX4_takeParts 141 = .ok (.ireturn, 1) := by decide +kernel
theorem dX4_takeParts_142 : decode cX4_takeParts 142 = .ok (.aload_n 0, 1) := by decide +kernel
theorem dX4_takeParts_143 : decode cX4_takeParts 143 = .ok (.aload_n 1, 1) := by decide +kernel
theorem dX4_takeParts_144 : decode cX4_takeParts 144 = .ok (.aload_n 2, 1) := by decide +kernel
theorem dX4_takeParts_145 : decode cX4_takeParts 145 = .ok (.iconst 1, 1) := by decide +kernel
theorem dX4_takeParts_146 : decode cX4_takeParts 146 = .ok (.sipush 1000, 3) := by decide +kernel
theorem dX4_takeParts_149 : decode cX4_takeParts 149 = .ok (.invokevirtual 108, 3) := by decide +kernel
theorem dX4_takeParts_152 : decode cX4_takeParts 152 = .ok (.ireturn, 1) := by decide +kernel
theorem dX4_takeParts_153 : decode cX4_takeParts 153 = .ok (.aload_n 0, 1) := by decide +kernel
theorem dX4_takeParts_154 : decode cX4_takeParts 154 = .ok (.aload_n 1, 1) := by decide +kernel
theorem dX4_takeParts_155 : decode cX4_takeParts 155 = .ok (.aload_n 2, 1) := by decide +kernel
theorem dX4_takeParts_156 : decode cX4_takeParts 156 = .ok (.invokevirtual 124, 3) := by decide +kernel
theorem dX4_takeParts_159 : decode cX4_takeParts 159 = .ok (.ireturn, 1) := by decide +kernel
theorem dX4_takeParts_160 : decode cX4_takeParts 160 = .ok (.iconst 1, 1) := by decide +kernel
theorem dX4_takeParts_161 : decode cX4_takeParts 161 = .ok (.ireturn, 1) := by decide +kernel
theorem dX4_takeLeft_0 : decode cX4_takeLeft 0 = .ok (.aload_n 2, 1) := by decide +kernel
theorem dX4_takeLeft_1 : decode cX4_takeLeft 1 = .ok (.aload_n 0, 1) := by decide +kernel
theorem dX4_takeLeft_2 : decode cX4_takeLeft 2 = .ok (.aload_n 1, 1) := by decide +kernel
theorem dX4_takeLeft_3 : decode cX4_takeLeft 3 = .ok (.invokevirtual 127, 3) := by decide +kernel
theorem dX4_takeLeft_6 : decode cX4_takeLeft 6 = .ok (.putfield 130, 3) := by decide +kernel
theorem dX4_takeLeft_9 : decode cX4_takeLeft 9 = .ok (.aload_n 2, 1) := by decide +kernel
theorem dX4_takeLeft_10 : decode cX4_takeLeft 10 = .ok (.getfield 130, 3) := by decide +kernel
theorem dX4_takeLeft_13 : decode cX4_takeLeft 13 = .ok (.iconst (-1), 1) := by decide +kernel
theorem dX4_takeLeft_14 : decode cX4_takeLeft 14 = .ok (.if_icmp .eq 7, 3) := by decide +kernel
theorem dX4_takeLeft_17 : decode cX4_takeLeft 17 = .ok (.iconst 1, 1) := by decide +kernel
theorem dX4_takeLeft_18 : decode cX4_takeLeft 18 = .ok (.goto 4, 3) := by decide +kernel
theorem dX4_takeLeft_21 : decode cX4_takeLeft 21 = .ok (.iconst 0, 1) := by decide +kernel
theorem dX4_takeLeft_22 : decode cX4_takeLeft 22 = .ok (.ireturn, 1) := by decide +kernel
theorem dX4_takeRight_0 : decode cX4_takeRight 0 = .ok (.aload_n 2, 1) := by decide +kernel
theorem dX4_takeRight_1 : decode cX4_takeRight 1 = .ok (.aload_n 0, 1) := by decide +kernel
theorem dX4_takeRight_2 : decode cX4_takeRight 2 = .ok (.aload_n 1, 1) := by decide +kernel
theorem dX4_takeRight_3 : decode cX4_takeRight 3 = .ok (.invokevirtual 127, 3) := by decide +kernel
theorem dX4_takeRight_6 : decode cX4_takeRight 6 = .ok (.putfield 133, 3) := by decide +kernel
theorem dX4_takeRight_9 : decode cX4_takeRight 9 = .ok (.aload_n 2, 1) := by decide +kernel
theorem dX4_takeRight_10 : decode cX4_takeRight 10 = .ok (.getfield 133, 3) := by decide +kernel
theorem dX4_takeRight_13 : decode cX4_takeRight 13 = .ok (.iconst (-1), 1) := by decide +kernel
theorem dX4_takeRight_14 : decode cX4_takeRight 14 = .ok (.if_icmp .eq 7, 3) := by decide +kernel
theorem dX4_takeRight_17 : decode cX4_takeRight 17 = .ok (.iconst 1, 1) := by decide +kernel
theorem dX4_takeRight_18 : decode cX4_takeRight 18 = .ok (.goto 4, 3) := by decide +kernel
theorem dX4_takeRight_21 : decode cX4_takeRight 21 = .ok (.iconst 0, 1) := by decide +kernel
theorem dX4_takeRight_22 : decode cX4_takeRight 22 = .ok (.ireturn, 1) := by decide +kernel
theorem dX4_takeName_0 : decode cX4_takeName 0 = .ok (.aload_n 1, 1) := by decide +kernel
theorem dX4_takeName_1 : decode cX4_takeName 1 = .ok (.invokevirtual 64, 3) := by decide +kernel
theorem dX4_takeName_4 : decode cX4_takeName 4 = .ok (.istore_n 2, 1) := by decide +kernel
theorem dX4_takeName_5 : decode cX4_takeName 5 = .ok (.iload_n 2, 1) := by decide +kernel
theorem dX4_takeName_6 : decode cX4_takeName 6 = .ok (.iconst (-1), 1) := by decide +kernel
theorem dX4_takeName_7 : decode cX4_takeName 7 = .ok (.if_icmp .ne 7, 3) := by decide +kernel
theorem dX4_takeName_10 : decode cX4_takeName 10 = .ok (.iconst (-1), 1) := by decide +kernel
theorem dX4_takeName_11 : decode cX4_takeName 11 = .ok (.goto 9, 3) := by decide +kernel
theorem dX4_takeName_14 : decode cX4_takeName 14 = .ok (.aload_n 0, 1) := by decide +kernel
theorem dX4_takeName_15 : decode cX4_takeName 15 = .ok (.getfield 9, 3) := by decide +kernel
theorem dX4_takeName_18 : decode cX4_takeName 18 = .ok (.iload_n 2, 1) := by decide +kernel
theorem dX4_takeName_19 : decode cX4_takeName 19 = .ok (.iaload, 1) := by decide +kernel
theorem dX4_takeName_20 : decode cX4_takeName 20 = .ok (.istore_n 3, 1) := by decide +kernel
theorem dX4_takeName_21 : decode cX4_takeName 21 = .ok (.iload_n 3, 1) := by decide +kernel
theorem dX4_takeName_22 : decode cX4_takeName 22 = .ok (.iconst (-1), 1) := by decide +kernel
theorem dX4_takeName_23 : decode cX4_takeName 23 = .ok (.if_icmp .eq 7, 3) := by decide +kernel
theorem dX4_takeName_26 : decode cX4_takeName 26 = .ok (.aload_n 1, 1) := by decide +kernel
theorem dX4_takeName_27 : decode cX4_takeName 27 = .ok (.invokevirtual 67, 3) := by decide +kernel
theorem dX4_takeName_30 : decode cX4_takeName 30 = .ok (.iload_n 3, 1) := by decide +kernel
theorem dX4_takeName_31 : decode cX4_takeName 31 = .ok (.ireturn, 1) := by decide +kernel
theorem dX4_takeColumn_0 : decode cX4_takeColumn 0 = .ok (.aload_n 1, 1) := by decide +kernel
theorem dX4_takeColumn_1 : decode cX4_takeColumn 1 = .ok (.ldc 136, 2) := by decide +kernel
theorem dX4_takeColumn_3 : decode cX4_takeColumn 3 = .ok (.invokevirtual 74, 3) := by decide +kernel
theorem dX4_takeColumn_6 : decode cX4_takeColumn 6 = .ok (.ifCond .eq 11, 3) := by decide +kernel
theorem dX4_takeColumn_9 : decode cX4_takeColumn 9 = .ok (.aload_n 2, 1) := by decide +kernel
theorem dX4_takeColumn_10 : decode cX4_takeColumn 10 = .ok (.iconst 0, 1) := by decide +kernel
theorem dX4_takeColumn_11 : decode cX4_takeColumn 11 = .ok (.putfield 138, 3) := by decide +kernel
theorem dX4_takeColumn_14 : decode cX4_takeColumn 14 = .ok (.goto 39, 3) := by decide +kernel
theorem dX4_takeColumn_17 : decode cX4_takeColumn 17 = .ok (.aload_n 1, 1) := by decide +kernel
theorem dX4_takeColumn_18 : decode cX4_takeColumn 18 = .ok (.ldc 141, 2) := by decide +kernel
theorem dX4_takeColumn_20 : decode cX4_takeColumn 20 = .ok (.invokevirtual 74, 3) := by decide +kernel
theorem dX4_takeColumn_23 : decode cX4_takeColumn 23 = .ok (.ifCond .eq 11, 3) := by decide +kernel
theorem dX4_takeColumn_26 : decode cX4_takeColumn 26 = .ok (.aload_n 2, 1) := by decide +kernel
theorem dX4_takeColumn_27 : decode cX4_takeColumn 27 = .ok (.iconst 1, 1) := by decide +kernel
theorem dX4_takeColumn_28 : decode cX4_takeColumn 28 = .ok (.putfield 138, 3) := by decide +kernel
theorem dX4_takeColumn_31 : decode cX4_takeColumn 31 = .ok (.goto 22, 3) := by decide +kernel
theorem dX4_takeColumn_34 : decode cX4_takeColumn 34 = .ok (.aload_n 1, 1) := by decide +kernel
theorem dX4_takeColumn_35 : decode cX4_takeColumn 35 = .ok (.ldc 143, 2) := by decide +kernel
theorem dX4_takeColumn_37 : decode cX4_takeColumn 37 = .ok (.invokevirtual 74, 3) := by decide +kernel
theorem dX4_takeColumn_40 : decode cX4_takeColumn 40 = .ok (.ifCond .eq 11, 3) := by decide +kernel
theorem dX4_takeColumn_43 : decode cX4_takeColumn 43 = .ok (.aload_n 2, 1) := by decide +kernel
theorem dX4_takeColumn_44 : decode cX4_takeColumn 44 = .ok (.iconst 2, 1) := by decide +kernel
theorem dX4_takeColumn_45 : decode cX4_takeColumn 45 = .ok (.putfield 138, 3) := by decide +kernel
theorem dX4_takeColumn_48 : decode cX4_takeColumn 48 = .ok (.goto 5, 3) := by decide +kernel
theorem dX4_takeColumn_51 : decode cX4_takeColumn 51 = .ok (.iconst 0, 1) := by decide +kernel
theorem dX4_takeColumn_52 : decode cX4_takeColumn 52 = .ok (.ireturn, 1) := by decide +kernel
theorem dX4_takeColumn_53 : decode cX4_takeColumn 53 = .ok (.aload_n 1, 1) := by decide +kernel
theorem dX4_takeColumn_54 : decode cX4_takeColumn 54 = .ok (.invokevirtual 67, 3) := by decide +kernel
theorem dX4_takeColumn_57 : decode cX4_takeColumn 57 = .ok (.iconst 1, 1) := by decide +kernel
theorem dX4_takeColumn_58 : decode cX4_takeColumn 58 = .ok (.ireturn, 1) := by decide +kernel
theorem dX4_takeRelation_0 : decode cX4_takeRelation 0 = .ok (.aload_n 0, 1) := by decide +kernel
theorem dX4_takeRelation_1 : decode cX4_takeRelation 1 = .ok (.aload_n 1, 1) := by decide +kernel
theorem dX4_takeRelation_2 : decode cX4_takeRelation 2 = .ok (.bipush 60, 2) := by decide +kernel
theorem dX4_takeRelation_4 : decode cX4_takeRelation 4 = .ok (.invokevirtual 42, 3) := by decide +kernel
theorem dX4_takeRelation_7 : decode cX4_takeRelation 7 = .ok (.ifCond .eq 12, 3) := by decide +kernel
theorem dX4_takeRelation_10 : decode cX4_takeRelation 10 = .ok (.aload_n 2, 1) := by decide +kernel
theorem dX4_takeRelation_11 : decode cX4_takeRelation 11 = .ok (.bipush 60, 2) := by decide +kernel
theorem dX4_takeRelation_13 : decode cX4_takeRelation 13 = .ok (.putfield 145, 3) := by decide +kernel
theorem dX4_takeRelation_16 : decode cX4_takeRelation 16 = .ok (.goto 36, 3) := by decide +kernel
theorem dX4_takeRelation_19 : decode cX4_takeRelation 19 = .ok (.aload_n 0, 1) := by decide +kernel
theorem dX4_takeRelation_20 : decode cX4_takeRelation 20 = .ok (.aload_n 1, 1) := by decide +kernel
theorem dX4_takeRelation_21 : decode cX4_takeRelation 21 = .ok (.bipush 62, 2) := by decide +kernel
theorem dX4_takeRelation_23 : decode cX4_takeRelation 23 = .ok (.invokevirtual 42, 3) := by decide +kernel
theorem dX4_takeRelation_26 : decode cX4_takeRelation 26 = .ok (.ifCond .eq 12, 3) := by decide +kernel
theorem dX4_takeRelation_29 : decode cX4_takeRelation 29 = .ok (.aload_n 2, 1) := by decide +kernel
theorem dX4_takeRelation_30 : decode cX4_takeRelation 30 = .ok (.bipush 62, 2) := by decide +kernel
theorem dX4_takeRelation_32 : decode cX4_takeRelation 32 = .ok (.putfield 145, 3) := by decide +kernel
theorem dX4_takeRelation_35 : decode cX4_takeRelation 35 = .ok (.goto 17, 3) := by decide +kernel
theorem dX4_takeRelation_38 : decode cX4_takeRelation 38 = .ok (.aload_n 2, 1) := by decide +kernel
theorem dX4_takeRelation_39 : decode cX4_takeRelation 39 = .ok (.bipush 61, 2) := by decide +kernel
theorem dX4_takeRelation_41 : decode cX4_takeRelation 41 = .ok (.putfield 145, 3) := by decide +kernel
theorem dX4_takeRelation_44 : decode cX4_takeRelation 44 = .ok (.aload_n 0, 1) := by decide +kernel
theorem dX4_takeRelation_45 : decode cX4_takeRelation 45 = .ok (.aload_n 1, 1) := by decide +kernel
theorem dX4_takeRelation_46 : decode cX4_takeRelation 46 = .ok (.bipush 61, 2) := by decide +kernel
theorem dX4_takeRelation_48 : decode cX4_takeRelation 48 = .ok (.invokevirtual 42, 3) := by decide +kernel
theorem dX4_takeRelation_51 : decode cX4_takeRelation 51 = .ok (.ireturn, 1) := by decide +kernel
theorem dX4_takeRelation_52 : decode cX4_takeRelation 52 = .ok (.iconst 1, 1) := by decide +kernel
theorem dX4_takeRelation_53 : decode cX4_takeRelation 53 = .ok (.ireturn, 1) := by decide +kernel
theorem dX4_takeNumber_0 : decode cX4_takeNumber 0 = .ok (.aload_n 0, 1) := by decide +kernel
theorem dX4_takeNumber_1 : decode cX4_takeNumber 1 = .ok (.aload_n 1, 1) := by decide +kernel
theorem dX4_takeNumber_2 : decode cX4_takeNumber 2 = .ok (.bipush 45, 2) := by decide +kernel
theorem dX4_takeNumber_4 : decode cX4_takeNumber 4 = .ok (.invokevirtual 42, 3) := by decide +kernel
theorem dX4_takeNumber_7 : decode cX4_takeNumber 7 = .ok (.istore_n 3, 1) := by decide +kernel
theorem dX4_takeNumber_8 : decode cX4_takeNumber 8 = .ok (.aload_n 0, 1) := by decide +kernel
theorem dX4_takeNumber_9 : decode cX4_takeNumber 9 = .ok (.aload_n 1, 1) := by decide +kernel
theorem dX4_takeNumber_10 : decode cX4_takeNumber 10 = .ok (.aload_n 2, 1) := by decide +kernel
theorem dX4_takeNumber_11 : decode cX4_takeNumber 11 = .ok (.iconst 0, 1) := by decide +kernel
theorem dX4_takeNumber_12 : decode cX4_takeNumber 12 = .ok (.sipush 1000, 3) := by decide +kernel
theorem dX4_takeNumber_15 : decode cX4_takeNumber 15 = .ok (.invokevirtual 108, 3) := by decide +kernel
theorem dX4_takeNumber_18 : decode cX4_takeNumber 18 = .ok (.ifCond .ne 5, 3) := by decide +kernel
theorem dX4_takeNumber_21 : decode cX4_takeNumber 21 = .ok (.iconst 0, 1) := by decide +kernel
theorem dX4_takeNumber_22 : decode cX4_takeNumber 22 = .ok (.ireturn, 1) := by decide +kernel
theorem dX4_takeNumber_23 : decode cX4_takeNumber 23 = .ok (.iload_n 3, 1) := by decide +kernel
theorem dX4_takeNumber_24 : decode cX4_takeNumber 24 = .ok (.ifCond .eq 12, 3) := by decide +kernel
theorem dX4_takeNumber_27 : decode cX4_takeNumber 27 = .ok (.aload_n 2, 1) := by decide +kernel
theorem dX4_takeNumber_28 : decode cX4_takeNumber 28 = .ok (.aload_n 2, 1) := by decide +kernel
theorem dX4_takeNumber_29 : decode cX4_takeNumber 29 = .ok (.getfield 149, 3) := by decide +kernel
theorem dX4_takeNumber_32 : decode cX4_takeNumber 32 = .ok (.ineg, 1) := by decide +kernel
theorem dX4_takeNumber_33 : decode cX4_takeNumber 33 = .ok (.putfield 149, 3) := by decide +kernel
theorem dX4_takeNumber_36 : decode cX4_takeNumber 36 = .ok (.iconst 1, 1) := by decide +kernel
theorem dX4_takeNumber_37 : decode cX4_takeNumber 37 = .ok (.ireturn, 1) := by decide +kernel
theorem dX4_takeDigits_0 : decode cX4_takeDigits 0 = .ok (.aload_n 1, 1) := by decide +kernel
theorem dX4_takeDigits_1 : decode cX4_takeDigits 1 = .ok (.invokevirtual 152, 3) := by decide +kernel
theorem dX4_takeDigits_4 : decode cX4_takeDigits 4 = .ok (.istore 5, 2) := by decide +kernel
theorem dX4_takeDigits_6 : decode cX4_takeDigits 6 = .ok (.iload 5, 2) := by decide +kernel
theorem dX4_takeDigits_8 : decode cX4_takeDigits 8 = .ok (.iconst (-1), 1) := by decide +kernel
theorem dX4_takeDigits_9 : decode cX4_takeDigits 9 = .ok (.if_icmp .eq 14, 3) := by decide +kernel
theorem dX4_takeDigits_12 : decode cX4_takeDigits 12 = .ok (.iload 5, 2) := by decide +kernel
theorem dX4_takeDigits_14 : decode cX4_takeDigits 14 = .ok (.iload_n 3, 1) := by decide +kernel
theorem dX4_takeDigits_15 : decode cX4_takeDigits 15 = .ok (.iload 4, 2) := by decide +kernel
theorem dX4_takeDigits_17 : decode cX4_takeDigits 17 = .ok (.invokestatic 155, 3) := by decide +kernel
theorem dX4_takeDigits_20 : decode cX4_takeDigits 20 = .ok (.ifCond .ne 5, 3) := by decide +kernel
theorem dX4_takeDigits_23 : decode cX4_takeDigits 23 = .ok (.iconst 0, 1) := by decide +kernel
theorem dX4_takeDigits_24 : decode cX4_takeDigits 24 = .ok (.ireturn, 1) := by decide +kernel
theorem dX4_takeDigits_25 : decode cX4_takeDigits 25 = .ok (.aload_n 2, 1) := by decide +kernel
theorem dX4_takeDigits_26 : decode cX4_takeDigits 26 = .ok (.iload 5, 2) := by decide +kernel
theorem dX4_takeDigits_28 : decode cX4_takeDigits 28 = .ok (.putfield 149, 3) := by decide +kernel
theorem dX4_takeDigits_31 : decode cX4_takeDigits 31 = .ok (.aload_n 1, 1) := by decide +kernel
theorem dX4_takeDigits_32 : decode cX4_takeDigits 32 = .ok (.invokevirtual 67, 3) := by decide +kernel
theorem dX4_takeDigits_35 : decode cX4_takeDigits 35 = .ok (.iconst 1, 1) := by decide +kernel
theorem dX4_takeDigits_36 : decode cX4_takeDigits 36 = .ok (.ireturn, 1) := by decide +kernel
theorem dX4_takeSign_0 : decode cX4_takeSign 0 = .ok (.aload_n 1, 1) := by decide +kernel
theorem dX4_takeSign_1 : decode cX4_takeSign 1 = .ok (.iload_n 2, 1) := by decide +kernel
theorem dX4_takeSign_2 : decode cX4_takeSign 2 = .ok (.invokevirtual 159, 3) := by decide +kernel
theorem dX4_takeSign_5 : decode cX4_takeSign 5 = .ok (.ifCond .ne 5, 3) := by decide +kernel
theorem dX4_takeSign_8 : decode cX4_takeSign 8 = .ok (.iconst 0, 1) := by decide +kernel
theorem dX4_takeSign_9 : decode cX4_takeSign 9 = .ok (.ireturn, 1) := by decide +kernel
theorem dX4_takeSign_10 : decode cX4_takeSign 10 = .ok (.aload_n 1, 1) := by decide +kernel
theorem dX4_takeSign_11 : decode cX4_takeSign 11 = .ok (.invokevirtual 67, 3) := by decide +kernel
theorem dX4_takeSign_14 : decode cX4_takeSign 14 = .ok (.iconst 1, 1) := by decide +kernel
theorem dX4_takeSign_15 : decode cX4_takeSign 15 = .ok (.ireturn, 1) := by decide +kernel
theorem dX5_init_0 : decode cX5_init 0 = .ok (.aload_n 0, 1) := by decide +kernel
theorem dX5_init_1 : decode cX5_init 1 = .ok (.invokespecial 3, 3) := by decide +kernel
theorem dX5_init_4 : decode cX5_init 4 = .ok (.aload_n 0, 1) := by decide +kernel
theorem dX5_init_5 : decode cX5_init 5 = .ok (.bipush 12, 2) := by decide +kernel
theorem dX5_init_7 : decode cX5_init 7 = .ok (.anewarray 9, 3) := by decide +kernel
theorem dX5_init_10 : decode cX5_init 10 = .ok (.putfield 11, 3) := by decide +kernel
theorem dX5_init_13 : decode cX5_init 13 = .ok (.iconst 0, 1) := by decide +kernel
theorem dX5_init_14 : decode cX5_init 14 = .ok (.istore_n 1, 1) := by decide +kernel
theorem dX5_init_15 : decode cX5_init 15 = .ok (.iload_n 1, 1) := by decide +kernel
theorem dX5_init_16 : decode cX5_init 16 = .ok (.bipush 12, 2) := by decide +kernel
theorem dX5_init_18 : decode cX5_init 18 = .ok (.if_icmp .ge 22, 3) := by decide +kernel
theorem dX5_init_21 : decode cX5_init 21 = .ok (.aload_n 0, 1) := by decide +kernel
theorem dX5_init_22 : decode cX5_init 22 = .ok (.getfield 11, 3) := by decide +kernel
theorem dX5_init_25 : decode cX5_init 25 = .ok (.iload_n 1, 1) := by decide +kernel
theorem dX5_init_26 : decode cX5_init 26 = .ok (.new 9, 3) := by decide +kernel
theorem dX5_init_29 : decode cX5_init 29 = .ok (.dup, 1) := by decide +kernel
theorem dX5_init_30 : decode cX5_init 30 = .ok (.invokespecial 17, 3) := by decide +kernel
theorem dX5_init_33 : decode cX5_init 33 = .ok (.aastore, 1) := by decide +kernel
theorem dX5_init_34 : decode cX5_init 34 = .ok (.iinc 1 1, 3) := by decide +kernel
theorem dX5_init_37 : decode cX5_init 37 = .ok (.goto (-22), 3) := by decide +kernel
theorem dX5_init_40 : decode cX5_init 40 = .ok (.return_, 1) := by decide +kernel
theorem dX5_clear_0 : decode cX5_clear 0 = .ok (.aload_n 0, 1) := by decide +kernel
theorem dX5_clear_1 : decode cX5_clear 1 = .ok (.iconst 0, 1) := by decide +kernel
theorem dX5_clear_2 : decode cX5_clear 2 = .ok (.putfield 18, 3) := by decide +kernel
theorem dX5_clear_5 : decode cX5_clear 5 = .ok (.return_, 1) := by decide +kernel
theorem dX5_size_0 : decode cX5_size 0 = .ok (.aload_n 0, 1) := by decide +kernel
theorem dX5_size_1 : decode cX5_size 1 = .ok (.getfield 18, 3) := by decide +kernel
theorem dX5_size_4 : decode cX5_size 4 = .ok (.ireturn, 1) := by decide +kernel
theorem dX5_at_0 : decode cX5_at 0 = .ok (.aload_n 0, 1) := by decide +kernel
theorem dX5_at_1 : decode cX5_at 1 = .ok (.getfield 11, 3) := by decide +kernel
theorem dX5_at_4 : decode cX5_at 4 = .ok (.iload_n 1, 1) := by decide +kernel
theorem dX5_at_5 : decode cX5_at 5 = .ok (.iconst 0, 1) := by decide +kernel
theorem dX5_at_6 : decode cX5_at 6 = .ok (.bipush 11, 2) := by decide +kernel
theorem dX5_at_8 : decode cX5_at 8 = .ok (.invokestatic 22, 3) := by decide +kernel
theorem dX5_at_11 : decode cX5_at 11 = .ok (.ifCond .eq 7, 3) := by decide +kernel
theorem dX5_at_14 : decode cX5_at 14 = .ok (.iload_n 1, 1) := by decide +kernel
theorem dX5_at_15 : decode cX5_at 15 = .ok (.goto 4, 3) := by decide +kernel
theorem dX5_at_18 : decode cX5_at 18 = .ok (.iconst 0, 1) := by decide +kernel
theorem dX5_at_19 : decode cX5_at 19 = .ok (.aaload, 1) := by decide +kernel
theorem dX5_at_20 : decode cX5_at 20 = .ok (.areturn, 1) := by decide +kernel
theorem dX5_add_0 : decode cX5_add 0 = .ok (.aload_n 0, 1) := by decide +kernel
theorem dX5_add_1 : decode cX5_add 1 = .ok (.getfield 18, 3) := by decide +kernel
theorem dX5_add_4 : decode cX5_add 4 = .ok (.bipush 12, 2) := by decide +kernel
theorem dX5_add_6 : decode cX5_add 6 = .ok (.if_icmp .ge 13, 3) := by decide +kernel
theorem dX5_add_9 : decode cX5_add 9 = .ok (.aload_n 0, 1) := by decide +kernel
theorem dX5_add_10 : decode cX5_add 10 = .ok (.dup, 1) := by decide +kernel
theorem dX5_add_11 : decode cX5_add 11 = .ok (.getfield 18, 3) := by decide +kernel
theorem dX5_add_14 : decode cX5_add 14 = .ok (.iconst 1, 1) := by decide +kernel
theorem dX5_add_15 : decode cX5_add 15 = .ok (.iadd, 1) := by decide +kernel
theorem dX5_add_16 : decode cX5_add 16 = .ok (.putfield 18, 3) := by decide +kernel
theorem dX5_add_19 : decode cX5_add 19 = .ok (.return_, 1) := by decide +kernel
theorem dX6_init_0 : decode cX6_init 0 = .ok (.aload_n 0, 1) := by decide +kernel
theorem dX6_init_1 : decode cX6_init 1 = .ok (.invokespecial 3, 3) := by decide +kernel
theorem dX6_init_4 : decode cX6_init 4 = .ok (.aload_n 0, 1) := by decide +kernel
theorem dX6_init_5 : decode cX6_init 5 = .ok (.iconst (-1), 1) := by decide +kernel
theorem dX6_init_6 : decode cX6_init 6 = .ok (.putfield 9, 3) := by decide +kernel
theorem dX6_init_9 : decode cX6_init 9 = .ok (.return_, 1) := by decide +kernel
theorem dX6_clear_0 : decode cX6_clear 0 = .ok (.aload_n 0, 1) := by decide +kernel
theorem dX6_clear_1 : decode cX6_clear 1 = .ok (.iconst 0, 1) := by decide +kernel
theorem dX6_clear_2 : decode cX6_clear 2 = .ok (.putfield 15, 3) := by decide +kernel
theorem dX6_clear_5 : decode cX6_clear 5 = .ok (.aload_n 0, 1) := by decide +kernel
theorem dX6_clear_6 : decode cX6_clear 6 = .ok (.iconst 0, 1) := by decide +kernel
theorem dX6_clear_7 : decode cX6_clear 7 = .ok (.putfield 18, 3) := by decide +kernel
theorem dX6_clear_10 : decode cX6_clear 10 = .ok (.aload_n 0, 1) := by decide +kernel
theorem dX6_clear_11 : decode cX6_clear 11 = .ok (.iconst (-1), 1) := by decide +kernel
theorem dX6_clear_12 : decode cX6_clear 12 = .ok (.putfield 9, 3) := by decide +kernel
theorem dX6_clear_15 : decode cX6_clear 15 = .ok (.return_, 1) := by decide +kernel
theorem dX6_copy_0 : decode cX6_copy 0 = .ok (.aload_n 0, 1) := by decide +kernel
theorem dX6_copy_1 : decode cX6_copy 1 = .ok (.aload_n 1, 1) := by decide +kernel
theorem dX6_copy_2 : decode cX6_copy 2 = .ok (.getfield 15, 3) := by decide +kernel
theorem dX6_copy_5 : decode cX6_copy 5 = .ok (.putfield 15, 3) := by decide +kernel
theorem dX6_copy_8 : decode cX6_copy 8 = .ok (.aload_n 0, 1) := by decide +kernel
theorem dX6_copy_9 : decode cX6_copy 9 = .ok (.aload_n 1, 1) := by decide +kernel
theorem dX6_copy_10 : decode cX6_copy 10 = .ok (.getfield 18, 3) := by decide +kernel
theorem dX6_copy_13 : decode cX6_copy 13 = .ok (.putfield 18, 3) := by decide +kernel
theorem dX6_copy_16 : decode cX6_copy 16 = .ok (.aload_n 0, 1) := by decide +kernel
theorem dX6_copy_17 : decode cX6_copy 17 = .ok (.aload_n 1, 1) := by decide +kernel
theorem dX6_copy_18 : decode cX6_copy 18 = .ok (.getfield 9, 3) := by decide +kernel
theorem dX6_copy_21 : decode cX6_copy 21 = .ok (.putfield 9, 3) := by decide +kernel
theorem dX6_copy_24 : decode cX6_copy 24 = .ok (.return_, 1) := by decide +kernel
theorem dX6_step_0 : decode cX6_step 0 = .ok (.aload_n 0, 1) := by decide +kernel
theorem dX6_step_1 : decode cX6_step 1 = .ok (.dup, 1) := by decide +kernel
theorem dX6_step_2 : decode cX6_step 2 = .ok (.getfield 15, 3) := by decide +kernel
theorem dX6_step_5 : decode cX6_step 5 = .ok (.iconst 1, 1) := by decide +kernel
theorem dX6_step_6 : decode cX6_step 6 = .ok (.iadd, 1) := by decide +kernel
theorem dX6_step_7 : decode cX6_step 7 = .ok (.putfield 15, 3) := by decide +kernel
theorem dX6_step_10 : decode cX6_step 10 = .ok (.aload_n 0, 1) := by decide +kernel
theorem dX6_step_11 : decode cX6_step 11 = .ok (.dup, 1) := by decide +kernel
theorem dX6_step_12 : decode cX6_step 12 = .ok (.getfield 18, 3) := by decide +kernel
theorem dX6_step_15 : decode cX6_step 15 = .ok (.iload_n 2, 1) := by decide +kernel
theorem dX6_step_16 : decode cX6_step 16 = .ok (.ifCond .eq 7, 3) := by decide +kernel
theorem dX6_step_19 : decode cX6_step 19 = .ok (.iconst 1, 1) := by decide +kernel
theorem dX6_step_20 : decode cX6_step 20 = .ok (.goto 4, 3) := by decide +kernel
theorem dX6_step_23 : decode cX6_step 23 = .ok (.iconst 0, 1) := by decide +kernel
theorem dX6_step_24 : decode cX6_step 24 = .ok (.iadd, 1) := by decide +kernel
theorem dX6_step_25 : decode cX6_step 25 = .ok (.putfield 18, 3) := by decide +kernel
theorem dX6_step_28 : decode cX6_step 28 = .ok (.aload_n 0, 1) := by decide +kernel
theorem dX6_step_29 : decode cX6_step 29 = .ok (.aload_n 0, 1) := by decide +kernel
theorem dX6_step_30 : decode cX6_step 30 = .ok (.getfield 9, 3) := by decide +kernel
theorem dX6_step_33 : decode cX6_step 33 = .ok (.iload_n 1, 1) := by decide +kernel
theorem dX6_step_34 : decode cX6_step 34 = .ok (.invokestatic 21, 3) := by decide +kernel
theorem dX6_step_37 : decode cX6_step 37 = .ok (.putfield 9, 3) := by decide +kernel
theorem dX6_step_40 : decode cX6_step 40 = .ok (.return_, 1) := by decide +kernel
theorem dX6_rowsRead_0 : decode cX6_rowsRead 0 = .ok (.aload_n 0, 1) := by decide +kernel
theorem dX6_rowsRead_1 : decode cX6_rowsRead 1 = .ok (.getfield 15, 3) := by decide +kernel
theorem dX6_rowsRead_4 : decode cX6_rowsRead 4 = .ok (.ireturn, 1) := by decide +kernel
theorem dX6_rowsLate_0 : decode cX6_rowsLate 0 = .ok (.aload_n 0, 1) := by decide +kernel
theorem dX6_rowsLate_1 : decode cX6_rowsLate 1 = .ok (.getfield 18, 3) := by decide +kernel
theorem dX6_rowsLate_4 : decode cX6_rowsLate 4 = .ok (.ireturn, 1) := by decide +kernel
theorem dX6_greatestTime_0 : decode cX6_greatestTime 0 = .ok (.aload_n 0, 1) := by decide +kernel
theorem dX6_greatestTime_1 : decode cX6_greatestTime 1 = .ok (.getfield 9, 3) := by decide +kernel
theorem dX6_greatestTime_4 : decode cX6_greatestTime 4 = .ok (.ireturn, 1) := by decide +kernel
theorem dX7_pack_0 : decode cX7_pack 0 = .ok (.iload_n 0, 1) := by decide +kernel
theorem dX7_pack_1 : decode cX7_pack 1 = .ok (.i2l, 1) := by decide +kernel
theorem dX7_pack_2 : decode cX7_pack 2 = .ok (.bipush 14, 2) := by decide +kernel
theorem dX7_pack_4 : decode cX7_pack 4 = .ok (.lshl, 1) := by decide +kernel
theorem dX7_pack_5 : decode cX7_pack 5 = .ok (.iload_n 1, 1) := by decide +kernel
theorem dX7_pack_6 : decode cX7_pack 6 = .ok (.i2l, 1) := by decide +kernel
theorem dX7_pack_7 : decode cX7_pack 7 = .ok (.lor, 1) := by decide +kernel
theorem dX7_pack_8 : decode cX7_pack 8 = .ok (.lstore_n 3, 1) := by decide +kernel
theorem dX7_pack_9 : decode cX7_pack 9 = .ok (.lload_n 3, 1) := by decide +kernel
theorem dX7_pack_10 : decode cX7_pack 10 = .ok (.bipush 31, 2) := by decide +kernel
theorem dX7_pack_12 : decode cX7_pack 12 = .ok (.lshl, 1) := by decide +kernel
theorem dX7_pack_13 : decode cX7_pack 13 = .ok (.iload_n 2, 1) := by decide +kernel
theorem dX7_pack_14 : decode cX7_pack 14 = .ok (.ldc 11, 2) := by decide +kernel
theorem dX7_pack_16 : decode cX7_pack 16 = .ok (.iadd, 1) := by decide +kernel
theorem dX7_pack_17 : decode cX7_pack 17 = .ok (.i2l, 1) := by decide +kernel
theorem dX7_pack_18 : decode cX7_pack 18 = .ok (.lor, 1) := by decide +kernel
theorem dX7_pack_19 : decode cX7_pack 19 = .ok (.lreturn, 1) := by decide +kernel
theorem dX7_keyOf_0 : decode cX7_keyOf 0 = .ok (.lload_n 0, 1) := by decide +kernel
theorem dX7_keyOf_1 : decode cX7_keyOf 1 = .ok (.bipush 45, 2) := by decide +kernel
theorem dX7_keyOf_3 : decode cX7_keyOf 3 = .ok (.lushr, 1) := by decide +kernel
theorem dX7_keyOf_4 : decode cX7_keyOf 4 = .ok (.l2i, 1) := by decide +kernel
theorem dX7_keyOf_5 : decode cX7_keyOf 5 = .ok (.bipush 31, 2) := by decide +kernel
theorem dX7_keyOf_7 : decode cX7_keyOf 7 = .ok (.iand, 1) := by decide +kernel
theorem dX7_keyOf_8 : decode cX7_keyOf 8 = .ok (.ireturn, 1) := by decide +kernel
theorem dX7_timeOf_0 : decode cX7_timeOf 0 = .ok (.lload_n 0, 1) := by decide +kernel
theorem dX7_timeOf_1 : decode cX7_timeOf 1 = .ok (.bipush 31, 2) := by decide +kernel
theorem dX7_timeOf_3 : decode cX7_timeOf 3 = .ok (.lushr, 1) := by decide +kernel
theorem dX7_timeOf_4 : decode cX7_timeOf 4 = .ok (.ldc2_w 12, 3) := by decide +kernel
theorem dX7_timeOf_7 : decode cX7_timeOf 7 = .ok (.land, 1) := by decide +kernel
theorem dX7_timeOf_8 : decode cX7_timeOf 8 = .ok (.l2i, 1) := by decide +kernel
theorem dX7_timeOf_9 : decode cX7_timeOf 9 = .ok (.ireturn, 1) := by decide +kernel
theorem dX7_valueOf_0 : decode cX7_valueOf 0 = .ok (.lload_n 0, 1) := by decide +kernel
theorem dX7_valueOf_1 : decode cX7_valueOf 1 = .ok (.ldc2_w 14, 3) := by decide +kernel
theorem dX7_valueOf_4 : decode cX7_valueOf 4 = .ok (.land, 1) := by decide +kernel
theorem dX7_valueOf_5 : decode cX7_valueOf 5 = .ok (.l2i, 1) := by decide +kernel
theorem dX7_valueOf_6 : decode cX7_valueOf 6 = .ok (.ldc 11, 2) := by decide +kernel
theorem dX7_valueOf_8 : decode cX7_valueOf 8 = .ok (.isub, 1) := by decide +kernel
theorem dX7_valueOf_9 : decode cX7_valueOf 9 = .ok (.ireturn, 1) := by decide +kernel
theorem dX7_groupOf_0 : decode cX7_groupOf 0 = .ok (.lload_n 0, 1) := by decide +kernel
theorem dX7_groupOf_1 : decode cX7_groupOf 1 = .ok (.bipush 31, 2) := by decide +kernel
theorem dX7_groupOf_3 : decode cX7_groupOf 3 = .ok (.lushr, 1) := by decide +kernel
theorem dX7_groupOf_4 : decode cX7_groupOf 4 = .ok (.lreturn, 1) := by decide +kernel
theorem dX7_partOf_0 : decode cX7_partOf 0 = .ok (.iload_n 2, 1) := by decide +kernel
theorem dX7_partOf_1 : decode cX7_partOf 1 = .ok (.tableswitch 42 0 2 #[27, 32, 37], 27) := by decide +kernel
theorem dX7_partOf_28 : decode cX7_partOf 28 = .ok (.lload_n 0, 1) := by decide +kernel
theorem dX7_partOf_29 : decode cX7_partOf 29 = .ok (.invokestatic 16, 3) := by decide +kernel
theorem dX7_partOf_32 : decode cX7_partOf 32 = .ok (.ireturn, 1) := by decide +kernel
theorem dX7_partOf_33 : decode cX7_partOf 33 = .ok (.lload_n 0, 1) := by decide +kernel
theorem dX7_partOf_34 : decode cX7_partOf 34 = .ok (.invokestatic 20, 3) := by decide +kernel
theorem dX7_partOf_37 : decode cX7_partOf 37 = .ok (.ireturn, 1) := by decide +kernel
theorem dX7_partOf_38 : decode cX7_partOf 38 = .ok (.lload_n 0, 1) := by decide +kernel
theorem dX7_partOf_39 : decode cX7_partOf 39 = .ok (.invokestatic 23, 3) := by decide +kernel
theorem dX7_partOf_42 : decode cX7_partOf 42 = .ok (.ireturn, 1) := by decide +kernel
theorem dX7_partOf_43 : decode cX7_partOf 43 = .ok (.ldc 26, 2) := by decide +kernel
theorem dX7_partOf_45 : decode cX7_partOf 45 = .ok (.ireturn, 1) := by decide +kernel
theorem dX8_init_0 : decode cX8_init 0 = .ok (.aload_n 0, 1) := by decide +kernel
theorem dX8_init_1 : decode cX8_init 1 = .ok (.invokespecial 3, 3) := by decide +kernel
theorem dX8_init_4 : decode cX8_init 4 = .ok (.aload_n 0, 1) := by decide +kernel
theorem dX8_init_5 : decode cX8_init 5 = .ok (.sipush 400, 3) := by decide +kernel
theorem dX8_init_8 : decode cX8_init 8 = .ok (.newarray .long, 2) := by decide +kernel
theorem dX8_init_10 : decode cX8_init 10 = .ok (.putfield 9, 3) := by decide +kernel
theorem dX8_init_13 : decode cX8_init 13 = .ok (.return_, 1) := by decide +kernel
theorem dX8_clear_0 : decode cX8_clear 0 = .ok (.aload_n 0, 1) := by decide +kernel
theorem dX8_clear_1 : decode cX8_clear 1 = .ok (.iconst 0, 1) := by decide +kernel
theorem dX8_clear_2 : decode cX8_clear 2 = .ok (.putfield 15, 3) := by decide +kernel
theorem dX8_clear_5 : decode cX8_clear 5 = .ok (.aload_n 0, 1) := by decide +kernel
theorem dX8_clear_6 : decode cX8_clear 6 = .ok (.iconst 0, 1) := by decide +kernel
theorem dX8_clear_7 : decode cX8_clear 7 = .ok (.putfield 19, 3) := by decide +kernel
theorem dX8_clear_10 : decode cX8_clear 10 = .ok (.return_, 1) := by decide +kernel
theorem dX8_size_0 : decode cX8_size 0 = .ok (.aload_n 0, 1) := by decide +kernel
theorem dX8_size_1 : decode cX8_size 1 = .ok (.getfield 15, 3) := by decide +kernel
theorem dX8_size_4 : decode cX8_size 4 = .ok (.ireturn, 1) := by decide +kernel
theorem dX8_isFull_0 : decode cX8_isFull 0 = .ok (.aload_n 0, 1) := by decide +kernel
theorem dX8_isFull_1 : decode cX8_isFull 1 = .ok (.getfield 19, 3) := by decide +kernel
theorem dX8_isFull_4 : decode cX8_isFull 4 = .ok (.ireturn, 1) := by decide +kernel
theorem dX8_at_0 : decode cX8_at 0 = .ok (.iload_n 1, 1) := by decide +kernel
theorem dX8_at_1 : decode cX8_at 1 = .ok (.iconst 0, 1) := by decide +kernel
theorem dX8_at_2 : decode cX8_at 2 = .ok (.aload_n 0, 1) := by decide +kernel
theorem dX8_at_3 : decode cX8_at 3 = .ok (.getfield 15, 3) := by decide +kernel
theorem dX8_at_6 : decode cX8_at 6 = .ok (.iconst 1, 1) := by decide +kernel
theorem dX8_at_7 : decode cX8_at 7 = .ok (.isub, 1) := by decide +kernel
theorem dX8_at_8 : decode cX8_at 8 = .ok (.invokestatic 23, 3) := by decide +kernel
theorem dX8_at_11 : decode cX8_at 11 = .ok (.ifCond .eq 12, 3) := by decide +kernel
theorem dX8_at_14 : decode cX8_at 14 = .ok (.aload_n 0, 1) := by decide +kernel
theorem dX8_at_15 : decode cX8_at 15 = .ok (.getfield 9, 3) := by decide +kernel
theorem dX8_at_18 : decode cX8_at 18 = .ok (.iload_n 1, 1) := by decide +kernel
theorem dX8_at_19 : decode cX8_at 19 = .ok (.laload, 1) := by decide +kernel
theorem dX8_at_20 : decode cX8_at 20 = .ok (.goto 4, 3) := by decide +kernel
theorem dX8_at_23 : decode cX8_at 23 = .ok (.lconst 0, 1) := by decide +kernel
theorem dX8_at_24 : decode cX8_at 24 = .ok (.lreturn, 1) := by decide +kernel
theorem dX8_add_0 : decode cX8_add 0 = .ok (.aload_n 0, 1) := by decide +kernel
theorem dX8_add_1 : decode cX8_add 1 = .ok (.getfield 15, 3) := by decide +kernel
theorem dX8_add_4 : decode cX8_add 4 = .ok (.aload_n 0, 1) := by decide +kernel
theorem dX8_add_5 : decode cX8_add 5 = .ok (.getfield 9, 3) := by decide +kernel
theorem dX8_add_8 : decode cX8_add 8 = .ok (.arraylength, 1) := by decide +kernel
theorem dX8_add_9 : decode cX8_add 9 = .ok (.if_icmp .lt 9, 3) := by decide +kernel
theorem dX8_add_12 : decode cX8_add 12 = .ok (.aload_n 0, 1) := by decide +kernel
theorem dX8_add_13 : decode cX8_add 13 = .ok (.iconst 1, 1) := by decide +kernel
theorem dX8_add_14 : decode cX8_add 14 = .ok (.putfield 19, 3) := by decide +kernel
theorem dX8_add_17 : decode cX8_add 17 = .ok (.return_, 1) := by decide +kernel
theorem dX8_add_18 : decode cX8_add 18 = .ok (.aload_n 0, 1) := by decide +kernel
theorem dX8_add_19 : decode cX8_add 19 = .ok (.getfield 9, 3) := by decide +kernel
theorem dX8_add_22 : decode cX8_add 22 = .ok (.aload_n 0, 1) := by decide +kernel
theorem dX8_add_23 : decode cX8_add 23 = .ok (.getfield 15, 3) := by decide +kernel
theorem dX8_add_26 : decode cX8_add 26 = .ok (.lload_n 1, 1) := by decide +kernel
theorem dX8_add_27 : decode cX8_add 27 = .ok (.lastore, 1) := by decide +kernel
theorem dX8_add_28 : decode cX8_add 28 = .ok (.aload_n 0, 1) := by decide +kernel
theorem dX8_add_29 : decode cX8_add 29 = .ok (.dup, 1) := by decide +kernel
theorem dX8_add_30 : decode cX8_add 30 = .ok (.getfield 15, 3) := by decide +kernel
theorem dX8_add_33 : decode cX8_add 33 = .ok (.iconst 1, 1) := by decide +kernel
theorem dX8_add_34 : decode cX8_add 34 = .ok (.iadd, 1) := by decide +kernel
theorem dX8_add_35 : decode cX8_add 35 = .ok (.putfield 15, 3) := by decide +kernel
theorem dX8_add_38 : decode cX8_add 38 = .ok (.return_, 1) := by decide +kernel
theorem dX8_add__0 : decode cX8_add_ 0 = .ok (.lload_n 3, 1) := by decide +kernel
theorem dX8_add__1 : decode cX8_add_ 1 = .ok (.ldc2_w 27, 3) := by decide +kernel
theorem dX8_add__4 : decode cX8_add_ 4 = .ok (.lcmp, 1) := by decide +kernel
theorem dX8_add__5 : decode cX8_add_ 5 = .ok (.ifCond .lt 11, 3) := by decide +kernel
theorem dX8_add__8 : decode cX8_add_ 8 = .ok (.lload_n 3, 1) := by decide +kernel
theorem dX8_add__9 : decode cX8_add_ 9 = .ok (.ldc2_w 29, 3) := by decide +kernel
theorem dX8_add__12 : decode cX8_add_ 12 = .ok (.lcmp, 1) := by decide +kernel
theorem dX8_add__13 : decode cX8_add_ 13 = .ok (.ifCond .le 9, 3) := by decide +kernel
theorem dX8_add__16 : decode cX8_add_ 16 = .ok (.aload_n 0, 1) := by decide +kernel
theorem dX8_add__17 : decode cX8_add_ 17 = .ok (.iconst 1, 1) := by decide +kernel
theorem dX8_add__18 : decode cX8_add_ 18 = .ok (.putfield 19, 3) := by decide +kernel
theorem dX8_add__21 : decode cX8_add_ 21 = .ok (.return_, 1) := by decide +kernel
theorem dX8_add__22 : decode cX8_add_ 22 = .ok (.aload_n 0, 1) := by decide +kernel
theorem dX8_add__23 : decode cX8_add_ 23 = .ok (.iload_n 1, 1) := by decide +kernel
theorem dX8_add__24 : decode cX8_add_ 24 = .ok (.iload_n 2, 1) := by decide +kernel
theorem dX8_add__25 : decode cX8_add_ 25 = .ok (.lload_n 3, 1) := by decide +kernel
theorem dX8_add__26 : decode cX8_add_ 26 = .ok (.l2i, 1) := by decide +kernel
theorem dX8_add__27 : decode cX8_add_ 27 = .ok (.invokestatic 31, 3) := by decide +kernel
theorem dX8_add__30 : decode cX8_add_ 30 = .ok (.invokevirtual 37, 3) := by decide +kernel
theorem dX8_add__33 : decode cX8_add_ 33 = .ok (.return_, 1) := by decide +kernel
theorem dX8_copy_0 : decode cX8_copy 0 = .ok (.aload_n 1, 1) := by decide +kernel
theorem dX8_copy_1 : decode cX8_copy 1 = .ok (.getfield 9, 3) := by decide +kernel
theorem dX8_copy_4 : decode cX8_copy 4 = .ok (.iconst 0, 1) := by decide +kernel
theorem dX8_copy_5 : decode cX8_copy 5 = .ok (.aload_n 0, 1) := by decide +kernel
theorem dX8_copy_6 : decode cX8_copy 6 = .ok (.getfield 9, 3) := by decide +kernel
theorem dX8_copy_9 : decode cX8_copy 9 = .ok (.iconst 0, 1) := by decide +kernel
theorem dX8_copy_10 : decode cX8_copy 10 = .ok (.aload_n 1, 1) := by decide +kernel
theorem dX8_copy_11 : decode cX8_copy 11 = .ok (.getfield 15, 3) := by decide +kernel
theorem dX8_copy_14 : decode cX8_copy 14 = .ok (.invokestatic 41, 3) := by decide +kernel
theorem dX8_copy_17 : decode cX8_copy 17 = .ok (.aload_n 0, 1) := by decide +kernel
theorem dX8_copy_18 : decode cX8_copy 18 = .ok (.aload_n 1, 1) := by decide +kernel
theorem dX8_copy_19 : decode cX8_copy 19 = .ok (.getfield 15, 3) := by decide +kernel
theorem dX8_copy_22 : decode cX8_copy 22 = .ok (.putfield 15, 3) := by decide +kernel
theorem dX8_copy_25 : decode cX8_copy 25 = .ok (.aload_n 0, 1) := by decide +kernel
theorem dX8_copy_26 : decode cX8_copy 26 = .ok (.aload_n 1, 1) := by decide +kernel
theorem dX8_copy_27 : decode cX8_copy 27 = .ok (.getfield 19, 3) := by decide +kernel
theorem dX8_copy_30 : decode cX8_copy 30 = .ok (.putfield 19, 3) := by decide +kernel
theorem dX8_copy_33 : decode cX8_copy 33 = .ok (.return_, 1) := by decide +kernel
theorem dX8_sort_0 : decode cX8_sort 0 = .ok (.iconst 1, 1) := by decide +kernel
theorem dX8_sort_1 : decode cX8_sort 1 = .ok (.istore_n 2, 1) := by decide +kernel
theorem dX8_sort_2 : decode cX8_sort 2 = .ok (.iload_n 2, 1) := by decide +kernel
theorem dX8_sort_3 : decode cX8_sort 3 = .ok (.aload_n 0, 1) := by decide +kernel
theorem dX8_sort_4 : decode cX8_sort 4 = .ok (.getfield 15, 3) := by decide +kernel
theorem dX8_sort_7 : decode cX8_sort 7 = .ok (.if_icmp .ge 52, 3) := by decide +kernel
theorem dX8_sort_10 : decode cX8_sort 10 = .ok (.iconst 0, 1) := by decide +kernel
theorem dX8_sort_11 : decode cX8_sort 11 = .ok (.istore_n 3, 1) := by decide +kernel
theorem dX8_sort_12 : decode cX8_sort 12 = .ok (.iload_n 3, 1) := by decide +kernel
theorem dX8_sort_13 : decode cX8_sort 13 = .ok (.iload_n 2, 1) := by decide +kernel
theorem dX8_sort_14 : decode cX8_sort 14 = .ok (.iadd, 1) := by decide +kernel
theorem dX8_sort_15 : decode cX8_sort 15 = .ok (.aload_n 0, 1) := by decide +kernel
theorem dX8_sort_16 : decode cX8_sort 16 = .ok (.getfield 15, 3) := by decide +kernel
theorem dX8_sort_19 : decode cX8_sort 19 = .ok (.if_icmp .ge 33, 3) := by decide +kernel
theorem dX8_sort_22 : decode cX8_sort 22 = .ok (.aload_n 0, 1) := by decide +kernel
theorem dX8_sort_23 : decode cX8_sort 23 = .ok (.iload_n 3, 1) := by decide +kernel
theorem dX8_sort_24 : decode cX8_sort 24 = .ok (.iload_n 3, 1) := by decide +kernel
theorem dX8_sort_25 : decode cX8_sort 25 = .ok (.iload_n 2, 1) := by decide +kernel
theorem dX8_sort_26 : decode cX8_sort 26 = .ok (.iadd, 1) := by decide +kernel
theorem dX8_sort_27 : decode cX8_sort 27 = .ok (.iload_n 3, 1) := by decide +kernel
theorem dX8_sort_28 : decode cX8_sort 28 = .ok (.iconst 2, 1) := by decide +kernel
theorem dX8_sort_29 : decode cX8_sort 29 = .ok (.iload_n 2, 1) := by decide +kernel
theorem dX8_sort_30 : decode cX8_sort 30 = .ok (.imul, 1) := by decide +kernel
theorem dX8_sort_31 : decode cX8_sort 31 = .ok (.iadd, 1) := by decide +kernel
theorem dX8_sort_32 : decode cX8_sort 32 = .ok (.aload_n 0, 1) := by decide +kernel
theorem dX8_sort_33 : decode cX8_sort 33 = .ok (.getfield 15, 3) := by decide +kernel
theorem dX8_sort_36 : decode cX8_sort 36 = .ok (.invokestatic 47, 3) := by decide +kernel
theorem dX8_sort_39 : decode cX8_sort 39 = .ok (.aload_n 1, 1) := by decide +kernel
theorem dX8_sort_40 : decode cX8_sort 40 = .ok (.invokevirtual 53, 3) := by decide +kernel
theorem dX8_sort_43 : decode cX8_sort 43 = .ok (.iload_n 3, 1) := by decide +kernel
theorem dX8_sort_44 : decode cX8_sort 44 = .ok (.iconst 2, 1) := by decide +kernel
theorem dX8_sort_45 : decode cX8_sort 45 = .ok (.iload_n 2, 1) := by decide +kernel
theorem dX8_sort_46 : decode cX8_sort 46 = .ok (.imul, 1) := by decide +kernel
theorem dX8_sort_47 : decode cX8_sort 47 = .ok (.iadd, 1) := by decide +kernel
theorem dX8_sort_48 : decode cX8_sort 48 = .ok (.istore_n 3, 1) := by decide +kernel
theorem dX8_sort_49 : decode cX8_sort 49 = .ok (.goto (-37), 3) := by decide +kernel
theorem dX8_sort_52 : decode cX8_sort 52 = .ok (.iload_n 2, 1) := by decide +kernel
theorem dX8_sort_53 : decode cX8_sort 53 = .ok (.iconst 2, 1) := by decide +kernel
theorem dX8_sort_54 : decode cX8_sort 54 = .ok (.imul, 1) := by decide +kernel
theorem dX8_sort_55 : decode cX8_sort 55 = .ok (.istore_n 2, 1) := by decide +kernel
theorem dX8_sort_56 : decode cX8_sort 56 = .ok (.goto (-54), 3) := by decide +kernel
theorem dX8_sort_59 : decode cX8_sort 59 = .ok (.return_, 1) := by decide +kernel
theorem dX8_merge_0 : decode cX8_merge 0 = .ok (.aload_n 0, 1) := by decide +kernel
theorem dX8_merge_1 : decode cX8_merge 1 = .ok (.getfield 9, 3) := by decide +kernel
theorem dX8_merge_4 : decode cX8_merge 4 = .ok (.iload_n 2, 1) := by decide +kernel
theorem dX8_merge_5 : decode cX8_merge 5 = .ok (.iconst 1, 1) := by decide +kernel
theorem dX8_merge_6 : decode cX8_merge 6 = .ok (.isub, 1) := by decide +kernel
theorem dX8_merge_7 : decode cX8_merge 7 = .ok (.laload, 1) := by decide +kernel
theorem dX8_merge_8 : decode cX8_merge 8 = .ok (.aload_n 0, 1) := by decide +kernel
theorem dX8_merge_9 : decode cX8_merge 9 = .ok (.getfield 9, 3) := by decide +kernel
theorem dX8_merge_12 : decode cX8_merge 12 = .ok (.iload_n 2, 1) := by decide +kernel
theorem dX8_merge_13 : decode cX8_merge 13 = .ok (.laload, 1) := by decide +kernel
theorem dX8_merge_14 : decode cX8_merge 14 = .ok (.lcmp, 1) := by decide +kernel
theorem dX8_merge_15 : decode cX8_merge 15 = .ok (.ifCond .gt 4, 3) := by decide +kernel
theorem dX8_merge_18 : decode cX8_merge 18 = .ok (.return_, 1) := by decide +kernel
theorem dX8_merge_19 : decode cX8_merge 19 = .ok (.iload_n 2, 1) := by decide +kernel
theorem dX8_merge_20 : decode cX8_merge 20 = .ok (.iload_n 1, 1) := by decide +kernel
theorem dX8_merge_21 : decode cX8_merge 21 = .ok (.isub, 1) := by decide +kernel
theorem dX8_merge_22 : decode cX8_merge 22 = .ok (.istore 5, 2) := by decide +kernel
theorem dX8_merge_24 : decode cX8_merge 24 = .ok (.aload_n 0, 1) := by decide +kernel
theorem dX8_merge_25 : decode cX8_merge 25 = .ok (.getfield 9, 3) := by decide +kernel
theorem dX8_merge_28 : decode cX8_merge 28 = .ok (.iload_n 1, 1) := by decide +kernel
theorem dX8_merge_29 : decode cX8_merge 29 = .ok (.aload 4, 2) := by decide +kernel
theorem dX8_merge_31 : decode cX8_merge 31 = .ok (.iconst 0, 1) := by decide +kernel
theorem dX8_merge_32 : decode cX8_merge 32 = .ok (.iload 5, 2) := by decide +kernel
theorem dX8_merge_34 : decode cX8_merge 34 = .ok (.invokestatic 41, 3) := by decide +kernel
theorem dX8_merge_37 : decode cX8_merge 37 = .ok (.iconst 0, 1) := by decide +kernel
theorem dX8_merge_38 : decode cX8_merge 38 = .ok (.istore 6, 2) := by decide +kernel
theorem dX8_merge_40 : decode cX8_merge 40 = .ok (.iload_n 2, 1) := by decide +kernel
theorem dX8_merge_41 : decode cX8_merge 41 = .ok (.istore 7, 2) := by decide +kernel
theorem dX8_merge_43 : decode cX8_merge 43 = .ok (.iload_n 1, 1) := by decide +kernel
theorem dX8_merge_44 : decode cX8_merge 44 = .ok (.istore 8, 2) := by decide +kernel
theorem dX8_merge_46 : decode cX8_merge 46 = .ok (.iload 8, 2) := by decide +kernel
theorem dX8_merge_48 : decode cX8_merge 48 = .ok (.iload_n 3, 1) := by decide +kernel
theorem dX8_merge_49 : decode cX8_merge 49 = .ok (.if_icmp .ge 73, 3) := by decide +kernel
theorem dX8_merge_52 : decode cX8_merge 52 = .ok (.iload 6, 2) := by decide +kernel
theorem dX8_merge_54 : decode cX8_merge 54 = .ok (.iload 5, 2) := by decide +kernel
theorem dX8_merge_56 : decode cX8_merge 56 = .ok (.if_icmp .ge 66, 3) := by decide +kernel
theorem dX8_merge_59 : decode cX8_merge 59 = .ok (.iload 7, 2) := by decide +kernel
theorem dX8_merge_61 : decode cX8_merge 61 = .ok (.iload_n 3, 1) := by decide +kernel
theorem dX8_merge_62 : decode cX8_merge 62 = .ok (.if_icmp .ge 39, 3) := by decide +kernel
theorem dX8_merge_65 : decode cX8_merge 65 = .ok (.aload_n 0, 1) := by decide +kernel
theorem dX8_merge_66 : decode cX8_merge 66 = .ok (.getfield 9, 3) := by decide +kernel
theorem dX8_merge_69 : decode cX8_merge 69 = .ok (.iload 7, 2) := by decide +kernel
theorem dX8_merge_71 : decode cX8_merge 71 = .ok (.laload, 1) := by decide +kernel
theorem dX8_merge_72 : decode cX8_merge 72 = .ok (.aload 4, 2) := by decide +kernel
theorem dX8_merge_74 : decode cX8_merge 74 = .ok (.iload 6, 2) := by decide +kernel
theorem dX8_merge_76 : decode cX8_merge 76 = .ok (.laload, 1) := by decide +kernel
theorem dX8_merge_77 : decode cX8_merge 77 = .ok (.lcmp, 1) := by decide +kernel
theorem dX8_merge_78 : decode cX8_merge 78 = .ok (.ifCond .ge 23, 3) := by decide +kernel
theorem dX8_merge_81 : decode cX8_merge 81 = .ok (.aload_n 0, 1) := by decide +kernel
theorem dX8_merge_82 : decode cX8_merge 82 = .ok (.getfield 9, 3) := by decide +kernel
theorem dX8_merge_85 : decode cX8_merge 85 = .ok (.iload 8, 2) := by decide +kernel
theorem dX8_merge_87 : decode cX8_merge 87 = .ok (.aload_n 0, 1) := by decide +kernel
theorem dX8_merge_88 : decode cX8_merge 88 = .ok (.getfield 9, 3) := by decide +kernel
theorem dX8_merge_91 : decode cX8_merge 91 = .ok (.iload 7, 2) := by decide +kernel
theorem dX8_merge_93 : decode cX8_merge 93 = .ok (.laload, 1) := by decide +kernel
theorem dX8_merge_94 : decode cX8_merge 94 = .ok (.lastore, 1) := by decide +kernel
theorem dX8_merge_95 : decode cX8_merge 95 = .ok (.iinc 7 1, 3) := by decide +kernel
theorem dX8_merge_98 : decode cX8_merge 98 = .ok (.goto 18, 3) := by decide +kernel
theorem dX8_merge_101 : decode cX8_merge 101 = .ok (.aload_n 0, 1) := by decide +kernel
theorem dX8_merge_102 : decode cX8_merge 102 = .ok (.getfield 9, 3) := by decide +kernel
theorem dX8_merge_105 : decode cX8_merge 105 = .ok (.iload 8, 2) := by decide +kernel
theorem dX8_merge_107 : decode cX8_merge 107 = .ok (.aload 4, 2) := by decide +kernel
theorem dX8_merge_109 : decode cX8_merge 109 = .ok (.iload 6, 2) := by decide +kernel
theorem dX8_merge_111 : decode cX8_merge 111 = .ok (.laload, 1) := by decide +kernel
theorem dX8_merge_112 : decode cX8_merge 112 = .ok (.lastore, 1) := by decide +kernel
theorem dX8_merge_113 : decode cX8_merge 113 = .ok (.iinc 6 1, 3) := by decide +kernel
theorem dX8_merge_116 : decode cX8_merge 116 = .ok (.iinc 8 1, 3) := by decide +kernel
theorem dX8_merge_119 : decode cX8_merge 119 = .ok (.goto (-73), 3) := by decide +kernel
theorem dX8_merge_122 : decode cX8_merge 122 = .ok (.return_, 1) := by decide +kernel
theorem dX8_keys_0 : decode cX8_keys 0 = .ok (.iconst 0, 1) := by decide +kernel
theorem dX8_keys_1 : decode cX8_keys 1 = .ok (.istore_n 1, 1) := by decide +kernel
theorem dX8_keys_2 : decode cX8_keys 2 = .ok (.iconst 0, 1) := by decide +kernel
theorem dX8_keys_3 : decode cX8_keys 3 = .ok (.istore_n 2, 1) := by decide +kernel
theorem dX8_keys_4 : decode cX8_keys 4 = .ok (.iload_n 2, 1) := by decide +kernel
theorem dX8_keys_5 : decode cX8_keys 5 = .ok (.aload_n 0, 1) := by decide +kernel
theorem dX8_keys_6 : decode cX8_keys 6 = .ok (.getfield 15, 3) := by decide +kernel
theorem dX8_keys_9 : decode cX8_keys 9 = .ok (.if_icmp .ge 23, 3) := by decide +kernel
theorem dX8_keys_12 : decode cX8_keys 12 = .ok (.iload_n 1, 1) := by decide +kernel
theorem dX8_keys_13 : decode cX8_keys 13 = .ok (.iconst 1, 1) := by decide +kernel
theorem dX8_keys_14 : decode cX8_keys 14 = .ok (.aload_n 0, 1) := by decide +kernel
theorem dX8_keys_15 : decode cX8_keys 15 = .ok (.getfield 9, 3) := by decide +kernel
theorem dX8_keys_18 : decode cX8_keys 18 = .ok (.iload_n 2, 1) := by decide +kernel
theorem dX8_keys_19 : decode cX8_keys 19 = .ok (.laload, 1) := by decide +kernel
theorem dX8_keys_20 : decode cX8_keys 20 = .ok (.invokestatic 57, 3) := by decide +kernel
theorem dX8_keys_23 : decode cX8_keys 23 = .ok (.ishl, 1) := by decide +kernel
theorem dX8_keys_24 : decode cX8_keys 24 = .ok (.ior, 1) := by decide +kernel
theorem dX8_keys_25 : decode cX8_keys 25 = .ok (.istore_n 1, 1) := by decide +kernel
theorem dX8_keys_26 : decode cX8_keys 26 = .ok (.iinc 2 1, 3) := by decide +kernel
theorem dX8_keys_29 : decode cX8_keys 29 = .ok (.goto (-25), 3) := by decide +kernel
theorem dX8_keys_32 : decode cX8_keys 32 = .ok (.iload_n 1, 1) := by decide +kernel
theorem dX8_keys_33 : decode cX8_keys 33 = .ok (.ireturn, 1) := by decide +kernel
theorem dX8_countOfKeys_0 : decode cX8_countOfKeys 0 = .ok (.iconst 0, 1) := by decide +kernel
theorem dX8_countOfKeys_1 : decode cX8_countOfKeys 1 = .ok (.istore_n 2, 1) := by decide +kernel
theorem dX8_countOfKeys_2 : decode cX8_countOfKeys 2 = .ok (.iconst 0, 1) := by decide +kernel
theorem dX8_countOfKeys_3 : decode cX8_countOfKeys 3 = .ok (.istore_n 3, 1) := by decide +kernel
theorem dX8_countOfKeys_4 : decode cX8_countOfKeys 4 = .ok (.iload_n 3, 1) := by decide +kernel
theorem dX8_countOfKeys_5 : decode cX8_countOfKeys 5 = .ok (.aload_n 0, 1) := by decide +kernel
theorem dX8_countOfKeys_6 : decode cX8_countOfKeys 6 = .ok (.getfield 15, 3) := by decide +kernel
theorem dX8_countOfKeys_9 : decode cX8_countOfKeys 9 = .ok (.if_icmp .ge 25, 3) := by decide +kernel
theorem dX8_countOfKeys_12 : decode cX8_countOfKeys 12 = .ok (.iload_n 2, 1) := by decide +kernel
theorem dX8_countOfKeys_13 : decode cX8_countOfKeys 13 = .ok (.iload_n 1, 1) := by decide +kernel
theorem dX8_countOfKeys_14 : decode cX8_countOfKeys 14 = .ok (.aload_n 0, 1) := by decide +kernel
theorem dX8_countOfKeys_15 : decode cX8_countOfKeys 15 = .ok (.getfield 9, 3) := by decide +kernel
theorem dX8_countOfKeys_18 : decode cX8_countOfKeys 18 = .ok (.iload_n 3, 1) := by decide +kernel
theorem dX8_countOfKeys_19 : decode cX8_countOfKeys 19 = .ok (.laload, 1) := by decide +kernel
theorem dX8_countOfKeys_20 : decode cX8_countOfKeys 20 = .ok (.invokestatic 57, 3) := by decide +kernel
theorem dX8_countOfKeys_23 : decode cX8_countOfKeys 23 = .ok (.iushr, 1) := by decide +kernel
theorem dX8_countOfKeys_24 : decode cX8_countOfKeys 24 = .ok (.iconst 1, 1) := by decide +kernel
theorem dX8_countOfKeys_25 : decode cX8_countOfKeys 25 = .ok (.iand, 1) := by decide +kernel
theorem dX8_countOfKeys_26 : decode cX8_countOfKeys 26 = .ok (.iadd, 1) := by decide +kernel
theorem dX8_countOfKeys_27 : decode cX8_countOfKeys 27 = .ok (.istore_n 2, 1) := by decide +kernel
theorem dX8_countOfKeys_28 : decode cX8_countOfKeys 28 = .ok (.iinc 3 1, 3) := by decide +kernel
theorem dX8_countOfKeys_31 : decode cX8_countOfKeys 31 = .ok (.goto (-27), 3) := by decide +kernel
theorem dX8_countOfKeys_34 : decode cX8_countOfKeys 34 = .ok (.iload_n 2, 1) := by decide +kernel
theorem dX8_countOfKeys_35 : decode cX8_countOfKeys 35 = .ok (.ireturn, 1) := by decide +kernel
theorem dX9_init_0 : decode cX9_init 0 = .ok (.aload_n 0, 1) := by decide +kernel
theorem dX9_init_1 : decode cX9_init 1 = .ok (.invokespecial 3, 3) := by decide +kernel
theorem dX9_init_4 : decode cX9_init 4 = .ok (.aload_n 0, 1) := by decide +kernel
theorem dX9_init_5 : decode cX9_init 5 = .ok (.bipush 12, 2) := by decide +kernel
theorem dX9_init_7 : decode cX9_init 7 = .ok (.anewarray 9, 3) := by decide +kernel
theorem dX9_init_10 : decode cX9_init 10 = .ok (.putfield 11, 3) := by decide +kernel
theorem dX9_init_13 : decode cX9_init 13 = .ok (.aload_n 0, 1) := by decide +kernel
theorem dX9_init_14 : decode cX9_init 14 = .ok (.bipush 12, 2) := by decide +kernel
theorem dX9_init_16 : decode cX9_init 16 = .ok (.anewarray 9, 3) := by decide +kernel
theorem dX9_init_19 : decode cX9_init 19 = .ok (.putfield 17, 3) := by decide +kernel
theorem dX9_init_22 : decode cX9_init 22 = .ok (.aload_n 0, 1) := by decide +kernel
theorem dX9_init_23 : decode cX9_init 23 = .ok (.bipush 12, 2) := by decide +kernel
theorem dX9_init_25 : decode cX9_init 25 = .ok (.anewarray 9, 3) := by decide +kernel
theorem dX9_init_28 : decode cX9_init 28 = .ok (.putfield 20, 3) := by decide +kernel
theorem dX9_init_31 : decode cX9_init 31 = .ok (.iconst 0, 1) := by decide +kernel
theorem dX9_init_32 : decode cX9_init 32 = .ok (.istore_n 1, 1) := by decide +kernel
theorem dX9_init_33 : decode cX9_init 33 = .ok (.iload_n 1, 1) := by decide +kernel
theorem dX9_init_34 : decode cX9_init 34 = .ok (.bipush 12, 2) := by decide +kernel
theorem dX9_init_36 : decode cX9_init 36 = .ok (.if_icmp .ge 48, 3) := by decide +kernel
theorem dX9_init_39 : decode cX9_init 39 = .ok (.aload_n 0, 1) := by decide +kernel
theorem dX9_init_40 : decode cX9_init 40 = .ok (.getfield 11, 3) := by decide +kernel
theorem dX9_init_43 : decode cX9_init 43 = .ok (.iload_n 1, 1) := by decide +kernel
theorem dX9_init_44 : decode cX9_init 44 = .ok (.new 9, 3) := by decide +kernel
theorem dX9_init_47 : decode cX9_init 47 = .ok (.dup, 1) := by decide +kernel
theorem dX9_init_48 : decode cX9_init 48 = .ok (.invokespecial 23, 3) := by decide +kernel
theorem dX9_init_51 : decode cX9_init 51 = .ok (.aastore, 1) := by decide +kernel
theorem dX9_init_52 : decode cX9_init 52 = .ok (.aload_n 0, 1) := by decide +kernel
theorem dX9_init_53 : decode cX9_init 53 = .ok (.getfield 17, 3) := by decide +kernel
theorem dX9_init_56 : decode cX9_init 56 = .ok (.iload_n 1, 1) := by decide +kernel
theorem dX9_init_57 : decode cX9_init 57 = .ok (.new 9, 3) := by decide +kernel
theorem dX9_init_60 : decode cX9_init 60 = .ok (.dup, 1) := by decide +kernel
theorem dX9_init_61 : decode cX9_init 61 = .ok (.invokespecial 23, 3) := by decide +kernel
theorem dX9_init_64 : decode cX9_init 64 = .ok (.aastore, 1) := by decide +kernel
theorem dX9_init_65 : decode cX9_init 65 = .ok (.aload_n 0, 1) := by decide +kernel
theorem dX9_init_66 : decode cX9_init 66 = .ok (.getfield 20, 3) := by decide +kernel
theorem dX9_init_69 : decode cX9_init 69 = .ok (.iload_n 1, 1) := by decide +kernel
theorem dX9_init_70 : decode cX9_init 70 = .ok (.new 9, 3) := by decide +kernel
theorem dX9_init_73 : decode cX9_init 73 = .ok (.dup, 1) := by decide +kernel
theorem dX9_init_74 : decode cX9_init 74 = .ok (.invokespecial 23, 3) := by decide +kernel
theorem dX9_init_77 : decode cX9_init 77 = .ok (.aastore, 1) := by decide +kernel
theorem dX9_init_78 : decode cX9_init 78 = .ok (.iinc 1 1, 3) := by decide +kernel
theorem dX9_init_81 : decode cX9_init 81 = .ok (.goto (-48), 3) := by decide +kernel
theorem dX9_init_84 : decode cX9_init 84 = .ok (.aload_n 0, 1) := by decide +kernel
theorem dX9_init_85 : decode cX9_init 85 = .ok (.bipush 12, 2) := by decide +kernel
theorem dX9_init_87 : decode cX9_init 87 = .ok (.newarray .boolean, 2) := by decide +kernel
theorem dX9_init_89 : decode cX9_init 89 = .ok (.putfield 24, 3) := by decide +kernel
theorem dX9_init_92 : decode cX9_init 92 = .ok (.aload_n 0, 1) := by decide +kernel
theorem dX9_init_93 : decode cX9_init 93 = .ok (.new 9, 3) := by decide +kernel
theorem dX9_init_96 : decode cX9_init 96 = .ok (.dup, 1) := by decide +kernel
theorem dX9_init_97 : decode cX9_init 97 = .ok (.invokespecial 23, 3) := by decide +kernel
theorem dX9_init_100 : decode cX9_init 100 = .ok (.putfield 28, 3) := by decide +kernel
theorem dX9_init_103 : decode cX9_init 103 = .ok (.aload_n 0, 1) := by decide +kernel
theorem dX9_init_104 : decode cX9_init 104 = .ok (.sipush 400, 3) := by decide +kernel
theorem dX9_init_107 : decode cX9_init 107 = .ok (.newarray .long, 2) := by decide +kernel
theorem dX9_init_109 : decode cX9_init 109 = .ok (.putfield 32, 3) := by decide +kernel
theorem dX9_init_112 : decode cX9_init 112 = .ok (.aload_n 0, 1) := by decide +kernel
theorem dX9_init_113 : decode cX9_init 113 = .ok (.new 36, 3) := by decide +kernel
theorem dX9_init_116 : decode cX9_init 116 = .ok (.dup, 1) := by decide +kernel
theorem dX9_init_117 : decode cX9_init 117 = .ok (.invokespecial 38, 3) := by decide +kernel
theorem dX9_init_120 : decode cX9_init 120 = .ok (.putfield 39, 3) := by decide +kernel
theorem dX9_init_123 : decode cX9_init 123 = .ok (.aload_n 0, 1) := by decide +kernel
theorem dX9_init_124 : decode cX9_init 124 = .ok (.new 36, 3) := by decide +kernel
theorem dX9_init_127 : decode cX9_init 127 = .ok (.dup, 1) := by decide +kernel
theorem dX9_init_128 : decode cX9_init 128 = .ok (.invokespecial 38, 3) := by decide +kernel
theorem dX9_init_131 : decode cX9_init 131 = .ok (.putfield 43, 3) := by decide +kernel
theorem dX9_init_134 : decode cX9_init 134 = .ok (.return_, 1) := by decide +kernel
theorem dX9_draft_0 : decode cX9_draft 0 = .ok (.aload_n 0, 1) := by decide +kernel
theorem dX9_draft_1 : decode cX9_draft 1 = .ok (.getfield 43, 3) := by decide +kernel
theorem dX9_draft_4 : decode cX9_draft 4 = .ok (.areturn, 1) := by decide +kernel
theorem dX9_takeDraft_0 : decode cX9_takeDraft 0 = .ok (.aload_n 0, 1) := by decide +kernel
theorem dX9_takeDraft_1 : decode cX9_takeDraft 1 = .ok (.getfield 39, 3) := by decide +kernel
theorem dX9_takeDraft_4 : decode cX9_takeDraft 4 = .ok (.astore_n 1, 1) := by decide +kernel
theorem dX9_takeDraft_5 : decode cX9_takeDraft 5 = .ok (.aload_n 0, 1) := by decide +kernel
theorem dX9_takeDraft_6 : decode cX9_takeDraft 6 = .ok (.aload_n 0, 1) := by decide +kernel
theorem dX9_takeDraft_7 : decode cX9_takeDraft 7 = .ok (.getfield 43, 3) := by decide +kernel
theorem dX9_takeDraft_10 : decode cX9_takeDraft 10 = .ok (.putfield 39, 3) := by decide +kernel
theorem dX9_takeDraft_13 : decode cX9_takeDraft 13 = .ok (.aload_n 0, 1) := by decide +kernel
theorem dX9_takeDraft_14 : decode cX9_takeDraft 14 = .ok (.aload_n 1, 1) := by decide +kernel
theorem dX9_takeDraft_15 : decode cX9_takeDraft 15 = .ok (.putfield 43, 3) := by decide +kernel
theorem dX9_takeDraft_18 : decode cX9_takeDraft 18 = .ok (.return_, 1) := by decide +kernel
theorem dX9_size_0 : decode cX9_size 0 = .ok (.aload_n 0, 1) := by decide +kernel
theorem dX9_size_1 : decode cX9_size 1 = .ok (.getfield 39, 3) := by decide +kernel
theorem dX9_size_4 : decode cX9_size 4 = .ok (.invokevirtual 46, 3) := by decide +kernel
theorem dX9_size_7 : decode cX9_size 7 = .ok (.ireturn, 1) := by decide +kernel
theorem dX9_has_0 : decode cX9_has 0 = .ok (.iload_n 1, 1) := by decide +kernel
theorem dX9_has_1 : decode cX9_has 1 = .ok (.iconst 0, 1) := by decide +kernel
theorem dX9_has_2 : decode cX9_has 2 = .ok (.aload_n 0, 1) := by decide +kernel
theorem dX9_has_3 : decode cX9_has 3 = .ok (.getfield 39, 3) := by decide +kernel
theorem dX9_has_6 : decode cX9_has 6 = .ok (.invokevirtual 46, 3) := by decide +kernel
theorem dX9_has_9 : decode cX9_has 9 = .ok (.iconst 1, 1) := by decide +kernel
theorem dX9_has_10 : decode cX9_has 10 = .ok (.isub, 1) := by decide +kernel
theorem dX9_has_11 : decode cX9_has 11 = .ok (.invokestatic 50, 3) := by decide +kernel
theorem dX9_has_14 : decode cX9_has 14 = .ok (.ireturn, 1) := by decide +kernel
theorem dX9_rowsOf_0 : decode cX9_rowsOf 0 = .ok (.aload_n 0, 1) := by decide +kernel
theorem dX9_rowsOf_1 : decode cX9_rowsOf 1 = .ok (.iload_n 1, 1) := by decide +kernel
theorem dX9_rowsOf_2 : decode cX9_rowsOf 2 = .ok (.invokevirtual 54, 3) := by decide +kernel
theorem dX9_rowsOf_5 : decode cX9_rowsOf 5 = .ok (.ifCond .eq 12, 3) := by decide +kernel
theorem dX9_rowsOf_8 : decode cX9_rowsOf 8 = .ok (.aload_n 0, 1) := by decide +kernel
theorem dX9_rowsOf_9 : decode cX9_rowsOf 9 = .ok (.getfield 11, 3) := by decide +kernel
theorem dX9_rowsOf_12 : decode cX9_rowsOf 12 = .ok (.iload_n 1, 1) := by decide +kernel
theorem dX9_rowsOf_13 : decode cX9_rowsOf 13 = .ok (.aaload, 1) := by decide +kernel
theorem dX9_rowsOf_14 : decode cX9_rowsOf 14 = .ok (.goto 7, 3) := by decide +kernel
theorem dX9_rowsOf_17 : decode cX9_rowsOf 17 = .ok (.aload_n 0, 1) := by decide +kernel
theorem dX9_rowsOf_18 : decode cX9_rowsOf 18 = .ok (.getfield 28, 3) := by decide +kernel
theorem dX9_rowsOf_21 : decode cX9_rowsOf 21 = .ok (.areturn, 1) := by decide +kernel
theorem dX9_answer_0 : decode cX9_answer 0 = .ok (.aload_n 0, 1) := by decide +kernel
theorem dX9_answer_1 : decode cX9_answer 1 = .ok (.aload_n 0, 1) := by decide +kernel
theorem dX9_answer_2 : decode cX9_answer 2 = .ok (.getfield 39, 3) := by decide +kernel
theorem dX9_answer_5 : decode cX9_answer 5 = .ok (.invokevirtual 46, 3) := by decide +kernel
theorem dX9_answer_8 : decode cX9_answer 8 = .ok (.iconst 1, 1) := by decide +kernel
theorem dX9_answer_9 : decode cX9_answer 9 = .ok (.isub, 1) := by decide +kernel
theorem dX9_answer_10 : decode cX9_answer 10 = .ok (.invokevirtual 58, 3) := by decide +kernel
theorem dX9_answer_13 : decode cX9_answer 13 = .ok (.areturn, 1) := by decide +kernel
theorem dX9_answerOffered_0 : decode cX9_answerOffered 0 = .ok (.aload_n 0, 1) := by decide +kernel
theorem dX9_answerOffered_1 : decode cX9_answerOffered 1 = .ok (.aload_n 0, 1) := by decide +kernel
theorem dX9_answerOffered_2 : decode cX9_answerOffered 2 = .ok (.getfield 39, 3) := by decide +kernel
theorem dX9_answerOffered_5 : decode cX9_answerOffered 5 = .ok (.invokevirtual 46, 3) := by decide +kernel
theorem dX9_answerOffered_8 : decode cX9_answerOffered 8 = .ok (.iconst 1, 1) := by decide +kernel
theorem dX9_answerOffered_9 : decode cX9_answerOffered 9 = .ok (.isub, 1) := by decide +kernel
theorem dX9_answerOffered_10 : decode cX9_answerOffered 10 = .ok (.invokevirtual 62, 3) := by decide +kernel
theorem dX9_answerOffered_13 : decode cX9_answerOffered 13 = .ok (.areturn, 1) := by decide +kernel
theorem dX9_offeredOf_0 : decode cX9_offeredOf 0 = .ok (.aload_n 0, 1) := by decide +kernel
theorem dX9_offeredOf_1 : decode cX9_offeredOf 1 = .ok (.iload_n 1, 1) := by decide +kernel
theorem dX9_offeredOf_2 : decode cX9_offeredOf 2 = .ok (.invokevirtual 65, 3) := by decide +kernel
theorem dX9_offeredOf_5 : decode cX9_offeredOf 5 = .ok (.ifCond .eq 12, 3) := by decide +kernel
theorem dX9_offeredOf_8 : decode cX9_offeredOf 8 = .ok (.aload_n 0, 1) := by decide +kernel
theorem dX9_offeredOf_9 : decode cX9_offeredOf 9 = .ok (.getfield 17, 3) := by decide +kernel
theorem dX9_offeredOf_12 : decode cX9_offeredOf 12 = .ok (.iload_n 1, 1) := by decide +kernel
theorem dX9_offeredOf_13 : decode cX9_offeredOf 13 = .ok (.aaload, 1) := by decide +kernel
theorem dX9_offeredOf_14 : decode cX9_offeredOf 14 = .ok (.goto 8, 3) := by decide +kernel
theorem dX9_offeredOf_17 : decode cX9_offeredOf 17 = .ok (.aload_n 0, 1) := by decide +kernel
theorem dX9_offeredOf_18 : decode cX9_offeredOf 18 = .ok (.iload_n 1, 1) := by decide +kernel
theorem dX9_offeredOf_19 : decode cX9_offeredOf 19 = .ok (.invokevirtual 58, 3) := by decide +kernel
theorem dX9_offeredOf_22 : decode cX9_offeredOf 22 = .ok (.areturn, 1) := by decide +kernel
theorem dX9_touches_0 : decode cX9_touches 0 = .ok (.aload_n 0, 1) := by decide +kernel
theorem dX9_touches_1 : decode cX9_touches 1 = .ok (.iload_n 1, 1) := by decide +kernel
theorem dX9_touches_2 : decode cX9_touches 2 = .ok (.invokevirtual 54, 3) := by decide +kernel
theorem dX9_touches_5 : decode cX9_touches 5 = .ok (.ifCond .eq 16, 3) := by decide +kernel
theorem dX9_touches_8 : decode cX9_touches 8 = .ok (.aload_n 0, 1) := by decide +kernel
theorem dX9_touches_9 : decode cX9_touches 9 = .ok (.getfield 24, 3) := by decide +kernel
theorem dX9_touches_12 : decode cX9_touches 12 = .ok (.iload_n 1, 1) := by decide +kernel
theorem dX9_touches_13 : decode cX9_touches 13 = .ok (.baload, 1) := by decide +kernel
theorem dX9_touches_14 : decode cX9_touches 14 = .ok (.ifCond .eq 7, 3) := by decide +kernel
theorem dX9_touches_17 : decode cX9_touches 17 = .ok (.iconst 1, 1) := by decide +kernel
theorem dX9_touches_18 : decode cX9_touches 18 = .ok (.goto 4, 3) := by decide +kernel
theorem dX9_touches_21 : decode cX9_touches 21 = .ok (.iconst 0, 1) := by decide +kernel
theorem dX9_touches_22 : decode cX9_touches 22 = .ok (.ireturn, 1) := by decide +kernel
theorem dX9_clear_0 : decode cX9_clear 0 = .ok (.iconst 0, 1) := by decide +kernel
theorem dX9_clear_1 : decode cX9_clear 1 = .ok (.istore_n 1, 1) := by decide +kernel
theorem dX9_clear_2 : decode cX9_clear 2 = .ok (.iload_n 1, 1) := by decide +kernel
theorem dX9_clear_3 : decode cX9_clear 3 = .ok (.bipush 12, 2) := by decide +kernel
theorem dX9_clear_5 : decode cX9_clear 5 = .ok (.if_icmp .ge 27, 3) := by decide +kernel
theorem dX9_clear_8 : decode cX9_clear 8 = .ok (.aload_n 0, 1) := by decide +kernel
theorem dX9_clear_9 : decode cX9_clear 9 = .ok (.getfield 11, 3) := by decide +kernel
theorem dX9_clear_12 : decode cX9_clear 12 = .ok (.iload_n 1, 1) := by decide +kernel
theorem dX9_clear_13 : decode cX9_clear 13 = .ok (.aaload, 1) := by decide +kernel
theorem dX9_clear_14 : decode cX9_clear 14 = .ok (.invokevirtual 68, 3) := by decide +kernel
theorem dX9_clear_17 : decode cX9_clear 17 = .ok (.aload_n 0, 1) := by decide +kernel
theorem dX9_clear_18 : decode cX9_clear 18 = .ok (.getfield 20, 3) := by decide +kernel
theorem dX9_clear_21 : decode cX9_clear 21 = .ok (.iload_n 1, 1) := by decide +kernel
theorem dX9_clear_22 : decode cX9_clear 22 = .ok (.aaload, 1) := by decide +kernel
theorem dX9_clear_23 : decode cX9_clear 23 = .ok (.invokevirtual 68, 3) := by decide +kernel
theorem dX9_clear_26 : decode cX9_clear 26 = .ok (.iinc 1 1, 3) := by decide +kernel
theorem dX9_clear_29 : decode cX9_clear 29 = .ok (.goto (-27), 3) := by decide +kernel
theorem dX9_clear_32 : decode cX9_clear 32 = .ok (.return_, 1) := by decide +kernel
theorem dX9_keep_0 : decode cX9_keep 0 = .ok (.iconst 0, 1) := by decide +kernel
theorem dX9_keep_1 : decode cX9_keep 1 = .ok (.istore_n 1, 1) := by decide +kernel
theorem dX9_keep_2 : decode cX9_keep 2 = .ok (.iload_n 1, 1) := by decide +kernel
theorem dX9_keep_3 : decode cX9_keep 3 = .ok (.aload_n 0, 1) := by decide +kernel
theorem dX9_keep_4 : decode cX9_keep 4 = .ok (.getfield 39, 3) := by decide +kernel
theorem dX9_keep_7 : decode cX9_keep 7 = .ok (.invokevirtual 46, 3) := by decide +kernel
theorem dX9_keep_10 : decode cX9_keep 10 = .ok (.if_icmp .ge 24, 3) := by decide +kernel
theorem dX9_keep_13 : decode cX9_keep 13 = .ok (.aload_n 0, 1) := by decide +kernel
theorem dX9_keep_14 : decode cX9_keep 14 = .ok (.getfield 20, 3) := by decide +kernel
theorem dX9_keep_17 : decode cX9_keep 17 = .ok (.iload_n 1, 1) := by decide +kernel
theorem dX9_keep_18 : decode cX9_keep 18 = .ok (.aaload, 1) := by decide +kernel
theorem dX9_keep_19 : decode cX9_keep 19 = .ok (.aload_n 0, 1) := by decide +kernel
theorem dX9_keep_20 : decode cX9_keep 20 = .ok (.getfield 11, 3) := by decide +kernel
theorem dX9_keep_23 : decode cX9_keep 23 = .ok (.iload_n 1, 1) := by decide +kernel
theorem dX9_keep_24 : decode cX9_keep 24 = .ok (.aaload, 1) := by decide +kernel
theorem dX9_keep_25 : decode cX9_keep 25 = .ok (.invokevirtual 71, 3) := by decide +kernel
theorem dX9_keep_28 : decode cX9_keep 28 = .ok (.iinc 1 1, 3) := by decide +kernel
theorem dX9_keep_31 : decode cX9_keep 31 = .ok (.goto (-29), 3) := by decide +kernel
theorem dX9_keep_34 : decode cX9_keep 34 = .ok (.return_, 1) := by decide +kernel
theorem dX9_restore_0 : decode cX9_restore 0 = .ok (.iconst 0, 1) := by decide +kernel
theorem dX9_restore_1 : decode cX9_restore 1 = .ok (.istore_n 1, 1) := by decide +kernel
theorem dX9_restore_2 : decode cX9_restore 2 = .ok (.iload_n 1, 1) := by decide +kernel
theorem dX9_restore_3 : decode cX9_restore 3 = .ok (.aload_n 0, 1) := by decide +kernel
theorem dX9_restore_4 : decode cX9_restore 4 = .ok (.getfield 39, 3) := by decide +kernel
theorem dX9_restore_7 : decode cX9_restore 7 = .ok (.invokevirtual 46, 3) := by decide +kernel
theorem dX9_restore_10 : decode cX9_restore 10 = .ok (.if_icmp .ge 24, 3) := by decide +kernel
theorem dX9_restore_13 : decode cX9_restore 13 = .ok (.aload_n 0, 1) := by decide +kernel
theorem dX9_restore_14 : decode cX9_restore 14 = .ok (.getfield 11, 3) := by decide +kernel
theorem dX9_restore_17 : decode cX9_restore 17 = .ok (.iload_n 1, 1) := by decide +kernel
theorem dX9_restore_18 : decode cX9_restore 18 = .ok (.aaload, 1) := by decide +kernel
theorem dX9_restore_19 : decode cX9_restore 19 = .ok (.aload_n 0, 1) := by decide +kernel
theorem dX9_restore_20 : decode cX9_restore 20 = .ok (.getfield 20, 3) := by decide +kernel
theorem dX9_restore_23 : decode cX9_restore 23 = .ok (.iload_n 1, 1) := by decide +kernel
theorem dX9_restore_24 : decode cX9_restore 24 = .ok (.aaload, 1) := by decide +kernel
theorem dX9_restore_25 : decode cX9_restore 25 = .ok (.invokevirtual 71, 3) := by decide +kernel
theorem dX9_restore_28 : decode cX9_restore 28 = .ok (.iinc 1 1, 3) := by decide +kernel
theorem dX9_restore_31 : decode cX9_restore 31 = .ok (.goto (-29), 3) := by decide +kernel
theorem dX9_restore_34 : decode cX9_restore 34 = .ok (.return_, 1) := by decide +kernel
theorem dX9_offer_0 : decode cX9_offer 0 = .ok (.iconst 0, 1) := by decide +kernel
theorem dX9_offer_1 : decode cX9_offer 1 = .ok (.istore 4, 2) := by decide +kernel
theorem dX9_offer_3 : decode cX9_offer 3 = .ok (.iload 4, 2) := by decide +kernel
theorem dX9_offer_5 : decode cX9_offer 5 = .ok (.aload_n 0, 1) := by decide +kernel
theorem dX9_offer_6 : decode cX9_offer 6 = .ok (.getfield 39, 3) := by decide +kernel
theorem dX9_offer_9 : decode cX9_offer 9 = .ok (.invokevirtual 46, 3) := by decide +kernel
theorem dX9_offer_12 : decode cX9_offer 12 = .ok (.if_icmp .ge 201, 3) := by decide +kernel
theorem dX9_offer_15 : decode cX9_offer 15 = .ok (.aload_n 0, 1) := by decide +kernel
theorem dX9_offer_16 : decode cX9_offer 16 = .ok (.getfield 39, 3) := by decide +kernel
theorem dX9_offer_19 : decode cX9_offer 19 = .ok (.iload 4, 2) := by decide +kernel
theorem dX9_offer_21 : decode cX9_offer 21 = .ok (.invokevirtual 75, 3) := by decide +kernel
theorem dX9_offer_24 : decode cX9_offer 24 = .ok (.astore 5, 2) := by decide +kernel
theorem dX9_offer_26 : decode cX9_offer 26 = .ok (.aload 5, 2) := by decide +kernel
theorem dX9_offer_28 : decode cX9_offer 28 = .ok (.getfield 79, 3) := by decide +kernel
theorem dX9_offer_31 : decode cX9_offer 31 = .ok (.ifCond .ne 7, 3) := by decide +kernel
theorem dX9_offer_34 : decode cX9_offer 34 = .ok (.iconst 1, 1) := by decide +kernel
theorem dX9_offer_35 : decode cX9_offer 35 = .ok (.goto 4, 3) := by decide +kernel
theorem dX9_offer_38 : decode cX9_offer 38 = .ok (.iconst 0, 1) := by decide +kernel
theorem dX9_offer_39 : decode cX9_offer 39 = .ok (.istore 6, 2) := by decide +kernel
theorem dX9_offer_41 : decode cX9_offer 41 = .ok (.aload_n 0, 1) := by decide +kernel
theorem dX9_offer_42 : decode cX9_offer 42 = .ok (.getfield 24, 3) := by decide +kernel
theorem dX9_offer_45 : decode cX9_offer 45 = .ok (.iload 4, 2) := by decide +kernel
theorem dX9_offer_47 : decode cX9_offer 47 = .ok (.iload 6, 2) := by decide +kernel
theorem dX9_offer_49 : decode cX9_offer 49 = .ok (.ifCond .eq 20, 3) := by decide +kernel
theorem dX9_offer_52 : decode cX9_offer 52 = .ok (.aload 5, 2) := by decide +kernel
theorem dX9_offer_54 : decode cX9_offer 54 = .ok (.getfield 85, 3) := by decide +kernel
theorem dX9_offer_57 : decode cX9_offer 57 = .ok (.iload_n 1, 1) := by decide +kernel
theorem dX9_offer_58 : decode cX9_offer 58 = .ok (.if_icmp .ne 7, 3) := by decide +kernel
theorem dX9_offer_61 : decode cX9_offer 61 = .ok (.iconst 1, 1) := by decide +kernel
theorem dX9_offer_62 : decode cX9_offer 62 = .ok (.goto 36, 3) := by decide +kernel
theorem dX9_offer_65 : decode cX9_offer 65 = .ok (.iconst 0, 1) := by decide +kernel
theorem dX9_offer_66 : decode cX9_offer 66 = .ok (.goto 32, 3) := by decide +kernel
theorem dX9_offer_69 : decode cX9_offer 69 = .ok (.aload_n 0, 1) := by decide +kernel
theorem dX9_offer_70 : decode cX9_offer 70 = .ok (.aload 5, 2) := by decide +kernel
theorem dX9_offer_72 : decode cX9_offer 72 = .ok (.getfield 88, 3) := by decide +kernel
theorem dX9_offer_75 : decode cX9_offer 75 = .ok (.invokevirtual 65, 3) := by decide +kernel
theorem dX9_offer_78 : decode cX9_offer 78 = .ok (.ifCond .ne 15, 3) := by decide +kernel
theorem dX9_offer_81 : decode cX9_offer 81 = .ok (.aload_n 0, 1) := by decide +kernel
theorem dX9_offer_82 : decode cX9_offer 82 = .ok (.aload 5, 2) := by decide +kernel
theorem dX9_offer_84 : decode cX9_offer 84 = .ok (.getfield 91, 3) := by decide +kernel
theorem dX9_offer_87 : decode cX9_offer 87 = .ok (.invokevirtual 65, 3) := by decide +kernel
theorem dX9_offer_90 : decode cX9_offer 90 = .ok (.ifCond .eq 7, 3) := by decide +kernel
theorem dX9_offer_93 : decode cX9_offer 93 = .ok (.iconst 1, 1) := by decide +kernel
theorem dX9_offer_94 : decode cX9_offer 94 = .ok (.goto 4, 3) := by decide +kernel
theorem dX9_offer_97 : decode cX9_offer 97 = .ok (.iconst 0, 1) := by decide +kernel
theorem dX9_offer_98 : decode cX9_offer 98 = .ok (.bastore, 1) := by decide +kernel
theorem dX9_offer_99 : decode cX9_offer 99 = .ok (.aload_n 0, 1) := by decide +kernel
theorem dX9_offer_100 : decode cX9_offer 100 = .ok (.getfield 24, 3) := by decide +kernel
theorem dX9_offer_103 : decode cX9_offer 103 = .ok (.iload 4, 2) := by decide +kernel
theorem dX9_offer_105 : decode cX9_offer 105 = .ok (.baload, 1) := by decide +kernel
theorem dX9_offer_106 : decode cX9_offer 106 = .ok (.ifCond .ne 6, 3) := by decide +kernel
theorem dX9_offer_109 : decode cX9_offer 109 = .ok (.goto 98, 3) := by decide +kernel
theorem dX9_offer_112 : decode cX9_offer 112 = .ok (.iload 6, 2) := by decide +kernel
theorem dX9_offer_114 : decode cX9_offer 114 = .ok (.ifCond .eq 34, 3) := by decide +kernel
theorem dX9_offer_117 : decode cX9_offer 117 = .ok (.aload_n 0, 1) := by decide +kernel
theorem dX9_offer_118 : decode cX9_offer 118 = .ok (.getfield 17, 3) := by decide +kernel
theorem dX9_offer_121 : decode cX9_offer 121 = .ok (.iload 4, 2) := by decide +kernel
theorem dX9_offer_123 : decode cX9_offer 123 = .ok (.aaload, 1) := by decide +kernel
theorem dX9_offer_124 : decode cX9_offer 124 = .ok (.aload_n 0, 1) := by decide +kernel
theorem dX9_offer_125 : decode cX9_offer 125 = .ok (.getfield 11, 3) := by decide +kernel
theorem dX9_offer_128 : decode cX9_offer 128 = .ok (.iload 4, 2) := by decide +kernel
theorem dX9_offer_130 : decode cX9_offer 130 = .ok (.aaload, 1) := by decide +kernel
theorem dX9_offer_131 : decode cX9_offer 131 = .ok (.invokevirtual 71, 3) := by decide +kernel
theorem dX9_offer_134 : decode cX9_offer 134 = .ok (.aload_n 0, 1) := by decide +kernel
theorem dX9_offer_135 : decode cX9_offer 135 = .ok (.getfield 17, 3) := by decide +kernel
theorem dX9_offer_138 : decode cX9_offer 138 = .ok (.iload 4, 2) := by decide +kernel
theorem dX9_offer_140 : decode cX9_offer 140 = .ok (.aaload, 1) := by decide +kernel
theorem dX9_offer_141 : decode cX9_offer 141 = .ok (.lload_n 2, 1) := by decide +kernel
theorem dX9_offer_142 : decode cX9_offer 142 = .ok (.invokevirtual 94, 3) := by decide +kernel
theorem dX9_offer_145 : decode cX9_offer 145 = .ok (.goto 33, 3) := by decide +kernel
theorem dX9_offer_148 : decode cX9_offer 148 = .ok (.aload 5, 2) := by decide +kernel
theorem dX9_offer_150 : decode cX9_offer 150 = .ok (.aload_n 0, 1) := by decide +kernel
theorem dX9_offer_151 : decode cX9_offer 151 = .ok (.aload 5, 2) := by decide +kernel
theorem dX9_offer_153 : decode cX9_offer 153 = .ok (.getfield 88, 3) := by decide +kernel
theorem dX9_offer_156 : decode cX9_offer 156 = .ok (.invokevirtual 62, 3) := by decide +kernel
theorem dX9_offer_159 : decode cX9_offer 159 = .ok (.aload_n 0, 1) := by decide +kernel
theorem dX9_offer_160 : decode cX9_offer 160 = .ok (.aload 5, 2) := by decide +kernel
theorem dX9_offer_162 : decode cX9_offer 162 = .ok (.getfield 91, 3) := by decide +kernel
theorem dX9_offer_165 : decode cX9_offer 165 = .ok (.invokevirtual 62, 3) := by decide +kernel
theorem dX9_offer_168 : decode cX9_offer 168 = .ok (.aload_n 0, 1) := by decide +kernel
theorem dX9_offer_169 : decode cX9_offer 169 = .ok (.getfield 17, 3) := by decide +kernel
theorem dX9_offer_172 : decode cX9_offer 172 = .ok (.iload 4, 2) := by decide +kernel
theorem dX9_offer_174 : decode cX9_offer 174 = .ok (.aaload, 1) := by decide +kernel
theorem dX9_offer_175 : decode cX9_offer 175 = .ok (.invokevirtual 98, 3) := by decide +kernel
theorem dX9_offer_178 : decode cX9_offer 178 = .ok (.aload_n 0, 1) := by decide +kernel
theorem dX9_offer_179 : decode cX9_offer 179 = .ok (.getfield 17, 3) := by decide +kernel
theorem dX9_offer_182 : decode cX9_offer 182 = .ok (.iload 4, 2) := by decide +kernel
theorem dX9_offer_184 : decode cX9_offer 184 = .ok (.aaload, 1) := by decide +kernel
theorem dX9_offer_185 : decode cX9_offer 185 = .ok (.invokevirtual 102, 3) := by decide +kernel
theorem dX9_offer_188 : decode cX9_offer 188 = .ok (.ifCond .eq 5, 3) := by decide +kernel
theorem dX9_offer_191 : decode cX9_offer 191 = .ok (.iconst 0, 1) := by decide +kernel
theorem dX9_offer_192 : decode cX9_offer 192 = .ok (.ireturn, 1) := by decide +kernel
theorem dX9_offer_193 : decode cX9_offer 193 = .ok (.aload_n 0, 1) := by decide +kernel
theorem dX9_offer_194 : decode cX9_offer 194 = .ok (.getfield 17, 3) := by decide +kernel
theorem dX9_offer_197 : decode cX9_offer 197 = .ok (.iload 4, 2) := by decide +kernel
theorem dX9_offer_199 : decode cX9_offer 199 = .ok (.aaload, 1) := by decide +kernel
theorem dX9_offer_200 : decode cX9_offer 200 = .ok (.aload_n 0, 1) := by decide +kernel
theorem dX9_offer_201 : decode cX9_offer 201 = .ok (.getfield 32, 3) := by decide +kernel
theorem dX9_offer_204 : decode cX9_offer 204 = .ok (.invokevirtual 106, 3) := by decide +kernel
theorem dX9_offer_207 : decode cX9_offer 207 = .ok (.iinc 4 1, 3) := by decide +kernel
theorem dX9_offer_210 : decode cX9_offer 210 = .ok (.goto (-207), 3) := by decide +kernel
theorem dX9_offer_213 : decode cX9_offer 213 = .ok (.iconst 1, 1) := by decide +kernel
theorem dX9_offer_214 : decode cX9_offer 214 = .ok (.ireturn, 1) := by decide +kernel
theorem dX9_acceptOffer_0 : decode cX9_acceptOffer 0 = .ok (.iconst 0, 1) := by decide +kernel
theorem dX9_acceptOffer_1 : decode cX9_acceptOffer 1 = .ok (.istore_n 1, 1) := by decide +kernel
theorem dX9_acceptOffer_2 : decode cX9_acceptOffer 2 = .ok (.iload_n 1, 1) := by decide +kernel
theorem dX9_acceptOffer_3 : decode cX9_acceptOffer 3 = .ok (.aload_n 0, 1) := by decide +kernel
theorem dX9_acceptOffer_4 : decode cX9_acceptOffer 4 = .ok (.getfield 39, 3) := by decide +kernel
theorem dX9_acceptOffer_7 : decode cX9_acceptOffer 7 = .ok (.invokevirtual 46, 3) := by decide +kernel
theorem dX9_acceptOffer_10 : decode cX9_acceptOffer 10 = .ok (.if_icmp .ge 44, 3) := by decide +kernel
theorem dX9_acceptOffer_13 : decode cX9_acceptOffer 13 = .ok (.aload_n 0, 1) := by decide +kernel
theorem dX9_acceptOffer_14 : decode cX9_acceptOffer 14 = .ok (.getfield 24, 3) := by decide +kernel
theorem dX9_acceptOffer_17 : decode cX9_acceptOffer 17 = .ok (.iload_n 1, 1) := by decide +kernel
theorem dX9_acceptOffer_18 : decode cX9_acceptOffer 18 = .ok (.baload, 1) := by decide +kernel
theorem dX9_acceptOffer_19 : decode cX9_acceptOffer 19 = .ok (.ifCond .eq 29, 3) := by decide +kernel
theorem dX9_acceptOffer_22 : decode cX9_acceptOffer 22 = .ok (.aload_n 0, 1) := by decide +kernel
theorem dX9_acceptOffer_23 : decode cX9_acceptOffer 23 = .ok (.getfield 11, 3) := by decide +kernel
theorem dX9_acceptOffer_26 : decode cX9_acceptOffer 26 = .ok (.iload_n 1, 1) := by decide +kernel
theorem dX9_acceptOffer_27 : decode cX9_acceptOffer 27 = .ok (.aaload, 1) := by decide +kernel
theorem dX9_acceptOffer_28 : decode cX9_acceptOffer 28 = .ok (.astore_n 2, 1) := by decide +kernel
theorem dX9_acceptOffer_29 : decode cX9_acceptOffer 29 = .ok (.aload_n 0, 1) := by decide +kernel
theorem dX9_acceptOffer_30 : decode cX9_acceptOffer 30 = .ok (.getfield 11, 3) := by decide +kernel
theorem dX9_acceptOffer_33 : decode cX9_acceptOffer 33 = .ok (.iload_n 1, 1) := by decide +kernel
theorem dX9_acceptOffer_34 : decode cX9_acceptOffer 34 = .ok (.aload_n 0, 1) := by decide +kernel
theorem dX9_acceptOffer_35 : decode cX9_acceptOffer 35 = .ok (.getfield 17, 3) := by decide +kernel
theorem dX9_acceptOffer_38 : decode cX9_acceptOffer 38 = .ok (.iload_n 1, 1) := by decide +kernel
theorem dX9_acceptOffer_39 : decode cX9_acceptOffer 39 = .ok (.aaload, 1) := by decide +kernel
theorem dX9_acceptOffer_40 : decode cX9_acceptOffer 40 = .ok (.aastore, 1) := by decide +kernel
theorem dX9_acceptOffer_41 : decode cX9_acceptOffer 41 = .ok (.aload_n 0, 1) := by decide +kernel
theorem dX9_acceptOffer_42 : decode cX9_acceptOffer 42 = .ok (.getfield 17, 3) := by decide +kernel
theorem dX9_acceptOffer_45 : decode cX9_acceptOffer 45 = .ok (.iload_n 1, 1) := by decide +kernel
theorem dX9_acceptOffer_46 : decode cX9_acceptOffer 46 = .ok (.aload_n 2, 1) := by decide +kernel
theorem dX9_acceptOffer_47 : decode cX9_acceptOffer 47 = .ok (.aastore, 1) := by decide +kernel
theorem dX9_acceptOffer_48 : decode cX9_acceptOffer 48 = .ok (.iinc 1 1, 3) := by decide +kernel
theorem dX9_acceptOffer_51 : decode cX9_acceptOffer 51 = .ok (.goto (-49), 3) := by decide +kernel
theorem dX9_acceptOffer_54 : decode cX9_acceptOffer 54 = .ok (.return_, 1) := by decide +kernel
theorem dX9_countOfKeys_0 : decode cX9_countOfKeys 0 = .ok (.iconst 0, 1) := by decide +kernel
theorem dX9_countOfKeys_1 : decode cX9_countOfKeys 1 = .ok (.istore_n 2, 1) := by decide +kernel
theorem dX9_countOfKeys_2 : decode cX9_countOfKeys 2 = .ok (.iconst 0, 1) := by decide +kernel
theorem dX9_countOfKeys_3 : decode cX9_countOfKeys 3 = .ok (.istore_n 3, 1) := by decide +kernel
theorem dX9_countOfKeys_4 : decode cX9_countOfKeys 4 = .ok (.iload_n 3, 1) := by decide +kernel
theorem dX9_countOfKeys_5 : decode cX9_countOfKeys 5 = .ok (.aload_n 0, 1) := by decide +kernel
theorem dX9_countOfKeys_6 : decode cX9_countOfKeys 6 = .ok (.getfield 39, 3) := by decide +kernel
theorem dX9_countOfKeys_9 : decode cX9_countOfKeys 9 = .ok (.invokevirtual 46, 3) := by decide +kernel
theorem dX9_countOfKeys_12 : decode cX9_countOfKeys 12 = .ok (.if_icmp .ge 22, 3) := by decide +kernel
theorem dX9_countOfKeys_15 : decode cX9_countOfKeys 15 = .ok (.iload_n 2, 1) := by decide +kernel
theorem dX9_countOfKeys_16 : decode cX9_countOfKeys 16 = .ok (.aload_n 0, 1) := by decide +kernel
theorem dX9_countOfKeys_17 : decode cX9_countOfKeys 17 = .ok (.getfield 11, 3) := by decide +kernel
theorem dX9_countOfKeys_20 : decode cX9_countOfKeys 20 = .ok (.iload_n 3, 1) := by decide +kernel
theorem dX9_countOfKeys_21 : decode cX9_countOfKeys 21 = .ok (.aaload, 1) := by decide +kernel
theorem dX9_countOfKeys_22 : decode cX9_countOfKeys 22 = .ok (.iload_n 1, 1) := by decide +kernel
theorem dX9_countOfKeys_23 : decode cX9_countOfKeys 23 = .ok (.invokevirtual 110, 3) := by decide +kernel
theorem dX9_countOfKeys_26 : decode cX9_countOfKeys 26 = .ok (.iadd, 1) := by decide +kernel
theorem dX9_countOfKeys_27 : decode cX9_countOfKeys 27 = .ok (.istore_n 2, 1) := by decide +kernel
theorem dX9_countOfKeys_28 : decode cX9_countOfKeys 28 = .ok (.iinc 3 1, 3) := by decide +kernel
theorem dX9_countOfKeys_31 : decode cX9_countOfKeys 31 = .ok (.goto (-27), 3) := by decide +kernel
theorem dX9_countOfKeys_34 : decode cX9_countOfKeys 34 = .ok (.iload_n 2, 1) := by decide +kernel
theorem dX9_countOfKeys_35 : decode cX9_countOfKeys 35 = .ok (.ireturn, 1) := by decide +kernel
theorem dX10_init_0 : decode cX10_init 0 = .ok (.aload_n 0, 1) := by decide +kernel
theorem dX10_init_1 : decode cX10_init 1 = .ok (.invokespecial 3, 3) := by decide +kernel
theorem dX10_init_4 : decode cX10_init 4 = .ok (.aload_n 0, 1) := by decide +kernel
theorem dX10_init_5 : decode cX10_init 5 = .ok (.sipush 300, 3) := by decide +kernel
theorem dX10_init_8 : decode cX10_init 8 = .ok (.newarray .char, 2) := by decide +kernel
theorem dX10_init_10 : decode cX10_init 10 = .ok (.putfield 9, 3) := by decide +kernel
theorem dX10_init_13 : decode cX10_init 13 = .ok (.return_, 1) := by decide +kernel
theorem dX10_length_0 : decode cX10_length 0 = .ok (.aload_n 0, 1) := by decide +kernel
theorem dX10_length_1 : decode cX10_length 1 = .ok (.getfield 15, 3) := by decide +kernel
theorem dX10_length_4 : decode cX10_length 4 = .ok (.ireturn, 1) := by decide +kernel
theorem dX10_hasRoomFor_0 : decode cX10_hasRoomFor 0 = .ok (.aload_n 0, 1) := by decide +kernel
theorem dX10_hasRoomFor_1 : decode cX10_hasRoomFor 1 = .ok (.getfield 15, 3) := by decide +kernel
theorem dX10_hasRoomFor_4 : decode cX10_hasRoomFor 4 = .ok (.iload_n 1, 1) := by decide +kernel
theorem dX10_hasRoomFor_5 : decode cX10_hasRoomFor 5 = .ok (.iadd, 1) := by decide +kernel
theorem dX10_hasRoomFor_6 : decode cX10_hasRoomFor 6 = .ok (.sipush 300, 3) := by decide +kernel
theorem dX10_hasRoomFor_9 : decode cX10_hasRoomFor 9 = .ok (.if_icmp .gt 7, 3) := by decide +kernel
theorem dX10_hasRoomFor_12 : decode cX10_hasRoomFor 12 = .ok (.iconst 1, 1) := by decide +kernel
theorem dX10_hasRoomFor_13 : decode cX10_hasRoomFor 13 = .ok (.goto 4, 3) := by decide +kernel
theorem dX10_hasRoomFor_16 : decode cX10_hasRoomFor 16 = .ok (.iconst 0, 1) := by decide +kernel
theorem dX10_hasRoomFor_17 : decode cX10_hasRoomFor 17 = .ok (.ireturn, 1) := by decide +kernel
theorem dX10_addNumber_0 : decode cX10_addNumber 0 = .ok (.bipush 24, 2) := by decide +kernel
theorem dX10_addNumber_2 : decode cX10_addNumber 2 = .ok (.istore_n 2, 1) := by decide +kernel
theorem dX10_addNumber_3 : decode cX10_addNumber 3 = .ok (.iload_n 2, 1) := by decide +kernel
theorem dX10_addNumber_4 : decode cX10_addNumber 4 = .ok (.ifCond .lt 46, 3) := by decide +kernel
theorem dX10_addNumber_7 : decode cX10_addNumber 7 = .ok (.aload_n 0, 1) := by decide +kernel
theorem dX10_addNumber_8 : decode cX10_addNumber 8 = .ok (.getfield 15, 3) := by decide +kernel
theorem dX10_addNumber_11 : decode cX10_addNumber 11 = .ok (.sipush 300, 3) := by decide +kernel
theorem dX10_addNumber_14 : decode cX10_addNumber 14 = .ok (.if_icmp .ge 36, 3) := by decide +kernel
theorem dX10_addNumber_17 : decode cX10_addNumber 17 = .ok (.aload_n 0, 1) := by decide +kernel
theorem dX10_addNumber_18 : decode cX10_addNumber 18 = .ok (.getfield 9, 3) := by decide +kernel
theorem dX10_addNumber_21 : decode cX10_addNumber 21 = .ok (.aload_n 0, 1) := by decide +kernel
theorem dX10_addNumber_22 : decode cX10_addNumber 22 = .ok (.getfield 15, 3) := by decide +kernel
theorem dX10_addNumber_25 : decode cX10_addNumber 25 = .ok (.iload_n 1, 1) := by decide +kernel
theorem dX10_addNumber_26 : decode cX10_addNumber 26 = .ok (.iload_n 2, 1) := by decide +kernel
theorem dX10_addNumber_27 : decode cX10_addNumber 27 = .ok (.iushr, 1) := by decide +kernel
theorem dX10_addNumber_28 : decode cX10_addNumber 28 = .ok (.sipush 255, 3) := by decide +kernel
theorem dX10_addNumber_31 : decode cX10_addNumber 31 = .ok (.iand, 1) := by decide +kernel
theorem dX10_addNumber_32 : decode cX10_addNumber 32 = .ok (.i2c, 1) := by decide +kernel
theorem dX10_addNumber_33 : decode cX10_addNumber 33 = .ok (.castore, 1) := by decide +kernel
theorem dX10_addNumber_34 : decode cX10_addNumber 34 = .ok (.aload_n 0, 1) := by decide +kernel
theorem dX10_addNumber_35 : decode cX10_addNumber 35 = .ok (.dup, 1) := by decide +kernel
theorem dX10_addNumber_36 : decode cX10_addNumber 36 = .ok (.getfield 15, 3) := by decide +kernel
theorem dX10_addNumber_39 : decode cX10_addNumber 39 = .ok (.iconst 1, 1) := by decide +kernel
theorem dX10_addNumber_40 : decode cX10_addNumber 40 = .ok (.iadd, 1) := by decide +kernel
theorem dX10_addNumber_41 : decode cX10_addNumber 41 = .ok (.putfield 15, 3) := by decide +kernel
theorem dX10_addNumber_44 : decode cX10_addNumber 44 = .ok (.iinc 2 (-8), 3) := by decide +kernel
theorem dX10_addNumber_47 : decode cX10_addNumber 47 = .ok (.goto (-44), 3) := by decide +kernel
theorem dX10_addNumber_50 : decode cX10_addNumber 50 = .ok (.return_, 1) := by decide +kernel
theorem dX10_cut_0 : decode cX10_cut 0 = .ok (.aload_n 0, 1) := by decide +kernel
theorem dX10_cut_1 : decode cX10_cut 1 = .ok (.iconst 0, 1) := by decide +kernel
theorem dX10_cut_2 : decode cX10_cut 2 = .ok (.iload_n 1, 1) := by decide +kernel
theorem dX10_cut_3 : decode cX10_cut 3 = .ok (.aload_n 0, 1) := by decide +kernel
theorem dX10_cut_4 : decode cX10_cut 4 = .ok (.getfield 15, 3) := by decide +kernel
theorem dX10_cut_7 : decode cX10_cut 7 = .ok (.invokestatic 19, 3) := by decide +kernel
theorem dX10_cut_10 : decode cX10_cut 10 = .ok (.invokestatic 25, 3) := by decide +kernel
theorem dX10_cut_13 : decode cX10_cut 13 = .ok (.putfield 15, 3) := by decide +kernel
theorem dX10_cut_16 : decode cX10_cut 16 = .ok (.return_, 1) := by decide +kernel
theorem dX10_toFirstToken_0 : decode cX10_toFirstToken 0 = .ok (.aload_n 0, 1) := by decide +kernel
theorem dX10_toFirstToken_1 : decode cX10_toFirstToken 1 = .ok (.iconst 0, 1) := by decide +kernel
theorem dX10_toFirstToken_2 : decode cX10_toFirstToken 2 = .ok (.putfield 28, 3) := by decide +kernel
theorem dX10_toFirstToken_5 : decode cX10_toFirstToken 5 = .ok (.aload_n 0, 1) := by decide +kernel
theorem dX10_toFirstToken_6 : decode cX10_toFirstToken 6 = .ok (.invokevirtual 31, 3) := by decide +kernel
theorem dX10_toFirstToken_9 : decode cX10_toFirstToken 9 = .ok (.return_, 1) := by decide +kernel
theorem dX10_toNextToken_0 : decode cX10_toNextToken 0 = .ok (.aload_n 0, 1) := by decide +kernel
theorem dX10_toNextToken_1 : decode cX10_toNextToken 1 = .ok (.aload_n 0, 1) := by decide +kernel
theorem dX10_toNextToken_2 : decode cX10_toNextToken 2 = .ok (.getfield 28, 3) := by decide +kernel
theorem dX10_toNextToken_5 : decode cX10_toNextToken 5 = .ok (.putfield 34, 3) := by decide +kernel
theorem dX10_toNextToken_8 : decode cX10_toNextToken 8 = .ok (.aload_n 0, 1) := by decide +kernel
theorem dX10_toNextToken_9 : decode cX10_toNextToken 9 = .ok (.getfield 34, 3) := by decide +kernel
theorem dX10_toNextToken_12 : decode cX10_toNextToken 12 = .ok (.aload_n 0, 1) := by decide +kernel
theorem dX10_toNextToken_13 : decode cX10_toNextToken 13 = .ok (.getfield 15, 3) := by decide +kernel
theorem dX10_toNextToken_16 : decode cX10_toNextToken 16 = .ok (.if_icmp .ge 30, 3) := by decide +kernel
theorem dX10_toNextToken_19 : decode cX10_toNextToken 19 = .ok (.aload_n 0, 1) := by decide +kernel
theorem dX10_toNextToken_20 : decode cX10_toNextToken 20 = .ok (.getfield 9, 3) := by decide +kernel
theorem dX10_toNextToken_23 : decode cX10_toNextToken 23 = .ok (.aload_n 0, 1) := by decide +kernel
theorem dX10_toNextToken_24 : decode cX10_toNextToken 24 = .ok (.getfield 34, 3) := by decide +kernel
theorem dX10_toNextToken_27 : decode cX10_toNextToken 27 = .ok (.caload, 1) := by decide +kernel
theorem dX10_toNextToken_28 : decode cX10_toNextToken 28 = .ok (.bipush 32, 2) := by decide +kernel
theorem dX10_toNextToken_30 : decode cX10_toNextToken 30 = .ok (.if_icmp .ne 16, 3) := by decide +kernel
theorem dX10_toNextToken_33 : decode cX10_toNextToken 33 = .ok (.aload_n 0, 1) := by decide +kernel
theorem dX10_toNextToken_34 : decode cX10_toNextToken 34 = .ok (.dup, 1) := by decide +kernel
theorem dX10_toNextToken_35 : decode cX10_toNextToken 35 = .ok (.getfield 34, 3) := by decide +kernel
theorem dX10_toNextToken_38 : decode cX10_toNextToken 38 = .ok (.iconst 1, 1) := by decide +kernel
theorem dX10_toNextToken_39 : decode cX10_toNextToken 39 = .ok (.iadd, 1) := by decide +kernel
theorem dX10_toNextToken_40 : decode cX10_toNextToken 40 = .ok (.putfield 34, 3) := by decide +kernel
theorem dX10_toNextToken_43 : decode cX10_toNextToken 43 = .ok (.goto (-35), 3) := by decide +kernel
theorem dX10_toNextToken_46 : decode cX10_toNextToken 46 = .ok (.aload_n 0, 1) := by decide +kernel
theorem dX10_toNextToken_47 : decode cX10_toNextToken 47 = .ok (.aload_n 0, 1) := by decide +kernel
theorem dX10_toNextToken_48 : decode cX10_toNextToken 48 = .ok (.getfield 34, 3) := by decide +kernel
theorem dX10_toNextToken_51 : decode cX10_toNextToken 51 = .ok (.iconst 1, 1) := by decide +kernel
theorem dX10_toNextToken_52 : decode cX10_toNextToken 52 = .ok (.iadd, 1) := by decide +kernel
theorem dX10_toNextToken_53 : decode cX10_toNextToken 53 = .ok (.aload_n 0, 1) := by decide +kernel
theorem dX10_toNextToken_54 : decode cX10_toNextToken 54 = .ok (.getfield 15, 3) := by decide +kernel
theorem dX10_toNextToken_57 : decode cX10_toNextToken 57 = .ok (.invokestatic 19, 3) := by decide +kernel
theorem dX10_toNextToken_60 : decode cX10_toNextToken 60 = .ok (.putfield 28, 3) := by decide +kernel
theorem dX10_toNextToken_63 : decode cX10_toNextToken 63 = .ok (.aload_n 0, 1) := by decide +kernel
theorem dX10_toNextToken_64 : decode cX10_toNextToken 64 = .ok (.aload_n 0, 1) := by decide +kernel
theorem dX10_toNextToken_65 : decode cX10_toNextToken 65 = .ok (.getfield 34, 3) := by decide +kernel
theorem dX10_toNextToken_68 : decode cX10_toNextToken 68 = .ok (.invokevirtual 37, 3) := by decide +kernel
theorem dX10_toNextToken_71 : decode cX10_toNextToken 71 = .ok (.ifCond .eq 38, 3) := by decide +kernel
theorem dX10_toNextToken_74 : decode cX10_toNextToken 74 = .ok (.aload_n 0, 1) := by decide +kernel
theorem dX10_toNextToken_75 : decode cX10_toNextToken 75 = .ok (.getfield 28, 3) := by decide +kernel
theorem dX10_toNextToken_78 : decode cX10_toNextToken 78 = .ok (.aload_n 0, 1) := by decide +kernel
theorem dX10_toNextToken_79 : decode cX10_toNextToken 79 = .ok (.getfield 15, 3) := by decide +kernel
theorem dX10_toNextToken_82 : decode cX10_toNextToken 82 = .ok (.if_icmp .ge 73, 3) := by decide +kernel
theorem dX10_toNextToken_85 : decode cX10_toNextToken 85 = .ok (.aload_n 0, 1) := by decide +kernel
theorem dX10_toNextToken_86 : decode cX10_toNextToken 86 = .ok (.aload_n 0, 1) := by decide +kernel
theorem dX10_toNextToken_87 : decode cX10_toNextToken 87 = .ok (.getfield 28, 3) := by decide +kernel
theorem dX10_toNextToken_90 : decode cX10_toNextToken 90 = .ok (.invokevirtual 37, 3) := by decide +kernel
theorem dX10_toNextToken_93 : decode cX10_toNextToken 93 = .ok (.ifCond .eq 62, 3) := by decide +kernel
theorem dX10_toNextToken_96 : decode cX10_toNextToken 96 = .ok (.aload_n 0, 1) := by decide +kernel
theorem dX10_toNextToken_97 : decode cX10_toNextToken 97 = .ok (.dup, 1) := by decide +kernel
theorem dX10_toNextToken_98 : decode cX10_toNextToken 98 = .ok (.getfield 28, 3) := by decide +kernel
theorem dX10_toNextToken_101 : decode cX10_toNextToken 101 = .ok (.iconst 1, 1) := by decide +kernel
theorem dX10_toNextToken_102 : decode cX10_toNextToken 102 = .ok (.iadd, 1) := by decide +kernel
theorem dX10_toNextToken_103 : decode cX10_toNextToken 103 = .ok (.putfield 28, 3) := by decide +kernel
theorem dX10_toNextToken_106 : decode cX10_toNextToken 106 = .ok (.goto (-32), 3) := by decide +kernel
theorem dX10_toNextToken_109 : decode cX10_toNextToken 109 = .ok (.aload_n 0, 1) := by decide +kernel
theorem dX10_toNextToken_110 : decode cX10_toNextToken 110 = .ok (.aload_n 0, 1) := by decide +kernel
theorem dX10_toNextToken_111 : decode cX10_toNextToken 111 = .ok (.getfield 34, 3) := by decide +kernel
theorem dX10_toNextToken_114 : decode cX10_toNextToken 114 = .ok (.invokevirtual 41, 3) := by decide +kernel
theorem dX10_toNextToken_117 : decode cX10_toNextToken 117 = .ok (.ifCond .eq 38, 3) := by decide +kernel
theorem dX10_toNextToken_120 : decode cX10_toNextToken 120 = .ok (.aload_n 0, 1) := by decide +kernel
theorem dX10_toNextToken_121 : decode cX10_toNextToken 121 = .ok (.getfield 28, 3) := by decide +kernel
theorem dX10_toNextToken_124 : decode cX10_toNextToken 124 = .ok (.aload_n 0, 1) := by decide +kernel
theorem dX10_toNextToken_125 : decode cX10_toNextToken 125 = .ok (.getfield 15, 3) := by decide +kernel
theorem dX10_toNextToken_128 : decode cX10_toNextToken 128 = .ok (.if_icmp .ge 27, 3) := by decide +kernel
theorem dX10_toNextToken_131 : decode cX10_toNextToken 131 = .ok (.aload_n 0, 1) := by decide +kernel
theorem dX10_toNextToken_132 : decode cX10_toNextToken 132 = .ok (.aload_n 0, 1) := by decide +kernel
theorem dX10_toNextToken_133 : decode cX10_toNextToken 133 = .ok (.getfield 28, 3) := by decide +kernel
theorem dX10_toNextToken_136 : decode cX10_toNextToken 136 = .ok (.invokevirtual 41, 3) := by decide +kernel
theorem dX10_toNextToken_139 : decode cX10_toNextToken 139 = .ok (.ifCond .eq 16, 3) := by decide +kernel
theorem dX10_toNextToken_142 : decode cX10_toNextToken 142 = .ok (.aload_n 0, 1) := by decide +kernel
theorem dX10_toNextToken_143 : decode cX10_toNextToken 143 = .ok (.dup, 1) := by decide +kernel
theorem dX10_toNextToken_144 : decode cX10_toNextToken 144 = .ok (.getfield 28, 3) := by decide +kernel
theorem dX10_toNextToken_147 : decode cX10_toNextToken 147 = .ok (.iconst 1, 1) := by decide +kernel
theorem dX10_toNextToken_148 : decode cX10_toNextToken 148 = .ok (.iadd, 1) := by decide +kernel
theorem dX10_toNextToken_149 : decode cX10_toNextToken 149 = .ok (.putfield 28, 3) := by decide +kernel
theorem dX10_toNextToken_152 : decode cX10_toNextToken 152 = .ok (.goto (-32), 3) := by decide +kernel
theorem dX10_toNextToken_155 : decode cX10_toNextToken 155 = .ok (.return_, 1) := by decide +kernel
theorem dX10_isLetter_0 : decode cX10_isLetter 0 = .ok (.iload_n 1, 1) := by decide +kernel
theorem dX10_isLetter_1 : decode cX10_isLetter 1 = .ok (.aload_n 0, 1) := by decide +kernel
theorem dX10_isLetter_2 : decode cX10_isLetter 2 = .ok (.getfield 15, 3) := by decide +kernel
theorem dX10_isLetter_5 : decode cX10_isLetter 5 = .ok (.if_icmp .ge 29, 3) := by decide +kernel
theorem dX10_isLetter_8 : decode cX10_isLetter 8 = .ok (.aload_n 0, 1) := by decide +kernel
theorem dX10_isLetter_9 : decode cX10_isLetter 9 = .ok (.getfield 9, 3) := by decide +kernel
theorem dX10_isLetter_12 : decode cX10_isLetter 12 = .ok (.iload_n 1, 1) := by decide +kernel
theorem dX10_isLetter_13 : decode cX10_isLetter 13 = .ok (.caload, 1) := by decide +kernel
theorem dX10_isLetter_14 : decode cX10_isLetter 14 = .ok (.bipush 97, 2) := by decide +kernel
theorem dX10_isLetter_16 : decode cX10_isLetter 16 = .ok (.if_icmp .lt 18, 3) := by decide +kernel
theorem dX10_isLetter_19 : decode cX10_isLetter 19 = .ok (.aload_n 0, 1) := by decide +kernel
theorem dX10_isLetter_20 : decode cX10_isLetter 20 = .ok (.getfield 9, 3) := by decide +kernel
theorem dX10_isLetter_23 : decode cX10_isLetter 23 = .ok (.iload_n 1, 1) := by decide +kernel
theorem dX10_isLetter_24 : decode cX10_isLetter 24 = .ok (.caload, 1) := by decide +kernel
theorem dX10_isLetter_25 : decode cX10_isLetter 25 = .ok (.bipush 122, 2) := by decide +kernel
theorem dX10_isLetter_27 : decode cX10_isLetter 27 = .ok (.if_icmp .gt 7, 3) := by decide +kernel
theorem dX10_isLetter_30 : decode cX10_isLetter 30 = .ok (.iconst 1, 1) := by decide +kernel
theorem dX10_isLetter_31 : decode cX10_isLetter 31 = .ok (.goto 4, 3) := by decide +kernel
theorem dX10_isLetter_34 : decode cX10_isLetter 34 = .ok (.iconst 0, 1) := by decide +kernel
theorem dX10_isLetter_35 : decode cX10_isLetter 35 = .ok (.ireturn, 1) := by decide +kernel
theorem dX10_isDigit_0 : decode cX10_isDigit 0 = .ok (.iload_n 1, 1) := by decide +kernel
theorem dX10_isDigit_1 : decode cX10_isDigit 1 = .ok (.aload_n 0, 1) := by decide +kernel
theorem dX10_isDigit_2 : decode cX10_isDigit 2 = .ok (.getfield 15, 3) := by decide +kernel
theorem dX10_isDigit_5 : decode cX10_isDigit 5 = .ok (.if_icmp .ge 29, 3) := by decide +kernel
theorem dX10_isDigit_8 : decode cX10_isDigit 8 = .ok (.aload_n 0, 1) := by decide +kernel
theorem dX10_isDigit_9 : decode cX10_isDigit 9 = .ok (.getfield 9, 3) := by decide +kernel
theorem dX10_isDigit_12 : decode cX10_isDigit 12 = .ok (.iload_n 1, 1) := by decide +kernel
theorem dX10_isDigit_13 : decode cX10_isDigit 13 = .ok (.caload, 1) := by decide +kernel
theorem dX10_isDigit_14 : decode cX10_isDigit 14 = .ok (.bipush 48, 2) := by decide +kernel
theorem dX10_isDigit_16 : decode cX10_isDigit 16 = .ok (.if_icmp .lt 18, 3) := by decide +kernel
theorem dX10_isDigit_19 : decode cX10_isDigit 19 = .ok (.aload_n 0, 1) := by decide +kernel
theorem dX10_isDigit_20 : decode cX10_isDigit 20 = .ok (.getfield 9, 3) := by decide +kernel
theorem dX10_isDigit_23 : decode cX10_isDigit 23 = .ok (.iload_n 1, 1) := by decide +kernel
theorem dX10_isDigit_24 : decode cX10_isDigit 24 = .ok (.caload, 1) := by decide +kernel
theorem dX10_isDigit_25 : decode cX10_isDigit 25 = .ok (.bipush 57, 2) := by decide +kernel
theorem dX10_isDigit_27 : decode cX10_isDigit 27 = .ok (.if_icmp .gt 7, 3) := by decide +kernel
theorem dX10_isDigit_30 : decode cX10_isDigit 30 = .ok (.iconst 1, 1) := by decide +kernel
theorem dX10_isDigit_31 : decode cX10_isDigit 31 = .ok (.goto 4, 3) := by decide +kernel
theorem dX10_isDigit_34 : decode cX10_isDigit 34 = .ok (.iconst 0, 1) := by decide +kernel
theorem dX10_isDigit_35 : decode cX10_isDigit 35 = .ok (.ireturn, 1) := by decide +kernel
theorem dX10_isAtEnd_0 : decode cX10_isAtEnd 0 = .ok (.aload_n 0, 1) := by decide +kernel
theorem dX10_isAtEnd_1 : decode cX10_isAtEnd 1 = .ok (.getfield 34, 3) := by decide +kernel
theorem dX10_isAtEnd_4 : decode cX10_isAtEnd 4 = .ok (.aload_n 0, 1) := by decide +kernel
theorem dX10_isAtEnd_5 : decode cX10_isAtEnd 5 = .ok (.getfield 15, 3) := by decide +kernel
theorem dX10_isAtEnd_8 : decode cX10_isAtEnd 8 = .ok (.if_icmp .lt 7, 3) := by decide +kernel
theorem dX10_isAtEnd_11 : decode cX10_isAtEnd 11 = .ok (.iconst 1, 1) := by decide +kernel
theorem dX10_isAtEnd_12 : decode cX10_isAtEnd 12 = .ok (.goto 4, 3) := by decide +kernel
theorem dX10_isAtEnd_15 : decode cX10_isAtEnd 15 = .ok (.iconst 0, 1) := by decide +kernel
theorem dX10_isAtEnd_16 : decode cX10_isAtEnd 16 = .ok (.ireturn, 1) := by decide +kernel
theorem dX10_place_0 : decode cX10_place 0 = .ok (.aload_n 0, 1) := by decide +kernel
theorem dX10_place_1 : decode cX10_place 1 = .ok (.getfield 34, 3) := by decide +kernel
theorem dX10_place_4 : decode cX10_place 4 = .ok (.ireturn, 1) := by decide +kernel
theorem dX10_isToken_0 : decode cX10_isToken 0 = .ok (.aload_n 0, 1) := by decide +kernel
theorem dX10_isToken_1 : decode cX10_isToken 1 = .ok (.getfield 28, 3) := by decide +kernel
theorem dX10_isToken_4 : decode cX10_isToken 4 = .ok (.aload_n 0, 1) := by decide +kernel
theorem dX10_isToken_5 : decode cX10_isToken 5 = .ok (.getfield 34, 3) := by decide +kernel
theorem dX10_isToken_8 : decode cX10_isToken 8 = .ok (.isub, 1) := by decide +kernel
theorem dX10_isToken_9 : decode cX10_isToken 9 = .ok (.iconst 1, 1) := by decide +kernel
theorem dX10_isToken_10 : decode cX10_isToken 10 = .ok (.if_icmp .ne 20, 3) := by decide +kernel
theorem dX10_isToken_13 : decode cX10_isToken 13 = .ok (.aload_n 0, 1) := by decide +kernel
theorem dX10_isToken_14 : decode cX10_isToken 14 = .ok (.getfield 9, 3) := by decide +kernel
theorem dX10_isToken_17 : decode cX10_isToken 17 = .ok (.aload_n 0, 1) := by decide +kernel
theorem dX10_isToken_18 : decode cX10_isToken 18 = .ok (.getfield 34, 3) := by decide +kernel
theorem dX10_isToken_21 : decode cX10_isToken 21 = .ok (.caload, 1) := by decide +kernel
theorem dX10_isToken_22 : decode cX10_isToken 22 = .ok (.iload_n 1, 1) := by decide +kernel
theorem dX10_isToken_23 : decode cX10_isToken 23 = .ok (.if_icmp .ne 7, 3) := by decide +kernel
theorem dX10_isToken_26 : decode cX10_isToken 26 = .ok (.iconst 1, 1) := by decide +kernel
theorem dX10_isToken_27 : decode cX10_isToken 27 = .ok (.goto 4, 3) := by decide +kernel
theorem dX10_isToken_30 : decode cX10_isToken 30 = .ok (.iconst 0, 1) := by decide +kernel
theorem dX10_isToken_31 : decode cX10_isToken 31 = .ok (.ireturn, 1) := by decide +kernel
theorem dX10_isToken__0 : decode cX10_isToken_ 0 = .ok (.aload_n 0, 1) := by decide +kernel
theorem dX10_isToken__1 : decode cX10_isToken_ 1 = .ok (.getfield 28, 3) := by decide +kernel
theorem dX10_isToken__4 : decode cX10_isToken_ 4 = .ok (.aload_n 0, 1) := by decide +kernel
theorem dX10_isToken__5 : decode cX10_isToken_ 5 = .ok (.getfield 34, 3) := by decide +kernel
theorem dX10_isToken__8 : decode cX10_isToken_ 8 = .ok (.isub, 1) := by decide +kernel
theorem dX10_isToken__9 : decode cX10_isToken_ 9 = .ok (.aload_n 1, 1) := by decide +kernel
theorem dX10_isToken__10 : decode cX10_isToken_ 10 = .ok (.invokevirtual 44, 3) := by decide +kernel
theorem dX10_isToken__13 : decode cX10_isToken_ 13 = .ok (.if_icmp .eq 5, 3) := by decide +kernel
theorem dX10_isToken__16 : decode cX10_isToken_ 16 = .ok (.iconst 0, 1) := by decide +kernel
theorem dX10_isToken__17 : decode cX10_isToken_ 17 = .ok (.ireturn, 1) := by decide +kernel
theorem dX10_isToken__18 : decode cX10_isToken_ 18 = .ok (.iconst 0, 1) := by decide +kernel
theorem dX10_isToken__19 : decode cX10_isToken_ 19 = .ok (.istore_n 2, 1) := by decide +kernel
theorem dX10_isToken__20 : decode cX10_isToken_ 20 = .ok (.iload_n 2, 1) := by decide +kernel
theorem dX10_isToken__21 : decode cX10_isToken_ 21 = .ok (.aload_n 1, 1) := by decide +kernel
theorem dX10_isToken__22 : decode cX10_isToken_ 22 = .ok (.invokevirtual 44, 3) := by decide +kernel
theorem dX10_isToken__25 : decode cX10_isToken_ 25 = .ok (.if_icmp .ge 30, 3) := by decide +kernel
theorem dX10_isToken__28 : decode cX10_isToken_ 28 = .ok (.aload_n 0, 1) := by decide +kernel
theorem dX10_isToken__29 : decode cX10_isToken_ 29 = .ok (.getfield 9, 3) := by decide +kernel
theorem dX10_isToken__32 : decode cX10_isToken_ 32 = .ok (.aload_n 0, 1) := by decide +kernel
theorem dX10_isToken__33 : decode cX10_isToken_ 33 = .ok (.getfield 34, 3) := by decide +kernel
theorem dX10_isToken__36 : decode cX10_isToken_ 36 = .ok (.iload_n 2, 1) := by decide +kernel
theorem dX10_isToken__37 : decode cX10_isToken_ 37 = .ok (.iadd, 1) := by decide +kernel
theorem dX10_isToken__38 : decode cX10_isToken_ 38 = .ok (.caload, 1) := by decide +kernel
theorem dX10_isToken__39 : decode cX10_isToken_ 39 = .ok (.aload_n 1, 1) := by decide +kernel
theorem dX10_isToken__40 : decode cX10_isToken_ 40 = .ok (.iload_n 2, 1) := by decide +kernel
theorem dX10_isToken__41 : decode cX10_isToken_ 41 = .ok (.invokevirtual 49, 3) := by decide +kernel
theorem dX10_isToken__44 : decode cX10_isToken_ 44 = .ok (.if_icmp .eq 5, 3) := by decide +kernel
theorem dX10_isToken__47 : decode cX10_isToken_ 47 = .ok (.iconst 0, 1) := by decide +kernel
theorem dX10_isToken__48 : decode cX10_isToken_ 48 = .ok (.ireturn, 1) := by decide +kernel
theorem dX10_isToken__49 : decode cX10_isToken_ 49 = .ok (.iinc 2 1, 3) := by decide +kernel
theorem dX10_isToken__52 : decode cX10_isToken_ 52 = .ok (.goto (-32), 3) := by decide +kernel
theorem dX10_isToken__55 : decode cX10_isToken_ 55 = .ok (.iconst 1, 1) := by decide +kernel
theorem dX10_isToken__56 : decode cX10_isToken_ 56 = .ok (.ireturn, 1) := by decide +kernel
theorem dX10_letter_0 : decode cX10_letter 0 = .ok (.aload_n 0, 1) := by decide +kernel
theorem dX10_letter_1 : decode cX10_letter 1 = .ok (.getfield 28, 3) := by decide +kernel
theorem dX10_letter_4 : decode cX10_letter 4 = .ok (.aload_n 0, 1) := by decide +kernel
theorem dX10_letter_5 : decode cX10_letter 5 = .ok (.getfield 34, 3) := by decide +kernel
theorem dX10_letter_8 : decode cX10_letter 8 = .ok (.isub, 1) := by decide +kernel
theorem dX10_letter_9 : decode cX10_letter 9 = .ok (.iconst 1, 1) := by decide +kernel
theorem dX10_letter_10 : decode cX10_letter 10 = .ok (.if_icmp .ne 29, 3) := by decide +kernel
theorem dX10_letter_13 : decode cX10_letter 13 = .ok (.aload_n 0, 1) := by decide +kernel
theorem dX10_letter_14 : decode cX10_letter 14 = .ok (.aload_n 0, 1) := by decide +kernel
theorem dX10_letter_15 : decode cX10_letter 15 = .ok (.getfield 34, 3) := by decide +kernel
theorem dX10_letter_18 : decode cX10_letter 18 = .ok (.invokevirtual 37, 3) := by decide +kernel
theorem dX10_letter_21 : decode cX10_letter 21 = .ok (.ifCond .eq 18, 3) := by decide +kernel
theorem dX10_letter_24 : decode cX10_letter 24 = .ok (.aload_n 0, 1) := by decide +kernel
theorem dX10_letter_25 : decode cX10_letter 25 = .ok (.getfield 9, 3) := by decide +kernel
theorem dX10_letter_28 : decode cX10_letter 28 = .ok (.aload_n 0, 1) := by decide +kernel
theorem dX10_letter_29 : decode cX10_letter 29 = .ok (.getfield 34, 3) := by decide +kernel
theorem dX10_letter_32 : decode cX10_letter 32 = .ok (.caload, 1) := by decide +kernel
theorem dX10_letter_33 : decode cX10_letter 33 = .ok (.bipush 97, 2) := by decide +kernel
theorem dX10_letter_35 : decode cX10_letter 35 = .ok (.isub, 1) := by decide +kernel
theorem dX10_letter_36 : decode cX10_letter 36 = .ok (.goto 4, 3) := by decide +kernel
theorem dX10_letter_39 : decode cX10_letter 39 = .ok (.iconst (-1), 1) := by decide +kernel
theorem dX10_letter_40 : decode cX10_letter 40 = .ok (.ireturn, 1) := by decide +kernel
theorem dX10_digits_0 : decode cX10_digits 0 = .ok (.aload_n 0, 1) := by decide +kernel
theorem dX10_digits_1 : decode cX10_digits 1 = .ok (.aload_n 0, 1) := by decide +kernel
theorem dX10_digits_2 : decode cX10_digits 2 = .ok (.getfield 34, 3) := by decide +kernel
theorem dX10_digits_5 : decode cX10_digits 5 = .ok (.invokevirtual 41, 3) := by decide +kernel
theorem dX10_digits_8 : decode cX10_digits 8 = .ok (.ifCond .ne 5, 3) := by decide +kernel
theorem dX10_digits_11 : decode cX10_digits 11 = .ok (.iconst (-1), 1) := by decide +kernel
theorem dX10_digits_12 : decode cX10_digits 12 = .ok (.ireturn, 1) := by decide +kernel
theorem dX10_digits_13 : decode cX10_digits 13 = .ok (.iconst 0, 1) := by decide +kernel
theorem dX10_digits_14 : decode cX10_digits 14 = .ok (.istore_n 1, 1) := by decide +kernel
theorem dX10_digits_15 : decode cX10_digits 15 = .ok (.aload_n 0, 1) := by decide +kernel
theorem dX10_digits_16 : decode cX10_digits 16 = .ok (.getfield 34, 3) := by decide +kernel
theorem dX10_digits_19 : decode cX10_digits 19 = .ok (.istore_n 2, 1) := by decide +kernel
theorem dX10_digits_20 : decode cX10_digits 20 = .ok (.iload_n 2, 1) := by decide +kernel
theorem dX10_digits_21 : decode cX10_digits 21 = .ok (.aload_n 0, 1) := by decide +kernel
theorem dX10_digits_22 : decode cX10_digits 22 = .ok (.getfield 28, 3) := by decide +kernel
theorem dX10_digits_25 : decode cX10_digits 25 = .ok (.if_icmp .ge 30, 3) := by decide +kernel
theorem dX10_digits_28 : decode cX10_digits 28 = .ok (.iload_n 1, 1) := by decide +kernel
theorem dX10_digits_29 : decode cX10_digits 29 = .ok (.bipush 10, 2) := by decide +kernel
theorem dX10_digits_31 : decode cX10_digits 31 = .ok (.imul, 1) := by decide +kernel
theorem dX10_digits_32 : decode cX10_digits 32 = .ok (.aload_n 0, 1) := by decide +kernel
theorem dX10_digits_33 : decode cX10_digits 33 = .ok (.getfield 9, 3) := by decide +kernel
theorem dX10_digits_36 : decode cX10_digits 36 = .ok (.iload_n 2, 1) := by decide +kernel
theorem dX10_digits_37 : decode cX10_digits 37 = .ok (.caload, 1) := by decide +kernel
theorem dX10_digits_38 : decode cX10_digits 38 = .ok (.bipush 48, 2) := by decide +kernel
theorem dX10_digits_40 : decode cX10_digits 40 = .ok (.isub, 1) := by decide +kernel
theorem dX10_digits_41 : decode cX10_digits 41 = .ok (.iadd, 1) := by decide +kernel
theorem dX10_digits_42 : decode cX10_digits 42 = .ok (.sipush 1001, 3) := by decide +kernel
theorem dX10_digits_45 : decode cX10_digits 45 = .ok (.invokestatic 19, 3) := by decide +kernel
theorem dX10_digits_48 : decode cX10_digits 48 = .ok (.istore_n 1, 1) := by decide +kernel
theorem dX10_digits_49 : decode cX10_digits 49 = .ok (.iinc 2 1, 3) := by decide +kernel
theorem dX10_digits_52 : decode cX10_digits 52 = .ok (.goto (-32), 3) := by decide +kernel
theorem dX10_digits_55 : decode cX10_digits 55 = .ok (.iload_n 1, 1) := by decide +kernel
theorem dX10_digits_56 : decode cX10_digits 56 = .ok (.ireturn, 1) := by decide +kernel
end
section
theorem dX11_init_0 : decode cX11_init 0 = .ok (.aload_n 0, 1) := by decide +kernel
theorem dX11_init_1 : decode cX11_init 1 = .ok (.invokespecial 1, 3) := by decide +kernel
theorem dX11_init_4 : decode cX11_init 4 = .ok (.aload_n 0, 1) := by decide +kernel
theorem dX11_init_5 : decode cX11_init 5 = .ok (.new 7, 3) := by decide +kernel
theorem dX11_init_8 : decode cX11_init 8 = .ok (.dup, 1) := by decide +kernel
theorem dX11_init_9 : decode cX11_init 9 = .ok (.invokespecial 9, 3) := by decide +kernel
theorem dX11_init_12 : decode cX11_init 12 = .ok (.putfield 10, 3) := by decide +kernel
theorem dX11_init_15 : decode cX11_init 15 = .ok (.aload_n 0, 1) := by decide +kernel
theorem dX11_init_16 : decode cX11_init 16 = .ok (.new 16, 3) := by decide +kernel
theorem dX11_init_19 : decode cX11_init 19 = .ok (.dup, 1) := by decide +kernel
theorem dX11_init_20 : decode cX11_init 20 = .ok (.invokespecial 18, 3) := by decide +kernel
theorem dX11_init_23 : decode cX11_init 23 = .ok (.putfield 19, 3) := by decide +kernel
theorem dX11_init_26 : decode cX11_init 26 = .ok (.aload_n 0, 1) := by decide +kernel
theorem dX11_init_27 : decode cX11_init 27 = .ok (.new 23, 3) := by decide +kernel
theorem dX11_init_30 : decode cX11_init 30 = .ok (.dup, 1) := by decide +kernel
theorem dX11_init_31 : decode cX11_init 31 = .ok (.invokespecial 25, 3) := by decide +kernel
theorem dX11_init_34 : decode cX11_init 34 = .ok (.putfield 26, 3) := by decide +kernel
theorem dX11_init_37 : decode cX11_init 37 = .ok (.aload_n 0, 1) := by decide +kernel
theorem dX11_init_38 : decode cX11_init 38 = .ok (.new 30, 3) := by decide +kernel
theorem dX11_init_41 : decode cX11_init 41 = .ok (.dup, 1) := by decide +kernel
theorem dX11_init_42 : decode cX11_init 42 = .ok (.invokespecial 32, 3) := by decide +kernel
theorem dX11_init_45 : decode cX11_init 45 = .ok (.putfield 33, 3) := by decide +kernel
theorem dX11_init_48 : decode cX11_init 48 = .ok (.aload_n 0, 1) := by decide +kernel
theorem dX11_init_49 : decode cX11_init 49 = .ok (.new 37, 3) := by decide +kernel
theorem dX11_init_52 : decode cX11_init 52 = .ok (.dup, 1) := by decide +kernel
theorem dX11_init_53 : decode cX11_init 53 = .ok (.invokespecial 39, 3) := by decide +kernel
theorem dX11_init_56 : decode cX11_init 56 = .ok (.putfield 40, 3) := by decide +kernel
theorem dX11_init_59 : decode cX11_init 59 = .ok (.aload_n 0, 1) := by decide +kernel
theorem dX11_init_60 : decode cX11_init 60 = .ok (.new 37, 3) := by decide +kernel
theorem dX11_init_63 : decode cX11_init 63 = .ok (.dup, 1) := by decide +kernel
theorem dX11_init_64 : decode cX11_init 64 = .ok (.invokespecial 39, 3) := by decide +kernel
theorem dX11_init_67 : decode cX11_init 67 = .ok (.putfield 44, 3) := by decide +kernel
theorem dX11_init_70 : decode cX11_init 70 = .ok (.aload_n 0, 1) := by decide +kernel
theorem dX11_init_71 : decode cX11_init 71 = .ok (.new 47, 3) := by decide +kernel
theorem dX11_init_74 : decode cX11_init 74 = .ok (.dup, 1) := by decide +kernel
theorem dX11_init_75 : decode cX11_init 75 = .ok (.invokespecial 49, 3) := by decide +kernel
theorem dX11_init_78 : decode cX11_init 78 = .ok (.putfield 50, 3) := by decide +kernel
theorem dX11_init_81 : decode cX11_init 81 = .ok (.aload_n 0, 1) := by decide +kernel
theorem dX11_init_82 : decode cX11_init 82 = .ok (.new 54, 3) := by decide +kernel
theorem dX11_init_85 : decode cX11_init 85 = .ok (.dup, 1) := by decide +kernel
theorem dX11_init_86 : decode cX11_init 86 = .ok (.invokespecial 56, 3) := by decide +kernel
theorem dX11_init_89 : decode cX11_init 89 = .ok (.putfield 57, 3) := by decide +kernel
theorem dX11_init_92 : decode cX11_init 92 = .ok (.aload_n 0, 1) := by decide +kernel
theorem dX11_init_93 : decode cX11_init 93 = .ok (.new 54, 3) := by decide +kernel
theorem dX11_init_96 : decode cX11_init 96 = .ok (.dup, 1) := by decide +kernel
theorem dX11_init_97 : decode cX11_init 97 = .ok (.invokespecial 56, 3) := by decide +kernel
theorem dX11_init_100 : decode cX11_init 100 = .ok (.putfield 61, 3) := by decide +kernel
theorem dX11_init_103 : decode cX11_init 103 = .ok (.aload_n 0, 1) := by decide +kernel
theorem dX11_init_104 : decode cX11_init 104 = .ok (.iconst (-1), 1) := by decide +kernel
theorem dX11_init_105 : decode cX11_init 105 = .ok (.putfield 64, 3) := by decide +kernel
theorem dX11_init_108 : decode cX11_init 108 = .ok (.aload_n 0, 1) := by decide +kernel
theorem dX11_init_109 : decode cX11_init 109 = .ok (.iconst (-1), 1) := by decide +kernel
theorem dX11_init_110 : decode cX11_init 110 = .ok (.putfield 68, 3) := by decide +kernel
theorem dX11_init_113 : decode cX11_init 113 = .ok (.aload_n 0, 1) := by decide +kernel
theorem dX11_init_114 : decode cX11_init 114 = .ok (.iconst 0, 1) := by decide +kernel
theorem dX11_init_115 : decode cX11_init 115 = .ok (.putfield 71, 3) := by decide +kernel
theorem dX11_init_118 : decode cX11_init 118 = .ok (.return_, 1) := by decide +kernel
theorem dX11_tell_0 : decode cX11_tell 0 = .ok (.iload_n 1, 1) := by decide +kernel
theorem dX11_tell_1 : decode cX11_tell 1 = .ok (.iconst 0, 1) := by decide +kernel
theorem dX11_tell_2 : decode cX11_tell 2 = .ok (.iconst 2, 1) := by decide +kernel
theorem dX11_tell_3 : decode cX11_tell 3 = .ok (.invokestatic 74, 3) := by decide +kernel
theorem dX11_tell_6 : decode cX11_tell 6 = .ok (.ifCond .eq 38, 3) := by decide +kernel
theorem dX11_tell_9 : decode cX11_tell 9 = .ok (.iload_n 2, 1) := by decide +kernel
theorem dX11_tell_10 : decode cX11_tell 10 = .ok (.iconst 0, 1) := by decide +kernel
theorem dX11_tell_11 : decode cX11_tell 11 = .ok (.bipush 31, 2) := by decide +kernel
theorem dX11_tell_13 : decode cX11_tell 13 = .ok (.invokestatic 74, 3) := by decide +kernel
theorem dX11_tell_16 : decode cX11_tell 16 = .ok (.ifCond .eq 28, 3) := by decide +kernel
theorem dX11_tell_19 : decode cX11_tell 19 = .ok (.iload_n 3, 1) := by decide +kernel
theorem dX11_tell_20 : decode cX11_tell 20 = .ok (.sipush (-1000), 3) := by decide +kernel
theorem dX11_tell_23 : decode cX11_tell 23 = .ok (.sipush 1000, 3) := by decide +kernel
theorem dX11_tell_26 : decode cX11_tell 26 = .ok (.invokestatic 74, 3) := by decide +kernel
theorem dX11_tell_29 : decode cX11_tell 29 = .ok (.ifCond .eq 15, 3) := by decide +kernel
theorem dX11_tell_32 : decode cX11_tell 32 = .ok (.iload 4, 2) := by decide +kernel
theorem dX11_tell_34 : decode cX11_tell 34 = .ok (.iconst 0, 1) := by decide +kernel
theorem dX11_tell_35 : decode cX11_tell 35 = .ok (.sipush 10000, 3) := by decide +kernel
theorem dX11_tell_38 : decode cX11_tell 38 = .ok (.invokestatic 74, 3) := by decide +kernel
theorem dX11_tell_41 : decode cX11_tell 41 = .ok (.ifCond .ne 9, 3) := by decide +kernel
theorem dX11_tell_44 : decode cX11_tell 44 = .ok (.aload_n 0, 1) := by decide +kernel
theorem dX11_tell_45 : decode cX11_tell 45 = .ok (.iconst (-1), 1) := by decide +kernel
theorem dX11_tell_46 : decode cX11_tell 46 = .ok (.invokevirtual 78, 3) := by decide +kernel
theorem dX11_tell_49 : decode cX11_tell 49 = .ok (.ireturn, 1) := by decide +kernel
theorem dX11_tell_50 : decode cX11_tell 50 = .ok (.aload_n 0, 1) := by decide +kernel
theorem dX11_tell_51 : decode cX11_tell 51 = .ok (.getfield 10, 3) := by decide +kernel
theorem dX11_tell_54 : decode cX11_tell 54 = .ok (.iload_n 1, 1) := by decide +kernel
theorem dX11_tell_55 : decode cX11_tell 55 = .ok (.iload_n 2, 1) := by decide +kernel
theorem dX11_tell_56 : decode cX11_tell 56 = .ok (.iload 4, 2) := by decide +kernel
theorem dX11_tell_58 : decode cX11_tell 58 = .ok (.iload_n 3, 1) := by decide +kernel
theorem dX11_tell_59 : decode cX11_tell 59 = .ok (.invokestatic 82, 3) := by decide +kernel
theorem dX11_tell_62 : decode cX11_tell 62 = .ok (.invokevirtual 88, 3) := by decide +kernel
theorem dX11_tell_65 : decode cX11_tell 65 = .ok (.ifCond .ne 10, 3) := by decide +kernel
theorem dX11_tell_68 : decode cX11_tell 68 = .ok (.aload_n 0, 1) := by decide +kernel
theorem dX11_tell_69 : decode cX11_tell 69 = .ok (.bipush (-5), 2) := by decide +kernel
theorem dX11_tell_71 : decode cX11_tell 71 = .ok (.invokevirtual 78, 3) := by decide +kernel
theorem dX11_tell_74 : decode cX11_tell 74 = .ok (.ireturn, 1) := by decide +kernel
theorem dX11_tell_75 : decode cX11_tell 75 = .ok (.aload_n 0, 1) := by decide +kernel
theorem dX11_tell_76 : decode cX11_tell 76 = .ok (.aload_n 0, 1) := by decide +kernel
theorem dX11_tell_77 : decode cX11_tell 77 = .ok (.getfield 10, 3) := by decide +kernel
theorem dX11_tell_80 : decode cX11_tell 80 = .ok (.invokevirtual 92, 3) := by decide +kernel
theorem dX11_tell_83 : decode cX11_tell 83 = .ok (.invokevirtual 96, 3) := by decide +kernel
theorem dX11_tell_86 : decode cX11_tell 86 = .ok (.ireturn, 1) := by decide +kernel
theorem dX11_feed_0 : decode cX11_feed 0 = .ok (.aload_n 0, 1) := by decide +kernel
theorem dX11_feed_1 : decode cX11_feed 1 = .ok (.getfield 19, 3) := by decide +kernel
theorem dX11_feed_4 : decode cX11_feed 4 = .ok (.bipush 20, 2) := by decide +kernel
theorem dX11_feed_6 : decode cX11_feed 6 = .ok (.invokevirtual 99, 3) := by decide +kernel
theorem dX11_feed_9 : decode cX11_feed 9 = .ok (.ifCond .ne 5, 3) := by decide +kernel
theorem dX11_feed_12 : decode cX11_feed 12 = .ok (.iconst (-1), 1) := by decide +kernel
theorem dX11_feed_13 : decode cX11_feed 13 = .ok (.ireturn, 1) := by decide +kernel
theorem dX11_feed_14 : decode cX11_feed 14 = .ok (.aload_n 0, 1) := by decide +kernel
theorem dX11_feed_15 : decode cX11_feed 15 = .ok (.getfield 19, 3) := by decide +kernel
theorem dX11_feed_18 : decode cX11_feed 18 = .ok (.iload_n 1, 1) := by decide +kernel
theorem dX11_feed_19 : decode cX11_feed 19 = .ok (.invokevirtual 103, 3) := by decide +kernel
theorem dX11_feed_22 : decode cX11_feed 22 = .ok (.aload_n 0, 1) := by decide +kernel
theorem dX11_feed_23 : decode cX11_feed 23 = .ok (.getfield 19, 3) := by decide +kernel
theorem dX11_feed_26 : decode cX11_feed 26 = .ok (.iload_n 2, 1) := by decide +kernel
theorem dX11_feed_27 : decode cX11_feed 27 = .ok (.invokevirtual 103, 3) := by decide +kernel
theorem dX11_feed_30 : decode cX11_feed 30 = .ok (.aload_n 0, 1) := by decide +kernel
theorem dX11_feed_31 : decode cX11_feed 31 = .ok (.getfield 19, 3) := by decide +kernel
theorem dX11_feed_34 : decode cX11_feed 34 = .ok (.iload_n 3, 1) := by decide +kernel
theorem dX11_feed_35 : decode cX11_feed 35 = .ok (.invokevirtual 103, 3) := by decide +kernel
theorem dX11_feed_38 : decode cX11_feed 38 = .ok (.aload_n 0, 1) := by decide +kernel
theorem dX11_feed_39 : decode cX11_feed 39 = .ok (.getfield 19, 3) := by decide +kernel
theorem dX11_feed_42 : decode cX11_feed 42 = .ok (.iload 4, 2) := by decide +kernel
theorem dX11_feed_44 : decode cX11_feed 44 = .ok (.invokevirtual 103, 3) := by decide +kernel
theorem dX11_feed_47 : decode cX11_feed 47 = .ok (.aload_n 0, 1) := by decide +kernel
theorem dX11_feed_48 : decode cX11_feed 48 = .ok (.getfield 19, 3) := by decide +kernel
theorem dX11_feed_51 : decode cX11_feed 51 = .ok (.iload 5, 2) := by decide +kernel
theorem dX11_feed_53 : decode cX11_feed 53 = .ok (.invokevirtual 103, 3) := by decide +kernel
theorem dX11_feed_56 : decode cX11_feed 56 = .ok (.aload_n 0, 1) := by decide +kernel
theorem dX11_feed_57 : decode cX11_feed 57 = .ok (.getfield 19, 3) := by decide +kernel
theorem dX11_feed_60 : decode cX11_feed 60 = .ok (.invokevirtual 107, 3) := by decide +kernel
theorem dX11_feed_63 : decode cX11_feed 63 = .ok (.ireturn, 1) := by decide +kernel
theorem dX11_end_0 : decode cX11_end 0 = .ok (.iload_n 1, 1) := by decide +kernel
theorem dX11_end_1 : decode cX11_end 1 = .ok (.iconst 0, 1) := by decide +kernel
theorem dX11_end_2 : decode cX11_end 2 = .ok (.aload_n 0, 1) := by decide +kernel
theorem dX11_end_3 : decode cX11_end 3 = .ok (.getfield 19, 3) := by decide +kernel
theorem dX11_end_6 : decode cX11_end 6 = .ok (.invokevirtual 107, 3) := by decide +kernel
theorem dX11_end_9 : decode cX11_end 9 = .ok (.invokestatic 74, 3) := by decide +kernel
theorem dX11_end_12 : decode cX11_end 12 = .ok (.ifCond .ne 5, 3) := by decide +kernel
theorem dX11_end_15 : decode cX11_end 15 = .ok (.iconst (-1), 1) := by decide +kernel
theorem dX11_end_16 : decode cX11_end 16 = .ok (.ireturn, 1) := by decide +kernel
theorem dX11_end_17 : decode cX11_end 17 = .ok (.aload_n 0, 1) := by decide +kernel
theorem dX11_end_18 : decode cX11_end 18 = .ok (.getfield 19, 3) := by decide +kernel
theorem dX11_end_21 : decode cX11_end 21 = .ok (.iload_n 1, 1) := by decide +kernel
theorem dX11_end_22 : decode cX11_end 22 = .ok (.invokevirtual 110, 3) := by decide +kernel
theorem dX11_end_25 : decode cX11_end 25 = .ok (.iload_n 1, 1) := by decide +kernel
theorem dX11_end_26 : decode cX11_end 26 = .ok (.ireturn, 1) := by decide +kernel
theorem dX11_tables_0 : decode cX11_tables 0 = .ok (.aload_n 0, 1) := by decide +kernel
theorem dX11_tables_1 : decode cX11_tables 1 = .ok (.aload_n 0, 1) := by decide +kernel
theorem dX11_tables_2 : decode cX11_tables 2 = .ok (.getfield 26, 3) := by decide +kernel
theorem dX11_tables_5 : decode cX11_tables 5 = .ok (.aload_n 0, 1) := by decide +kernel
theorem dX11_tables_6 : decode cX11_tables 6 = .ok (.getfield 19, 3) := by decide +kernel
theorem dX11_tables_9 : decode cX11_tables 9 = .ok (.aload_n 0, 1) := by decide +kernel
theorem dX11_tables_10 : decode cX11_tables 10 = .ok (.getfield 33, 3) := by decide +kernel
theorem dX11_tables_13 : decode cX11_tables 13 = .ok (.invokevirtual 113, 3) := by decide +kernel
theorem dX11_tables_16 : decode cX11_tables 16 = .ok (.invokevirtual 117, 3) := by decide +kernel
theorem dX11_tables_19 : decode cX11_tables 19 = .ok (.putfield 68, 3) := by decide +kernel
theorem dX11_tables_22 : decode cX11_tables 22 = .ok (.aload_n 0, 1) := by decide +kernel
theorem dX11_tables_23 : decode cX11_tables 23 = .ok (.getfield 19, 3) := by decide +kernel
theorem dX11_tables_26 : decode cX11_tables 26 = .ok (.iconst 0, 1) := by decide +kernel
theorem dX11_tables_27 : decode cX11_tables 27 = .ok (.invokevirtual 110, 3) := by decide +kernel
theorem dX11_tables_30 : decode cX11_tables 30 = .ok (.aload_n 0, 1) := by decide +kernel
theorem dX11_tables_31 : decode cX11_tables 31 = .ok (.getfield 68, 3) := by decide +kernel
theorem dX11_tables_34 : decode cX11_tables 34 = .ok (.iconst (-1), 1) := by decide +kernel
theorem dX11_tables_35 : decode cX11_tables 35 = .ok (.if_icmp .eq 10, 3) := by decide +kernel
theorem dX11_tables_38 : decode cX11_tables 38 = .ok (.aload_n 0, 1) := by decide +kernel
theorem dX11_tables_39 : decode cX11_tables 39 = .ok (.bipush (-6), 2) := by decide +kernel
theorem dX11_tables_41 : decode cX11_tables 41 = .ok (.invokevirtual 78, 3) := by decide +kernel
theorem dX11_tables_44 : decode cX11_tables 44 = .ok (.ireturn, 1) := by decide +kernel
theorem dX11_tables_45 : decode cX11_tables 45 = .ok (.aload_n 0, 1) := by decide +kernel
theorem dX11_tables_46 : decode cX11_tables 46 = .ok (.getfield 33, 3) := by decide +kernel
theorem dX11_tables_49 : decode cX11_tables 49 = .ok (.invokevirtual 121, 3) := by decide +kernel
theorem dX11_tables_52 : decode cX11_tables 52 = .ok (.aload_n 0, 1) := by decide +kernel
theorem dX11_tables_53 : decode cX11_tables 53 = .ok (.invokevirtual 124, 3) := by decide +kernel
theorem dX11_tables_56 : decode cX11_tables 56 = .ok (.aload_n 0, 1) := by decide +kernel
theorem dX11_tables_57 : decode cX11_tables 57 = .ok (.aload_n 0, 1) := by decide +kernel
theorem dX11_tables_58 : decode cX11_tables 58 = .ok (.getfield 33, 3) := by decide +kernel
theorem dX11_tables_61 : decode cX11_tables 61 = .ok (.invokevirtual 127, 3) := by decide +kernel
theorem dX11_tables_64 : decode cX11_tables 64 = .ok (.invokevirtual 96, 3) := by decide +kernel
theorem dX11_tables_67 : decode cX11_tables 67 = .ok (.ireturn, 1) := by decide +kernel
theorem dX11_fault_0 : decode cX11_fault 0 = .ok (.aload_n 0, 1) := by decide +kernel
theorem dX11_fault_1 : decode cX11_fault 1 = .ok (.getfield 68, 3) := by decide +kernel
theorem dX11_fault_4 : decode cX11_fault 4 = .ok (.ireturn, 1) := by decide +kernel
theorem dX11_late_0 : decode cX11_late 0 = .ok (.iload_n 1, 1) := by decide +kernel
theorem dX11_late_1 : decode cX11_late 1 = .ok (.iconst (-1), 1) := by decide +kernel
theorem dX11_late_2 : decode cX11_late 2 = .ok (.sipush 10000, 3) := by decide +kernel
theorem dX11_late_5 : decode cX11_late 5 = .ok (.invokestatic 74, 3) := by decide +kernel
theorem dX11_late_8 : decode cX11_late 8 = .ok (.ifCond .ne 11, 3) := by decide +kernel
theorem dX11_late_11 : decode cX11_late 11 = .ok (.aload_n 0, 1) := by decide +kernel
theorem dX11_late_12 : decode cX11_late 12 = .ok (.iconst (-1), 1) := by decide +kernel
theorem dX11_late_13 : decode cX11_late 13 = .ok (.putfield 71, 3) := by decide +kernel
theorem dX11_late_16 : decode cX11_late 16 = .ok (.bipush (-5), 2) := by decide +kernel
theorem dX11_late_18 : decode cX11_late 18 = .ok (.ireturn, 1) := by decide +kernel
theorem dX11_late_19 : decode cX11_late 19 = .ok (.aload_n 0, 1) := by decide +kernel
theorem dX11_late_20 : decode cX11_late 20 = .ok (.getfield 64, 3) := by decide +kernel
theorem dX11_late_23 : decode cX11_late 23 = .ok (.istore_n 2, 1) := by decide +kernel
theorem dX11_late_24 : decode cX11_late 24 = .ok (.aload_n 0, 1) := by decide +kernel
theorem dX11_late_25 : decode cX11_late 25 = .ok (.iload_n 1, 1) := by decide +kernel
theorem dX11_late_26 : decode cX11_late 26 = .ok (.putfield 64, 3) := by decide +kernel
theorem dX11_late_29 : decode cX11_late 29 = .ok (.aload_n 0, 1) := by decide +kernel
theorem dX11_late_30 : decode cX11_late 30 = .ok (.invokevirtual 124, 3) := by decide +kernel
theorem dX11_late_33 : decode cX11_late 33 = .ok (.aload_n 0, 1) := by decide +kernel
theorem dX11_late_34 : decode cX11_late 34 = .ok (.iload_n 2, 1) := by decide +kernel
theorem dX11_late_35 : decode cX11_late 35 = .ok (.invokevirtual 96, 3) := by decide +kernel
theorem dX11_late_38 : decode cX11_late 38 = .ok (.ireturn, 1) := by decide +kernel
theorem dX11_read_0 : decode cX11_read 0 = .ok (.iload_n 1, 1) := by decide +kernel
theorem dX11_read_1 : decode cX11_read 1 = .ok (.iconst 0, 1) := by decide +kernel
theorem dX11_read_2 : decode cX11_read 2 = .ok (.sipush 150, 3) := by decide +kernel
theorem dX11_read_5 : decode cX11_read 5 = .ok (.invokestatic 74, 3) := by decide +kernel
theorem dX11_read_8 : decode cX11_read 8 = .ok (.ifCond .ne 9, 3) := by decide +kernel
theorem dX11_read_11 : decode cX11_read 11 = .ok (.aload_n 0, 1) := by decide +kernel
theorem dX11_read_12 : decode cX11_read 12 = .ok (.iconst (-1), 1) := by decide +kernel
theorem dX11_read_13 : decode cX11_read 13 = .ok (.invokevirtual 78, 3) := by decide +kernel
theorem dX11_read_16 : decode cX11_read 16 = .ok (.ireturn, 1) := by decide +kernel
theorem dX11_read_17 : decode cX11_read 17 = .ok (.aload_n 0, 1) := by decide +kernel
theorem dX11_read_18 : decode cX11_read 18 = .ok (.getfield 33, 3) := by decide +kernel
theorem dX11_read_21 : decode cX11_read 21 = .ok (.invokevirtual 127, 3) := by decide +kernel
theorem dX11_read_24 : decode cX11_read 24 = .ok (.ifCond .ne 10, 3) := by decide +kernel
theorem dX11_read_27 : decode cX11_read 27 = .ok (.aload_n 0, 1) := by decide +kernel
theorem dX11_read_28 : decode cX11_read 28 = .ok (.bipush (-6), 2) := by decide +kernel
theorem dX11_read_30 : decode cX11_read 30 = .ok (.invokevirtual 78, 3) := by decide +kernel
theorem dX11_read_33 : decode cX11_read 33 = .ok (.ireturn, 1) := by decide +kernel
theorem dX11_read_34 : decode cX11_read 34 = .ok (.iload_n 1, 1) := by decide +kernel
theorem dX11_read_35 : decode cX11_read 35 = .ok (.aload_n 0, 1) := by decide +kernel
theorem dX11_read_36 : decode cX11_read 36 = .ok (.getfield 10, 3) := by decide +kernel
theorem dX11_read_39 : decode cX11_read 39 = .ok (.invokevirtual 92, 3) := by decide +kernel
theorem dX11_read_42 : decode cX11_read 42 = .ok (.aload_n 0, 1) := by decide +kernel
theorem dX11_read_43 : decode cX11_read 43 = .ok (.getfield 57, 3) := by decide +kernel
theorem dX11_read_46 : decode cX11_read 46 = .ok (.invokevirtual 128, 3) := by decide +kernel
theorem dX11_read_49 : decode cX11_read 49 = .ok (.isub, 1) := by decide +kernel
theorem dX11_read_50 : decode cX11_read 50 = .ok (.invokestatic 131, 3) := by decide +kernel
theorem dX11_read_53 : decode cX11_read 53 = .ok (.istore_n 2, 1) := by decide +kernel
theorem dX11_read_54 : decode cX11_read 54 = .ok (.iconst 0, 1) := by decide +kernel
theorem dX11_read_55 : decode cX11_read 55 = .ok (.istore_n 3, 1) := by decide +kernel
theorem dX11_read_56 : decode cX11_read 56 = .ok (.iload_n 3, 1) := by decide +kernel
theorem dX11_read_57 : decode cX11_read 57 = .ok (.iload_n 2, 1) := by decide +kernel
theorem dX11_read_58 : decode cX11_read 58 = .ok (.if_icmp .ge 24, 3) := by decide +kernel
theorem dX11_read_61 : decode cX11_read 61 = .ok (.aload_n 0, 1) := by decide +kernel
theorem dX11_read_62 : decode cX11_read 62 = .ok (.invokevirtual 137, 3) := by decide +kernel
theorem dX11_read_65 : decode cX11_read 65 = .ok (.ifCond .ne 11, 3) := by decide +kernel
theorem dX11_read_68 : decode cX11_read 68 = .ok (.aload_n 0, 1) := by decide +kernel
theorem dX11_read_69 : decode cX11_read 69 = .ok (.bipush (-5), 2) := by decide +kernel
theorem dX11_read_71 : decode cX11_read 71 = .ok (.putfield 71, 3) := by decide +kernel
theorem dX11_read_74 : decode cX11_read 74 = .ok (.iload_n 3, 1) := by decide +kernel
theorem dX11_read_75 : decode cX11_read 75 = .ok (.ireturn, 1) := by decide +kernel
theorem dX11_read_76 : decode cX11_read 76 = .ok (.iinc 3 1, 3) := by decide +kernel
theorem dX11_read_79 : decode cX11_read 79 = .ok (.goto (-23), 3) := by decide +kernel
theorem dX11_read_82 : decode cX11_read 82 = .ok (.aload_n 0, 1) := by decide +kernel
theorem dX11_read_83 : decode cX11_read 83 = .ok (.iload_n 2, 1) := by decide +kernel
theorem dX11_read_84 : decode cX11_read 84 = .ok (.invokevirtual 96, 3) := by decide +kernel
theorem dX11_read_87 : decode cX11_read 87 = .ok (.ireturn, 1) := by decide +kernel
theorem dX11_mark_0 : decode cX11_mark 0 = .ok (.aload_n 0, 1) := by decide +kernel
theorem dX11_mark_1 : decode cX11_mark 1 = .ok (.getfield 33, 3) := by decide +kernel
theorem dX11_mark_4 : decode cX11_mark 4 = .ok (.invokevirtual 127, 3) := by decide +kernel
theorem dX11_mark_7 : decode cX11_mark 7 = .ok (.ifCond .ne 10, 3) := by decide +kernel
theorem dX11_mark_10 : decode cX11_mark 10 = .ok (.aload_n 0, 1) := by decide +kernel
theorem dX11_mark_11 : decode cX11_mark 11 = .ok (.bipush (-6), 2) := by decide +kernel
theorem dX11_mark_13 : decode cX11_mark 13 = .ok (.invokevirtual 78, 3) := by decide +kernel
theorem dX11_mark_16 : decode cX11_mark 16 = .ok (.ireturn, 1) := by decide +kernel
theorem dX11_mark_17 : decode cX11_mark 17 = .ok (.aload_n 0, 1) := by decide +kernel
theorem dX11_mark_18 : decode cX11_mark 18 = .ok (.getfield 44, 3) := by decide +kernel
theorem dX11_mark_21 : decode cX11_mark 21 = .ok (.aload_n 0, 1) := by decide +kernel
theorem dX11_mark_22 : decode cX11_mark 22 = .ok (.getfield 40, 3) := by decide +kernel
theorem dX11_mark_25 : decode cX11_mark 25 = .ok (.invokevirtual 141, 3) := by decide +kernel
theorem dX11_mark_28 : decode cX11_mark 28 = .ok (.ifCond .ne 10, 3) := by decide +kernel
theorem dX11_mark_31 : decode cX11_mark 31 = .ok (.aload_n 0, 1) := by decide +kernel
theorem dX11_mark_32 : decode cX11_mark 32 = .ok (.bipush (-5), 2) := by decide +kernel
theorem dX11_mark_34 : decode cX11_mark 34 = .ok (.invokevirtual 78, 3) := by decide +kernel
theorem dX11_mark_37 : decode cX11_mark 37 = .ok (.ireturn, 1) := by decide +kernel
theorem dX11_mark_38 : decode cX11_mark 38 = .ok (.aload_n 0, 1) := by decide +kernel
theorem dX11_mark_39 : decode cX11_mark 39 = .ok (.getfield 40, 3) := by decide +kernel
theorem dX11_mark_42 : decode cX11_mark 42 = .ok (.invokevirtual 145, 3) := by decide +kernel
theorem dX11_mark_45 : decode cX11_mark 45 = .ok (.aload_n 0, 1) := by decide +kernel
theorem dX11_mark_46 : decode cX11_mark 46 = .ok (.getfield 61, 3) := by decide +kernel
theorem dX11_mark_49 : decode cX11_mark 49 = .ok (.aload_n 0, 1) := by decide +kernel
theorem dX11_mark_50 : decode cX11_mark 50 = .ok (.getfield 57, 3) := by decide +kernel
theorem dX11_mark_53 : decode cX11_mark 53 = .ok (.invokevirtual 148, 3) := by decide +kernel
theorem dX11_mark_56 : decode cX11_mark 56 = .ok (.aload_n 0, 1) := by decide +kernel
theorem dX11_mark_57 : decode cX11_mark 57 = .ok (.getfield 33, 3) := by decide +kernel
theorem dX11_mark_60 : decode cX11_mark 60 = .ok (.invokevirtual 152, 3) := by decide +kernel
theorem dX11_mark_63 : decode cX11_mark 63 = .ok (.aload_n 0, 1) := by decide +kernel
theorem dX11_mark_64 : decode cX11_mark 64 = .ok (.aload_n 0, 1) := by decide +kernel
theorem dX11_mark_65 : decode cX11_mark 65 = .ok (.getfield 44, 3) := by decide +kernel
theorem dX11_mark_68 : decode cX11_mark 68 = .ok (.invokevirtual 155, 3) := by decide +kernel
theorem dX11_mark_71 : decode cX11_mark 71 = .ok (.invokevirtual 96, 3) := by decide +kernel
theorem dX11_mark_74 : decode cX11_mark 74 = .ok (.ireturn, 1) := by decide +kernel
theorem dX11_fall_0 : decode cX11_fall 0 = .ok (.aload_n 0, 1) := by decide +kernel
theorem dX11_fall_1 : decode cX11_fall 1 = .ok (.getfield 33, 3) := by decide +kernel
theorem dX11_fall_4 : decode cX11_fall 4 = .ok (.invokevirtual 127, 3) := by decide +kernel
theorem dX11_fall_7 : decode cX11_fall 7 = .ok (.ifCond .ne 10, 3) := by decide +kernel
theorem dX11_fall_10 : decode cX11_fall 10 = .ok (.aload_n 0, 1) := by decide +kernel
theorem dX11_fall_11 : decode cX11_fall 11 = .ok (.bipush (-6), 2) := by decide +kernel
theorem dX11_fall_13 : decode cX11_fall 13 = .ok (.invokevirtual 78, 3) := by decide +kernel
theorem dX11_fall_16 : decode cX11_fall 16 = .ok (.ireturn, 1) := by decide +kernel
theorem dX11_fall_17 : decode cX11_fall 17 = .ok (.aload_n 0, 1) := by decide +kernel
theorem dX11_fall_18 : decode cX11_fall 18 = .ok (.getfield 40, 3) := by decide +kernel
theorem dX11_fall_21 : decode cX11_fall 21 = .ok (.invokevirtual 145, 3) := by decide +kernel
theorem dX11_fall_24 : decode cX11_fall 24 = .ok (.aload_n 0, 1) := by decide +kernel
theorem dX11_fall_25 : decode cX11_fall 25 = .ok (.getfield 57, 3) := by decide +kernel
theorem dX11_fall_28 : decode cX11_fall 28 = .ok (.aload_n 0, 1) := by decide +kernel
theorem dX11_fall_29 : decode cX11_fall 29 = .ok (.getfield 61, 3) := by decide +kernel
theorem dX11_fall_32 : decode cX11_fall 32 = .ok (.invokevirtual 148, 3) := by decide +kernel
theorem dX11_fall_35 : decode cX11_fall 35 = .ok (.aload_n 0, 1) := by decide +kernel
theorem dX11_fall_36 : decode cX11_fall 36 = .ok (.getfield 33, 3) := by decide +kernel
theorem dX11_fall_39 : decode cX11_fall 39 = .ok (.invokevirtual 156, 3) := by decide +kernel
theorem dX11_fall_42 : decode cX11_fall 42 = .ok (.aload_n 0, 1) := by decide +kernel
theorem dX11_fall_43 : decode cX11_fall 43 = .ok (.aload_n 0, 1) := by decide +kernel
theorem dX11_fall_44 : decode cX11_fall 44 = .ok (.getfield 57, 3) := by decide +kernel
theorem dX11_fall_47 : decode cX11_fall 47 = .ok (.invokevirtual 128, 3) := by decide +kernel
theorem dX11_fall_50 : decode cX11_fall 50 = .ok (.invokevirtual 96, 3) := by decide +kernel
theorem dX11_fall_53 : decode cX11_fall 53 = .ok (.ireturn, 1) := by decide +kernel
theorem dX11_rows_0 : decode cX11_rows 0 = .ok (.aload_n 0, 1) := by decide +kernel
theorem dX11_rows_1 : decode cX11_rows 1 = .ok (.getfield 33, 3) := by decide +kernel
theorem dX11_rows_4 : decode cX11_rows 4 = .ok (.iload_n 1, 1) := by decide +kernel
theorem dX11_rows_5 : decode cX11_rows 5 = .ok (.invokevirtual 159, 3) := by decide +kernel
theorem dX11_rows_8 : decode cX11_rows 8 = .ok (.ifCond .eq 17, 3) := by decide +kernel
theorem dX11_rows_11 : decode cX11_rows 11 = .ok (.aload_n 0, 1) := by decide +kernel
theorem dX11_rows_12 : decode cX11_rows 12 = .ok (.getfield 33, 3) := by decide +kernel
theorem dX11_rows_15 : decode cX11_rows 15 = .ok (.iload_n 1, 1) := by decide +kernel
theorem dX11_rows_16 : decode cX11_rows 16 = .ok (.invokevirtual 162, 3) := by decide +kernel
theorem dX11_rows_19 : decode cX11_rows 19 = .ok (.invokevirtual 166, 3) := by decide +kernel
theorem dX11_rows_22 : decode cX11_rows 22 = .ok (.goto 4, 3) := by decide +kernel
theorem dX11_rows_25 : decode cX11_rows 25 = .ok (.iconst (-1), 1) := by decide +kernel
theorem dX11_rows_26 : decode cX11_rows 26 = .ok (.ireturn, 1) := by decide +kernel
theorem dX11_row_0 : decode cX11_row 0 = .ok (.aload_n 0, 1) := by decide +kernel
theorem dX11_row_1 : decode cX11_row 1 = .ok (.getfield 33, 3) := by decide +kernel
theorem dX11_row_4 : decode cX11_row 4 = .ok (.iload_n 1, 1) := by decide +kernel
theorem dX11_row_5 : decode cX11_row 5 = .ok (.invokevirtual 159, 3) := by decide +kernel
theorem dX11_row_8 : decode cX11_row 8 = .ok (.ifCond .eq 24, 3) := by decide +kernel
theorem dX11_row_11 : decode cX11_row 11 = .ok (.iload_n 2, 1) := by decide +kernel
theorem dX11_row_12 : decode cX11_row 12 = .ok (.iconst 0, 1) := by decide +kernel
theorem dX11_row_13 : decode cX11_row 13 = .ok (.aload_n 0, 1) := by decide +kernel
theorem dX11_row_14 : decode cX11_row 14 = .ok (.getfield 33, 3) := by decide +kernel
theorem dX11_row_17 : decode cX11_row 17 = .ok (.iload_n 1, 1) := by decide +kernel
theorem dX11_row_18 : decode cX11_row 18 = .ok (.invokevirtual 162, 3) := by decide +kernel
theorem dX11_row_21 : decode cX11_row 21 = .ok (.invokevirtual 166, 3) := by decide +kernel
theorem dX11_row_24 : decode cX11_row 24 = .ok (.iconst 1, 1) := by decide +kernel
theorem dX11_row_25 : decode cX11_row 25 = .ok (.isub, 1) := by decide +kernel
theorem dX11_row_26 : decode cX11_row 26 = .ok (.invokestatic 74, 3) := by decide +kernel
theorem dX11_row_29 : decode cX11_row 29 = .ok (.ifCond .ne 6, 3) := by decide +kernel
theorem dX11_row_32 : decode cX11_row 32 = .ok (.ldc 169, 2) := by decide +kernel
theorem dX11_row_34 : decode cX11_row 34 = .ok (.ireturn, 1) := by decide +kernel
theorem dX11_row_35 : decode cX11_row 35 = .ok (.aload_n 0, 1) := by decide +kernel
theorem dX11_row_36 : decode cX11_row 36 = .ok (.getfield 33, 3) := by decide +kernel
theorem dX11_row_39 : decode cX11_row 39 = .ok (.iload_n 1, 1) := by decide +kernel
theorem dX11_row_40 : decode cX11_row 40 = .ok (.invokevirtual 162, 3) := by decide +kernel
theorem dX11_row_43 : decode cX11_row 43 = .ok (.iload_n 2, 1) := by decide +kernel
theorem dX11_row_44 : decode cX11_row 44 = .ok (.invokevirtual 170, 3) := by decide +kernel
theorem dX11_row_47 : decode cX11_row 47 = .ok (.iload_n 3, 1) := by decide +kernel
theorem dX11_row_48 : decode cX11_row 48 = .ok (.invokestatic 174, 3) := by decide +kernel
theorem dX11_row_51 : decode cX11_row 51 = .ok (.ireturn, 1) := by decide +kernel
theorem dX11_out_0 : decode cX11_out 0 = .ok (.iload_n 1, 1) := by decide +kernel
theorem dX11_out_1 : decode cX11_out 1 = .ok (.iconst (-1), 1) := by decide +kernel
theorem dX11_out_2 : decode cX11_out 2 = .ok (.if_icmp .ne 15, 3) := by decide +kernel
theorem dX11_out_5 : decode cX11_out 5 = .ok (.iload_n 2, 1) := by decide +kernel
theorem dX11_out_6 : decode cX11_out 6 = .ok (.ifCond .ne 11, 3) := by decide +kernel
theorem dX11_out_9 : decode cX11_out 9 = .ok (.aload_n 0, 1) := by decide +kernel
theorem dX11_out_10 : decode cX11_out 10 = .ok (.getfield 44, 3) := by decide +kernel
theorem dX11_out_13 : decode cX11_out 13 = .ok (.invokevirtual 155, 3) := by decide +kernel
theorem dX11_out_16 : decode cX11_out 16 = .ok (.ireturn, 1) := by decide +kernel
theorem dX11_out_17 : decode cX11_out 17 = .ok (.aload_n 0, 1) := by decide +kernel
theorem dX11_out_18 : decode cX11_out 18 = .ok (.getfield 44, 3) := by decide +kernel
theorem dX11_out_21 : decode cX11_out 21 = .ok (.iload_n 1, 1) := by decide +kernel
theorem dX11_out_22 : decode cX11_out 22 = .ok (.iload_n 2, 1) := by decide +kernel
theorem dX11_out_23 : decode cX11_out 23 = .ok (.invokevirtual 178, 3) := by decide +kernel
theorem dX11_out_26 : decode cX11_out 26 = .ok (.ireturn, 1) := by decide +kernel
theorem dX11_host_0 : decode cX11_host 0 = .ok (.iload_n 1, 1) := by decide +kernel
theorem dX11_host_1 : decode cX11_host 1 = .ok (.iconst 0, 1) := by decide +kernel
theorem dX11_host_2 : decode cX11_host 2 = .ok (.bipush 7, 2) := by decide +kernel
theorem dX11_host_4 : decode cX11_host 4 = .ok (.invokestatic 74, 3) := by decide +kernel
theorem dX11_host_7 : decode cX11_host 7 = .ok (.ifCond .ne 9, 3) := by decide +kernel
theorem dX11_host_10 : decode cX11_host 10 = .ok (.aload_n 0, 1) := by decide +kernel
theorem dX11_host_11 : decode cX11_host 11 = .ok (.iconst (-1), 1) := by decide +kernel
theorem dX11_host_12 : decode cX11_host 12 = .ok (.invokevirtual 78, 3) := by decide +kernel
theorem dX11_host_15 : decode cX11_host 15 = .ok (.ireturn, 1) := by decide +kernel
theorem dX11_host_16 : decode cX11_host 16 = .ok (.aload_n 0, 1) := by decide +kernel
theorem dX11_host_17 : decode cX11_host 17 = .ok (.getfield 50, 3) := by decide +kernel
theorem dX11_host_20 : decode cX11_host 20 = .ok (.iload_n 1, 1) := by decide +kernel
theorem dX11_host_21 : decode cX11_host 21 = .ok (.invokevirtual 180, 3) := by decide +kernel
theorem dX11_host_24 : decode cX11_host 24 = .ok (.iload_n 2, 1) := by decide +kernel
theorem dX11_host_25 : decode cX11_host 25 = .ok (.if_icmp .ne 10, 3) := by decide +kernel
theorem dX11_host_28 : decode cX11_host 28 = .ok (.aload_n 0, 1) := by decide +kernel
theorem dX11_host_29 : decode cX11_host 29 = .ok (.bipush (-4), 2) := by decide +kernel
theorem dX11_host_31 : decode cX11_host 31 = .ok (.invokevirtual 78, 3) := by decide +kernel
theorem dX11_host_34 : decode cX11_host 34 = .ok (.ireturn, 1) := by decide +kernel
theorem dX11_host_35 : decode cX11_host 35 = .ok (.iload_n 2, 1) := by decide +kernel
theorem dX11_host_36 : decode cX11_host 36 = .ok (.ifCond .ne 21, 3) := by decide +kernel
theorem dX11_host_39 : decode cX11_host 39 = .ok (.aload_n 0, 1) := by decide +kernel
theorem dX11_host_40 : decode cX11_host 40 = .ok (.getfield 50, 3) := by decide +kernel
theorem dX11_host_43 : decode cX11_host 43 = .ok (.invokevirtual 181, 3) := by decide +kernel
theorem dX11_host_46 : decode cX11_host 46 = .ok (.iconst 1, 1) := by decide +kernel
theorem dX11_host_47 : decode cX11_host 47 = .ok (.if_icmp .ne 10, 3) := by decide +kernel
theorem dX11_host_50 : decode cX11_host 50 = .ok (.aload_n 0, 1) := by decide +kernel
theorem dX11_host_51 : decode cX11_host 51 = .ok (.bipush (-5), 2) := by decide +kernel
theorem dX11_host_53 : decode cX11_host 53 = .ok (.invokevirtual 78, 3) := by decide +kernel
theorem dX11_host_56 : decode cX11_host 56 = .ok (.ireturn, 1) := by decide +kernel
theorem dX11_host_57 : decode cX11_host 57 = .ok (.aload_n 0, 1) := by decide +kernel
theorem dX11_host_58 : decode cX11_host 58 = .ok (.aload_n 0, 1) := by decide +kernel
theorem dX11_host_59 : decode cX11_host 59 = .ok (.getfield 33, 3) := by decide +kernel
theorem dX11_host_62 : decode cX11_host 62 = .ok (.aload_n 0, 1) := by decide +kernel
theorem dX11_host_63 : decode cX11_host 63 = .ok (.getfield 50, 3) := by decide +kernel
theorem dX11_host_66 : decode cX11_host 66 = .ok (.iload_n 1, 1) := by decide +kernel
theorem dX11_host_67 : decode cX11_host 67 = .ok (.iload_n 2, 1) := by decide +kernel
theorem dX11_host_68 : decode cX11_host 68 = .ok (.invokevirtual 182, 3) := by decide +kernel
theorem dX11_host_71 : decode cX11_host 71 = .ok (.invokevirtual 186, 3) := by decide +kernel
theorem dX11_host_74 : decode cX11_host 74 = .ok (.invokevirtual 96, 3) := by decide +kernel
theorem dX11_host_77 : decode cX11_host 77 = .ok (.ireturn, 1) := by decide +kernel
theorem dX11_owner_0 : decode cX11_owner 0 = .ok (.aload_n 0, 1) := by decide +kernel
theorem dX11_owner_1 : decode cX11_owner 1 = .ok (.getfield 50, 3) := by decide +kernel
theorem dX11_owner_4 : decode cX11_owner 4 = .ok (.iload_n 1, 1) := by decide +kernel
theorem dX11_owner_5 : decode cX11_owner 5 = .ok (.invokevirtual 189, 3) := by decide +kernel
theorem dX11_owner_8 : decode cX11_owner 8 = .ok (.ireturn, 1) := by decide +kernel
theorem dX11_owns_0 : decode cX11_owns 0 = .ok (.aload_n 0, 1) := by decide +kernel
theorem dX11_owns_1 : decode cX11_owns 1 = .ok (.getfield 50, 3) := by decide +kernel
theorem dX11_owns_4 : decode cX11_owns 4 = .ok (.iload_n 1, 1) := by decide +kernel
theorem dX11_owns_5 : decode cX11_owns 5 = .ok (.invokevirtual 180, 3) := by decide +kernel
theorem dX11_owns_8 : decode cX11_owns 8 = .ok (.ifCond .eq 21, 3) := by decide +kernel
theorem dX11_owns_11 : decode cX11_owns 11 = .ok (.aload_n 0, 1) := by decide +kernel
theorem dX11_owns_12 : decode cX11_owns 12 = .ok (.getfield 33, 3) := by decide +kernel
theorem dX11_owns_15 : decode cX11_owns 15 = .ok (.aload_n 0, 1) := by decide +kernel
theorem dX11_owns_16 : decode cX11_owns 16 = .ok (.getfield 50, 3) := by decide +kernel
theorem dX11_owns_19 : decode cX11_owns 19 = .ok (.iload_n 1, 1) := by decide +kernel
theorem dX11_owns_20 : decode cX11_owns 20 = .ok (.invokevirtual 192, 3) := by decide +kernel
theorem dX11_owns_23 : decode cX11_owns 23 = .ok (.invokevirtual 186, 3) := by decide +kernel
theorem dX11_owns_26 : decode cX11_owns 26 = .ok (.goto 4, 3) := by decide +kernel
theorem dX11_owns_29 : decode cX11_owns 29 = .ok (.iconst (-1), 1) := by decide +kernel
theorem dX11_owns_30 : decode cX11_owns 30 = .ok (.ireturn, 1) := by decide +kernel
theorem dX11_count_0 : decode cX11_count 0 = .ok (.iload_n 1, 1) := by decide +kernel
theorem dX11_count_1 : decode cX11_count 1 = .ok (.tableswitch 123 0 8 #[51, 59, 67, 75, 83, 91, 99, 107, 115], 51) := by decide +kernel
theorem dX11_count_52 : decode cX11_count 52 = .ok (.aload_n 0, 1) := by decide +kernel
theorem dX11_count_53 : decode cX11_count 53 = .ok (.getfield 10, 3) := by decide +kernel
theorem dX11_count_56 : decode cX11_count 56 = .ok (.invokevirtual 92, 3) := by decide +kernel
theorem dX11_count_59 : decode cX11_count 59 = .ok (.ireturn, 1) := by decide +kernel
theorem dX11_count_60 : decode cX11_count 60 = .ok (.aload_n 0, 1) := by decide +kernel
theorem dX11_count_61 : decode cX11_count 61 = .ok (.getfield 57, 3) := by decide +kernel
theorem dX11_count_64 : decode cX11_count 64 = .ok (.invokevirtual 128, 3) := by decide +kernel
theorem dX11_count_67 : decode cX11_count 67 = .ok (.ireturn, 1) := by decide +kernel
theorem dX11_count_68 : decode cX11_count 68 = .ok (.aload_n 0, 1) := by decide +kernel
theorem dX11_count_69 : decode cX11_count 69 = .ok (.getfield 57, 3) := by decide +kernel
theorem dX11_count_72 : decode cX11_count 72 = .ok (.invokevirtual 195, 3) := by decide +kernel
theorem dX11_count_75 : decode cX11_count 75 = .ok (.ireturn, 1) := by decide +kernel
theorem dX11_count_76 : decode cX11_count 76 = .ok (.aload_n 0, 1) := by decide +kernel
theorem dX11_count_77 : decode cX11_count 77 = .ok (.getfield 33, 3) := by decide +kernel
theorem dX11_count_80 : decode cX11_count 80 = .ok (.invokevirtual 127, 3) := by decide +kernel
theorem dX11_count_83 : decode cX11_count 83 = .ok (.ireturn, 1) := by decide +kernel
theorem dX11_count_84 : decode cX11_count 84 = .ok (.aload_n 0, 1) := by decide +kernel
theorem dX11_count_85 : decode cX11_count 85 = .ok (.getfield 50, 3) := by decide +kernel
theorem dX11_count_88 : decode cX11_count 88 = .ok (.invokevirtual 181, 3) := by decide +kernel
theorem dX11_count_91 : decode cX11_count 91 = .ok (.ireturn, 1) := by decide +kernel
theorem dX11_count_92 : decode cX11_count 92 = .ok (.aload_n 0, 1) := by decide +kernel
theorem dX11_count_93 : decode cX11_count 93 = .ok (.getfield 40, 3) := by decide +kernel
theorem dX11_count_96 : decode cX11_count 96 = .ok (.invokevirtual 155, 3) := by decide +kernel
theorem dX11_count_99 : decode cX11_count 99 = .ok (.ireturn, 1) := by decide +kernel
theorem dX11_count_100 : decode cX11_count 100 = .ok (.aload_n 0, 1) := by decide +kernel
theorem dX11_count_101 : decode cX11_count 101 = .ok (.getfield 19, 3) := by decide +kernel
theorem dX11_count_104 : decode cX11_count 104 = .ok (.invokevirtual 107, 3) := by decide +kernel
theorem dX11_count_107 : decode cX11_count 107 = .ok (.ireturn, 1) := by decide +kernel
theorem dX11_count_108 : decode cX11_count 108 = .ok (.aload_n 0, 1) := by decide +kernel
theorem dX11_count_109 : decode cX11_count 109 = .ok (.getfield 57, 3) := by decide +kernel
theorem dX11_count_112 : decode cX11_count 112 = .ok (.invokevirtual 198, 3) := by decide +kernel
theorem dX11_count_115 : decode cX11_count 115 = .ok (.ireturn, 1) := by decide +kernel
theorem dX11_count_116 : decode cX11_count 116 = .ok (.aload_n 0, 1) := by decide +kernel
theorem dX11_count_117 : decode cX11_count 117 = .ok (.getfield 61, 3) := by decide +kernel
theorem dX11_count_120 : decode cX11_count 120 = .ok (.invokevirtual 128, 3) := by decide +kernel
theorem dX11_count_123 : decode cX11_count 123 = .ok (.ireturn, 1) := by decide +kernel
theorem dX11_count_124 : decode cX11_count 124 = .ok (.iconst (-1), 1) := by decide +kernel
theorem dX11_count_125 : decode cX11_count 125 = .ok (.ireturn, 1) := by decide +kernel
theorem dX11_status_0 : decode cX11_status 0 = .ok (.aload_n 0, 1) := by decide +kernel
theorem dX11_status_1 : decode cX11_status 1 = .ok (.getfield 71, 3) := by decide +kernel
theorem dX11_status_4 : decode cX11_status 4 = .ok (.ireturn, 1) := by decide +kernel
theorem dX11_refuse_0 : decode cX11_refuse 0 = .ok (.aload_n 0, 1) := by decide +kernel
theorem dX11_refuse_1 : decode cX11_refuse 1 = .ok (.iload_n 1, 1) := by decide +kernel
theorem dX11_refuse_2 : decode cX11_refuse 2 = .ok (.putfield 71, 3) := by decide +kernel
theorem dX11_refuse_5 : decode cX11_refuse 5 = .ok (.iload_n 1, 1) := by decide +kernel
theorem dX11_refuse_6 : decode cX11_refuse 6 = .ok (.ireturn, 1) := by decide +kernel
theorem dX11_grant_0 : decode cX11_grant 0 = .ok (.aload_n 0, 1) := by decide +kernel
theorem dX11_grant_1 : decode cX11_grant 1 = .ok (.iconst 0, 1) := by decide +kernel
theorem dX11_grant_2 : decode cX11_grant 2 = .ok (.putfield 71, 3) := by decide +kernel
theorem dX11_grant_5 : decode cX11_grant 5 = .ok (.iload_n 1, 1) := by decide +kernel
theorem dX11_grant_6 : decode cX11_grant 6 = .ok (.ireturn, 1) := by decide +kernel
theorem dX11_beginAnew_0 : decode cX11_beginAnew 0 = .ok (.aload_n 0, 1) := by decide +kernel
theorem dX11_beginAnew_1 : decode cX11_beginAnew 1 = .ok (.getfield 57, 3) := by decide +kernel
theorem dX11_beginAnew_4 : decode cX11_beginAnew 4 = .ok (.invokevirtual 201, 3) := by decide +kernel
theorem dX11_beginAnew_7 : decode cX11_beginAnew 7 = .ok (.aload_n 0, 1) := by decide +kernel
theorem dX11_beginAnew_8 : decode cX11_beginAnew 8 = .ok (.getfield 61, 3) := by decide +kernel
theorem dX11_beginAnew_11 : decode cX11_beginAnew 11 = .ok (.invokevirtual 201, 3) := by decide +kernel
theorem dX11_beginAnew_14 : decode cX11_beginAnew 14 = .ok (.aload_n 0, 1) := by decide +kernel
theorem dX11_beginAnew_15 : decode cX11_beginAnew 15 = .ok (.getfield 40, 3) := by decide +kernel
theorem dX11_beginAnew_18 : decode cX11_beginAnew 18 = .ok (.invokevirtual 145, 3) := by decide +kernel
theorem dX11_beginAnew_21 : decode cX11_beginAnew 21 = .ok (.aload_n 0, 1) := by decide +kernel
theorem dX11_beginAnew_22 : decode cX11_beginAnew 22 = .ok (.getfield 44, 3) := by decide +kernel
theorem dX11_beginAnew_25 : decode cX11_beginAnew 25 = .ok (.invokevirtual 145, 3) := by decide +kernel
theorem dX11_beginAnew_28 : decode cX11_beginAnew 28 = .ok (.aload_n 0, 1) := by decide +kernel
theorem dX11_beginAnew_29 : decode cX11_beginAnew 29 = .ok (.getfield 33, 3) := by decide +kernel
theorem dX11_beginAnew_32 : decode cX11_beginAnew 32 = .ok (.invokevirtual 202, 3) := by decide +kernel
theorem dX11_beginAnew_35 : decode cX11_beginAnew 35 = .ok (.return_, 1) := by decide +kernel
theorem dX11_readNext_0 : decode cX11_readNext 0 = .ok (.aload_n 0, 1) := by decide +kernel
theorem dX11_readNext_1 : decode cX11_readNext 1 = .ok (.getfield 57, 3) := by decide +kernel
theorem dX11_readNext_4 : decode cX11_readNext 4 = .ok (.invokevirtual 128, 3) := by decide +kernel
theorem dX11_readNext_7 : decode cX11_readNext 7 = .ok (.istore_n 1, 1) := by decide +kernel
theorem dX11_readNext_8 : decode cX11_readNext 8 = .ok (.aload_n 0, 1) := by decide +kernel
theorem dX11_readNext_9 : decode cX11_readNext 9 = .ok (.getfield 10, 3) := by decide +kernel
theorem dX11_readNext_12 : decode cX11_readNext 12 = .ok (.iload_n 1, 1) := by decide +kernel
theorem dX11_readNext_13 : decode cX11_readNext 13 = .ok (.invokevirtual 203, 3) := by decide +kernel
theorem dX11_readNext_16 : decode cX11_readNext 16 = .ok (.lstore_n 2, 1) := by decide +kernel
theorem dX11_readNext_17 : decode cX11_readNext 17 = .ok (.lload_n 2, 1) := by decide +kernel
theorem dX11_readNext_18 : decode cX11_readNext 18 = .ok (.invokestatic 206, 3) := by decide +kernel
theorem dX11_readNext_21 : decode cX11_readNext 21 = .ok (.istore 4, 2) := by decide +kernel
theorem dX11_readNext_23 : decode cX11_readNext 23 = .ok (.aload_n 0, 1) := by decide +kernel
theorem dX11_readNext_24 : decode cX11_readNext 24 = .ok (.getfield 64, 3) := by decide +kernel
theorem dX11_readNext_27 : decode cX11_readNext 27 = .ok (.iconst (-1), 1) := by decide +kernel
theorem dX11_readNext_28 : decode cX11_readNext 28 = .ok (.if_icmp .eq 24, 3) := by decide +kernel
theorem dX11_readNext_31 : decode cX11_readNext 31 = .ok (.iload 4, 2) := by decide +kernel
theorem dX11_readNext_33 : decode cX11_readNext 33 = .ok (.aload_n 0, 1) := by decide +kernel
theorem dX11_readNext_34 : decode cX11_readNext 34 = .ok (.getfield 57, 3) := by decide +kernel
theorem dX11_readNext_37 : decode cX11_readNext 37 = .ok (.invokevirtual 198, 3) := by decide +kernel
theorem dX11_readNext_40 : decode cX11_readNext 40 = .ok (.aload_n 0, 1) := by decide +kernel
theorem dX11_readNext_41 : decode cX11_readNext 41 = .ok (.getfield 64, 3) := by decide +kernel
theorem dX11_readNext_44 : decode cX11_readNext 44 = .ok (.isub, 1) := by decide +kernel
theorem dX11_readNext_45 : decode cX11_readNext 45 = .ok (.if_icmp .ge 7, 3) := by decide +kernel
theorem dX11_readNext_48 : decode cX11_readNext 48 = .ok (.iconst 1, 1) := by decide +kernel
theorem dX11_readNext_49 : decode cX11_readNext 49 = .ok (.goto 4, 3) := by decide +kernel
theorem dX11_readNext_52 : decode cX11_readNext 52 = .ok (.iconst 0, 1) := by decide +kernel
theorem dX11_readNext_53 : decode cX11_readNext 53 = .ok (.istore 5, 2) := by decide +kernel
theorem dX11_readNext_55 : decode cX11_readNext 55 = .ok (.iload 5, 2) := by decide +kernel
theorem dX11_readNext_57 : decode cX11_readNext 57 = .ok (.ifCond .ne 55, 3) := by decide +kernel
theorem dX11_readNext_60 : decode cX11_readNext 60 = .ok (.aload_n 0, 1) := by decide +kernel
theorem dX11_readNext_61 : decode cX11_readNext 61 = .ok (.getfield 33, 3) := by decide +kernel
theorem dX11_readNext_64 : decode cX11_readNext 64 = .ok (.aload_n 0, 1) := by decide +kernel
theorem dX11_readNext_65 : decode cX11_readNext 65 = .ok (.getfield 10, 3) := by decide +kernel
theorem dX11_readNext_68 : decode cX11_readNext 68 = .ok (.iload_n 1, 1) := by decide +kernel
theorem dX11_readNext_69 : decode cX11_readNext 69 = .ok (.invokevirtual 210, 3) := by decide +kernel
theorem dX11_readNext_72 : decode cX11_readNext 72 = .ok (.lload_n 2, 1) := by decide +kernel
theorem dX11_readNext_73 : decode cX11_readNext 73 = .ok (.invokevirtual 213, 3) := by decide +kernel
theorem dX11_readNext_76 : decode cX11_readNext 76 = .ok (.ifCond .eq 27, 3) := by decide +kernel
theorem dX11_readNext_79 : decode cX11_readNext 79 = .ok (.aload_n 0, 1) := by decide +kernel
theorem dX11_readNext_80 : decode cX11_readNext 80 = .ok (.getfield 40, 3) := by decide +kernel
theorem dX11_readNext_83 : decode cX11_readNext 83 = .ok (.aload_n 0, 1) := by decide +kernel
theorem dX11_readNext_84 : decode cX11_readNext 84 = .ok (.getfield 33, 3) := by decide +kernel
theorem dX11_readNext_87 : decode cX11_readNext 87 = .ok (.invokevirtual 216, 3) := by decide +kernel
theorem dX11_readNext_90 : decode cX11_readNext 90 = .ok (.aload_n 0, 1) := by decide +kernel
theorem dX11_readNext_91 : decode cX11_readNext 91 = .ok (.getfield 33, 3) := by decide +kernel
theorem dX11_readNext_94 : decode cX11_readNext 94 = .ok (.invokevirtual 220, 3) := by decide +kernel
theorem dX11_readNext_97 : decode cX11_readNext 97 = .ok (.invokevirtual 223, 3) := by decide +kernel
theorem dX11_readNext_100 : decode cX11_readNext 100 = .ok (.ifCond .ne 5, 3) := by decide +kernel
theorem dX11_readNext_103 : decode cX11_readNext 103 = .ok (.iconst 0, 1) := by decide +kernel
theorem dX11_readNext_104 : decode cX11_readNext 104 = .ok (.ireturn, 1) := by decide +kernel
theorem dX11_readNext_105 : decode cX11_readNext 105 = .ok (.aload_n 0, 1) := by decide +kernel
theorem dX11_readNext_106 : decode cX11_readNext 106 = .ok (.getfield 33, 3) := by decide +kernel
theorem dX11_readNext_109 : decode cX11_readNext 109 = .ok (.invokevirtual 227, 3) := by decide +kernel
theorem dX11_readNext_112 : decode cX11_readNext 112 = .ok (.aload_n 0, 1) := by decide +kernel
theorem dX11_readNext_113 : decode cX11_readNext 113 = .ok (.getfield 57, 3) := by decide +kernel
theorem dX11_readNext_116 : decode cX11_readNext 116 = .ok (.iload 4, 2) := by decide +kernel
theorem dX11_readNext_118 : decode cX11_readNext 118 = .ok (.iload 5, 2) := by decide +kernel
theorem dX11_readNext_120 : decode cX11_readNext 120 = .ok (.invokevirtual 230, 3) := by decide +kernel
theorem dX11_readNext_123 : decode cX11_readNext 123 = .ok (.iconst 1, 1) := by decide +kernel
theorem dX11_readNext_124 : decode cX11_readNext 124 = .ok (.ireturn, 1) := by decide +kernel
theorem dX11_isWithin_0 : decode cX11_isWithin 0 = .ok (.iload_n 0, 1) := by decide +kernel
theorem dX11_isWithin_1 : decode cX11_isWithin 1 = .ok (.iload_n 1, 1) := by decide +kernel
theorem dX11_isWithin_2 : decode cX11_isWithin 2 = .ok (.if_icmp .lt 12, 3) := by decide +kernel
theorem dX11_isWithin_5 : decode cX11_isWithin 5 = .ok (.iload_n 0, 1) := by decide +kernel
theorem dX11_isWithin_6 : decode cX11_isWithin 6 = .ok (.iload_n 2, 1) := by decide +kernel
theorem dX11_isWithin_7 : decode cX11_isWithin 7 = .ok (.if_icmp .gt 7, 3) := by decide +kernel
theorem dX11_isWithin_10 : decode cX11_isWithin 10 = .ok (.iconst 1, 1) := by decide +kernel
theorem dX11_isWithin_11 : decode cX11_isWithin 11 = .ok (.goto 4, 3) := by decide +kernel
theorem dX11_isWithin_14 : decode cX11_isWithin 14 = .ok (.iconst 0, 1) := by decide +kernel
theorem dX11_isWithin_15 : decode cX11_isWithin 15 = .ok (.ireturn, 1) := by decide +kernel
theorem dJ9_max_7cf53_0 : decode cJ9_max_7cf53 0 = .ok (.iload_n 0, 1) := by decide +kernel
theorem dJ9_max_7cf53_1 : decode cJ9_max_7cf53 1 = .ok (.iload_n 1, 1) := by decide +kernel
theorem dJ9_max_7cf53_2 : decode cJ9_max_7cf53 2 = .ok (.if_icmp .lt 7, 3) := by decide +kernel
theorem dJ9_max_7cf53_5 : decode cJ9_max_7cf53 5 = .ok (.iload_n 0, 1) := by decide +kernel
theorem dJ9_max_7cf53_6 : decode cJ9_max_7cf53 6 = .ok (.goto 4, 3) := by decide +kernel
theorem dJ9_max_7cf53_9 : decode cJ9_max_7cf53 9 = .ok (.iload_n 1, 1) := by decide +kernel
theorem dJ9_max_7cf53_10 : decode cJ9_max_7cf53 10 = .ok (.ireturn, 1) := by decide +kernel
theorem dJ9_min_7cf53_0 : decode cJ9_min_7cf53 0 = .ok (.iload_n 0, 1) := by decide +kernel
theorem dJ9_min_7cf53_1 : decode cJ9_min_7cf53 1 = .ok (.iload_n 1, 1) := by decide +kernel
theorem dJ9_min_7cf53_2 : decode cJ9_min_7cf53 2 = .ok (.if_icmp .gt 7, 3) := by decide +kernel
theorem dJ9_min_7cf53_5 : decode cJ9_min_7cf53 5 = .ok (.iload_n 0, 1) := by decide +kernel
theorem dJ9_min_7cf53_6 : decode cJ9_min_7cf53 6 = .ok (.goto 4, 3) := by decide +kernel
theorem dJ9_min_7cf53_9 : decode cJ9_min_7cf53 9 = .ok (.iload_n 1, 1) := by decide +kernel
theorem dJ9_min_7cf53_10 : decode cJ9_min_7cf53 10 = .ok (.ireturn, 1) := by decide +kernel
theorem dJ0_length_8abf5_0 : decode cJ0_length_8abf5 0 = .ok (.aload_n 0, 1) := by decide +kernel
theorem dJ0_length_8abf5_1 : decode cJ0_length_8abf5 1 = .ok (.getfield 9, 3) := by decide +kernel
theorem dJ0_length_8abf5_4 : decode cJ0_length_8abf5 4 = .ok (.arraylength, 1) := by decide +kernel
theorem dJ0_length_8abf5_5 : decode cJ0_length_8abf5 5 = .ok (.aload_n 0, 1) := by decide +kernel
theorem dJ0_length_8abf5_6 : decode cJ0_length_8abf5 6 = .ok (.invokevirtual 335, 3) := by decide +kernel
theorem dJ0_length_8abf5_9 : decode cJ0_length_8abf5 9 = .ok (.ishr, 1) := by decide +kernel
theorem dJ0_length_8abf5_10 : decode cJ0_length_8abf5 10 = .ok (.ireturn, 1) := by decide +kernel
theorem dJ0_charAt_5068e_0 : decode cJ0_charAt_5068e 0 = .ok (.aload_n 0, 1) := by decide +kernel
theorem dJ0_charAt_5068e_1 : decode cJ0_charAt_5068e 1 = .ok (.invokevirtual 492, 3) := by decide +kernel
theorem dJ0_charAt_5068e_4 : decode cJ0_charAt_5068e 4 = .ok (.ifCond .eq 12, 3) := by decide +kernel
theorem dJ0_charAt_5068e_7 : decode cJ0_charAt_5068e 7 = .ok (.aload_n 0, 1) := by decide +kernel
theorem dJ0_charAt_5068e_8 : decode cJ0_charAt_5068e 8 = .ok (.getfield 9, 3) := by decide +kernel
theorem dJ0_charAt_5068e_11 : decode cJ0_charAt_5068e 11 = .ok (.iload_n 1, 1) := by decide +kernel
theorem dJ0_charAt_5068e_12 : decode cJ0_charAt_5068e 12 = .ok (.invokestatic 495, 3) := by decide +kernel
theorem dJ0_charAt_5068e_15 : decode cJ0_charAt_5068e 15 = .ok (.ireturn, 1) := by decide +kernel
theorem dJ0_charAt_5068e_16 : decode cJ0_charAt_5068e 16 = .ok (.aload_n 0, 1) := by decide +kernel
theorem dJ0_charAt_5068e_17 : decode cJ0_charAt_5068e 17 = .ok (.getfield 9, 3) := by decide +kernel
theorem dJ0_charAt_5068e_20 : decode cJ0_charAt_5068e 20 = .ok (.iload_n 1, 1) := by decide +kernel
theorem dJ0_charAt_5068e_21 : decode cJ0_charAt_5068e 21 = .ok (.invokestatic 498, 3) := by decide +kernel
theorem dJ0_charAt_5068e_24 : decode cJ0_charAt_5068e 24 = .ok (.ireturn, 1) := by decide +kernel
theorem dJ0_coder_7d493_0 : decode cJ0_coder_7d493 0 = .ok (.getstatic 38, 3) := by decide +kernel
theorem dJ0_coder_7d493_3 : decode cJ0_coder_7d493 3 = .ok (.ifCond .eq 10, 3) := by decide +kernel
theorem dJ0_coder_7d493_6 : decode cJ0_coder_7d493 6 = .ok (.aload_n 0, 1) := by decide +kernel
theorem dJ0_coder_7d493_7 : decode cJ0_coder_7d493 7 = .ok (.getfield 15, 3) := by decide +kernel
theorem dJ0_coder_7d493_10 : decode cJ0_coder_7d493 10 = .ok (.goto 4, 3) := by decide +kernel
theorem dJ0_coder_7d493_13 : decode cJ0_coder_7d493 13 = .ok (.iconst 1, 1) := by decide +kernel
theorem dJ0_coder_7d493_14 : decode cJ0_coder_7d493 14 = .ok (.ireturn, 1) := by decide +kernel
theorem dJ0_isLatin1_aae02_0 : decode cJ0_isLatin1_aae02 0 = .ok (.getstatic 38, 3) := by decide +kernel
theorem dJ0_isLatin1_aae02_3 : decode cJ0_isLatin1_aae02 3 = .ok (.ifCond .eq 14, 3) := by decide +kernel
theorem dJ0_isLatin1_aae02_6 : decode cJ0_isLatin1_aae02 6 = .ok (.aload_n 0, 1) := by decide +kernel
theorem dJ0_isLatin1_aae02_7 : decode cJ0_isLatin1_aae02 7 = .ok (.getfield 15, 3) := by decide +kernel
theorem dJ0_isLatin1_aae02_10 : decode cJ0_isLatin1_aae02 10 = .ok (.ifCond .ne 7, 3) := by decide +kernel
theorem dJ0_isLatin1_aae02_13 : decode cJ0_isLatin1_aae02 13 = .ok (.iconst 1, 1) := by decide +kernel
theorem dJ0_isLatin1_aae02_14 : decode cJ0_isLatin1_aae02 14 = .ok (.goto 4, 3) := by decide +kernel
theorem dJ0_isLatin1_aae02_17 : decode cJ0_isLatin1_aae02 17 = .ok (.iconst 0, 1) := by decide +kernel
theorem dJ0_isLatin1_aae02_18 : decode cJ0_isLatin1_aae02 18 = .ok (.ireturn, 1) := by decide +kernel
theorem dJ0_checkIndex_df160_0 : decode cJ0_checkIndex_df160 0 = .ok (.iload_n 0, 1) := by decide +kernel
theorem dJ0_checkIndex_df160_1 : decode cJ0_checkIndex_df160 1 = .ok (.iload_n 1, 1) := by decide +kernel
theorem dJ0_checkIndex_df160_2 : decode cJ0_checkIndex_df160 2 = .ok (.getstatic 1053, 3) := by decide +kernel
theorem dJ0_checkIndex_df160_5 : decode cJ0_checkIndex_df160 5 = .ok (.invokestatic 1059, 3) := by decide +kernel
theorem dJ0_checkIndex_df160_8 : decode cJ0_checkIndex_df160 8 = .ok (.pop, 1) := by decide +kernel
theorem dJ0_checkIndex_df160_9 : decode cJ0_checkIndex_df160 9 = .ok (.return_, 1) := by decide +kernel
theorem dJ1_charAt_3b067_0 : decode cJ1_charAt_3b067 0 = .ok (.iload_n 1, 1) := by decide +kernel
theorem dJ1_charAt_3b067_1 : decode cJ1_charAt_3b067 1 = .ok (.aload_n 0, 1) := by decide +kernel
theorem dJ1_charAt_3b067_2 : decode cJ1_charAt_3b067 2 = .ok (.arraylength, 1) := by decide +kernel
theorem dJ1_charAt_3b067_3 : decode cJ1_charAt_3b067 3 = .ok (.invokestatic 9, 3) := by decide +kernel
theorem dJ1_charAt_3b067_6 : decode cJ1_charAt_3b067 6 = .ok (.aload_n 0, 1) := by decide +kernel
theorem dJ1_charAt_3b067_7 : decode cJ1_charAt_3b067 7 = .ok (.iload_n 1, 1) := by decide +kernel
theorem dJ1_charAt_3b067_8 : decode cJ1_charAt_3b067 8 = .ok (.baload, 1) := by decide +kernel
theorem dJ1_charAt_3b067_9 : decode cJ1_charAt_3b067 9 = .ok (.sipush 255, 3) := by decide +kernel
theorem dJ1_charAt_3b067_12 : decode cJ1_charAt_3b067 12 = .ok (.iand, 1) := by decide +kernel
theorem dJ1_charAt_3b067_13 : decode cJ1_charAt_3b067 13 = .ok (.i2c, 1) := by decide +kernel
theorem dJ1_charAt_3b067_14 : decode cJ1_charAt_3b067 14 = .ok (.ireturn, 1) := by decide +kernel
theorem dJ2_getChar_3b067_0 : decode cJ2_getChar_3b067 0 = .ok (.getstatic 44, 3) := by decide +kernel
theorem dJ2_getChar_3b067_3 : decode cJ2_getChar_3b067 3 = .ok (.ifCond .ne 25, 3) := by decide +kernel
theorem dJ2_getChar_3b067_6 : decode cJ2_getChar_3b067 6 = .ok (.iload_n 1, 1) := by decide +kernel
theorem dJ2_getChar_3b067_7 : decode cJ2_getChar_3b067 7 = .ok (.ifCond .lt 11, 3) := by decide +kernel
theorem dJ2_getChar_3b067_10 : decode cJ2_getChar_3b067 10 = .ok (.iload_n 1, 1) := by decide +kernel
theorem dJ2_getChar_3b067_11 : decode cJ2_getChar_3b067 11 = .ok (.aload_n 0, 1) := by decide +kernel
theorem dJ2_getChar_3b067_12 : decode cJ2_getChar_3b067 12 = .ok (.invokestatic 48, 3) := by decide +kernel
theorem dJ2_getChar_3b067_15 : decode cJ2_getChar_3b067 15 = .ok (.if_icmp .lt 13, 3) := by decide +kernel
theorem dJ2_getChar_3b067_18 : decode cJ2_getChar_3b067 18 = .ok (.new 52, 3) := by decide +kernel
theorem dJ2_getChar_3b067_21 : decode cJ2_getChar_3b067 21 = .ok (.dup, 1) := by decide +kernel
theorem dJ2_getChar_3b067_22 : decode cJ2_getChar_3b067 22 = .ok (.ldc 54, 2) := by decide +kernel
theorem dJ2_getChar_3b067_24 : decode cJ2_getChar_3b067 24 = .ok (.invokespecial 56, 3) := by decide +kernel
theorem dJ2_getChar_3b067_27 : decode cJ2_getChar_3b067 27 = .ok (.athrow, 1) := by decide +kernel
theorem dJ2_getChar_3b067_28 : decode cJ2_getChar_3b067 28 = .ok (.iload_n 1, 1) := by decide +kernel
theorem dJ2_getChar_3b067_29 : decode cJ2_getChar_3b067 29 = .ok (.iconst 1, 1) := by decide +kernel
theorem dJ2_getChar_3b067_30 : decode cJ2_getChar_3b067 30 = .ok (.ishl, 1) := by decide +kernel
theorem dJ2_getChar_3b067_31 : decode cJ2_getChar_3b067 31 = .ok (.istore_n 1, 1) := by decide +kernel
theorem dJ2_getChar_3b067_32 : decode cJ2_getChar_3b067 32 = .ok (.aload_n 0, 1) := by decide +kernel
theorem dJ2_getChar_3b067_33 : decode cJ2_getChar_3b067 33 = .ok (.iload_n 1, 1) := by decide +kernel
theorem dJ2_getChar_3b067_34 : decode cJ2_getChar_3b067 34 = .ok (.iinc 1 1, 3) := by decide +kernel
theorem dJ2_getChar_3b067_37 : decode cJ2_getChar_3b067 37 = .ok (.baload, 1) := by decide +kernel
theorem dJ2_getChar_3b067_38 : decode cJ2_getChar_3b067 38 = .ok (.sipush 255, 3) := by decide +kernel
theorem dJ2_getChar_3b067_41 : decode cJ2_getChar_3b067 41 = .ok (.iand, 1) := by decide +kernel
theorem dJ2_getChar_3b067_42 : decode cJ2_getChar_3b067 42 = .ok (.getstatic 59, 3) := by decide +kernel
theorem dJ2_getChar_3b067_45 : decode cJ2_getChar_3b067 45 = .ok (.ishl, 1) := by decide +kernel
theorem dJ2_getChar_3b067_46 : decode cJ2_getChar_3b067 46 = .ok (.aload_n 0, 1) := by decide +kernel
theorem dJ2_getChar_3b067_47 : decode cJ2_getChar_3b067 47 = .ok (.iload_n 1, 1) := by decide +kernel
theorem dJ2_getChar_3b067_48 : decode cJ2_getChar_3b067 48 = .ok (.baload, 1) := by decide +kernel
theorem dJ2_getChar_3b067_49 : decode cJ2_getChar_3b067 49 = .ok (.sipush 255, 3) := by decide +kernel
theorem dJ2_getChar_3b067_52 : decode cJ2_getChar_3b067 52 = .ok (.iand, 1) := by decide +kernel
theorem dJ2_getChar_3b067_53 : decode cJ2_getChar_3b067 53 = .ok (.getstatic 63, 3) := by decide +kernel
theorem dJ2_getChar_3b067_56 : decode cJ2_getChar_3b067 56 = .ok (.ishl, 1) := by decide +kernel
theorem dJ2_getChar_3b067_57 : decode cJ2_getChar_3b067 57 = .ok (.ior, 1) := by decide +kernel
theorem dJ2_getChar_3b067_58 : decode cJ2_getChar_3b067 58 = .ok (.i2c, 1) := by decide +kernel
theorem dJ2_getChar_3b067_59 : decode cJ2_getChar_3b067 59 = .ok (.ireturn, 1) := by decide +kernel
theorem dJ2_length_9d52b_0 : decode cJ2_length_9d52b 0 = .ok (.aload_n 0, 1) := by decide +kernel
theorem dJ2_length_9d52b_1 : decode cJ2_length_9d52b 1 = .ok (.arraylength, 1) := by decide +kernel
theorem dJ2_length_9d52b_2 : decode cJ2_length_9d52b 2 = .ok (.iconst 1, 1) := by decide +kernel
theorem dJ2_length_9d52b_3 : decode cJ2_length_9d52b 3 = .ok (.ishr, 1) := by decide +kernel
theorem dJ2_length_9d52b_4 : decode cJ2_length_9d52b 4 = .ok (.ireturn, 1) := by decide +kernel
theorem dJ2_charAt_3b067_0 : decode cJ2_charAt_3b067 0 = .ok (.iload_n 1, 1) := by decide +kernel
theorem dJ2_charAt_3b067_1 : decode cJ2_charAt_3b067 1 = .ok (.aload_n 0, 1) := by decide +kernel
theorem dJ2_charAt_3b067_2 : decode cJ2_charAt_3b067 2 = .ok (.invokestatic 67, 3) := by decide +kernel
theorem dJ2_charAt_3b067_5 : decode cJ2_charAt_3b067 5 = .ok (.aload_n 0, 1) := by decide +kernel
theorem dJ2_charAt_3b067_6 : decode cJ2_charAt_3b067 6 = .ok (.iload_n 1, 1) := by decide +kernel
theorem dJ2_charAt_3b067_7 : decode cJ2_charAt_3b067 7 = .ok (.invokestatic 71, 3) := by decide +kernel
theorem dJ2_charAt_3b067_10 : decode cJ2_charAt_3b067 10 = .ok (.ireturn, 1) := by decide +kernel
theorem dJ2_checkIndex_2214a_0 : decode cJ2_checkIndex_2214a 0 = .ok (.iload_n 0, 1) := by decide +kernel
theorem dJ2_checkIndex_2214a_1 : decode cJ2_checkIndex_2214a 1 = .ok (.aload_n 1, 1) := by decide +kernel
theorem dJ2_checkIndex_2214a_2 : decode cJ2_checkIndex_2214a 2 = .ok (.invokestatic 48, 3) := by decide +kernel
theorem dJ2_checkIndex_2214a_5 : decode cJ2_checkIndex_2214a 5 = .ok (.invokestatic 414, 3) := by decide +kernel
theorem dJ2_checkIndex_2214a_8 : decode cJ2_checkIndex_2214a 8 = .ok (.return_, 1) := by decide +kernel
theorem dJ7_fill_53178_0 : decode cJ7_fill_53178 0 = .ok (.iconst 0, 1) := by decide +kernel
theorem dJ7_fill_53178_1 : decode cJ7_fill_53178 1 = .ok (.istore_n 2, 1) := by decide +kernel
theorem dJ7_fill_53178_2 : decode cJ7_fill_53178 2 = .ok (.aload_n 0, 1) := by decide +kernel
theorem dJ7_fill_53178_3 : decode cJ7_fill_53178 3 = .ok (.arraylength, 1) := by decide +kernel
theorem dJ7_fill_53178_4 : decode cJ7_fill_53178 4 = .ok (.istore_n 3, 1) := by decide +kernel
theorem dJ7_fill_53178_5 : decode cJ7_fill_53178 5 = .ok (.iload_n 2, 1) := by decide +kernel
theorem dJ7_fill_53178_6 : decode cJ7_fill_53178 6 = .ok (.iload_n 3, 1) := by decide +kernel
theorem dJ7_fill_53178_7 : decode cJ7_fill_53178 7 = .ok (.if_icmp .ge 13, 3) := by decide +kernel
theorem dJ7_fill_53178_10 : decode cJ7_fill_53178 10 = .ok (.aload_n 0, 1) := by decide +kernel
theorem dJ7_fill_53178_11 : decode cJ7_fill_53178 11 = .ok (.iload_n 2, 1) := by decide +kernel
theorem dJ7_fill_53178_12 : decode cJ7_fill_53178 12 = .ok (.iload_n 1, 1) := by decide +kernel
theorem dJ7_fill_53178_13 : decode cJ7_fill_53178 13 = .ok (.iastore, 1) := by decide +kernel
theorem dJ7_fill_53178_14 : decode cJ7_fill_53178 14 = .ok (.iinc 2 1, 3) := by decide +kernel
theorem dJ7_fill_53178_17 : decode cJ7_fill_53178 17 = .ok (.goto (-12), 3) := by decide +kernel
theorem dJ7_fill_53178_20 : decode cJ7_fill_53178 20 = .ok (.return_, 1) := by decide +kernel
theorem dJ3_checkIndex_8e157_0 : decode cJ3_checkIndex_8e157 0 = .ok (.iload_n 0, 1) := by decide +kernel
theorem dJ3_checkIndex_8e157_1 : decode cJ3_checkIndex_8e157 1 = .ok (.ifCond .lt 8, 3) := by decide +kernel
theorem dJ3_checkIndex_8e157_4 : decode cJ3_checkIndex_8e157 4 = .ok (.iload_n 0, 1) := by decide +kernel
theorem dJ3_checkIndex_8e157_5 : decode cJ3_checkIndex_8e157 5 = .ok (.iload_n 1, 1) := by decide +kernel
theorem dJ3_checkIndex_8e157_6 : decode cJ3_checkIndex_8e157 6 = .ok (.if_icmp .lt 10, 3) := by decide +kernel
theorem dJ3_checkIndex_8e157_9 : decode cJ3_checkIndex_8e157 9 = .ok (.aload_n 2, 1) := by decide +kernel
theorem dJ3_checkIndex_8e157_10 : decode cJ3_checkIndex_8e157 10 = .ok (.iload_n 0, 1) := by decide +kernel
theorem dJ3_checkIndex_8e157_11 : decode cJ3_checkIndex_8e157 11 = .ok (.iload_n 1, 1) := by decide +kernel
theorem dJ3_checkIndex_8e157_12 : decode cJ3_checkIndex_8e157 12 = .ok (.invokestatic 95, 3) := by decide +kernel
theorem dJ3_checkIndex_8e157_15 : decode cJ3_checkIndex_8e157 15 = .ok (.athrow, 1) := by decide +kernel
theorem dJ3_checkIndex_8e157_16 : decode cJ3_checkIndex_8e157 16 = .ok (.iload_n 0, 1) := by decide +kernel
theorem dJ3_checkIndex_8e157_17 : decode cJ3_checkIndex_8e157 17 = .ok (.ireturn, 1) := by decide +kernel
theorem dL_law_0 : decode cL_law 0 = .ok (.new 7, 3) := by decide +kernel
theorem dL_law_3 : decode cL_law 3 = .ok (.dup, 1) := by decide +kernel
theorem dL_law_4 : decode cL_law 4 = .ok (.invokespecial 9, 3) := by decide +kernel
theorem dL_law_7 : decode cL_law 7 = .ok (.astore_n 1, 1) := by decide +kernel
theorem dL_law_8 : decode cL_law 8 = .ok (.new 10, 3) := by decide +kernel
theorem dL_law_11 : decode cL_law 11 = .ok (.dup, 1) := by decide +kernel
theorem dL_law_12 : decode cL_law 12 = .ok (.invokespecial 12, 3) := by decide +kernel
theorem dL_law_15 : decode cL_law 15 = .ok (.astore_n 2, 1) := by decide +kernel
theorem dL_law_16 : decode cL_law 16 = .ok (.iconst 0, 1) := by decide +kernel
theorem dL_law_17 : decode cL_law 17 = .ok (.istore_n 3, 1) := by decide +kernel
theorem dL_law_18 : decode cL_law 18 = .ok (.iload_n 3, 1) := by decide +kernel
theorem dL_law_19 : decode cL_law 19 = .ok (.aload_n 0, 1) := by decide +kernel
theorem dL_law_20 : decode cL_law 20 = .ok (.arraylength, 1) := by decide +kernel
theorem dL_law_21 : decode cL_law 21 = .ok (.bipush 6, 2) := by decide +kernel
theorem dL_law_23 : decode cL_law 23 = .ok (.isub, 1) := by decide +kernel
theorem dL_law_24 : decode cL_law 24 = .ok (.if_icmp .gt 565, 3) := by decide +kernel
theorem dL_law_27 : decode cL_law 27 = .ok (.aload_n 0, 1) := by decide +kernel
theorem dL_law_28 : decode cL_law 28 = .ok (.iload_n 3, 1) := by decide +kernel
theorem dL_law_29 : decode cL_law 29 = .ok (.iaload, 1) := by decide +kernel
theorem dL_law_30 : decode cL_law 30 = .ok (.bipush 31, 2) := by decide +kernel
theorem dL_law_32 : decode cL_law 32 = .ok (.iand, 1) := by decide +kernel
theorem dL_law_33 : decode cL_law 33 = .ok (.tableswitch 550 0 16 #[83, 136, 199, 222, 235, 248, 271, 294, 307, 320, 343, 386, 419, 468, 491, 514, 537], 83) := by decide +kernel
theorem dL_law_116 : decode cL_law 116 = .ok (.aload_n 1, 1) := by decide +kernel
theorem dL_law_117 : decode cL_law 117 = .ok (.aload_n 0, 1) := by decide +kernel
theorem dL_law_118 : decode cL_law 118 = .ok (.iload_n 3, 1) := by decide +kernel
theorem dL_law_119 : decode cL_law 119 = .ok (.iconst 1, 1) := by decide +kernel
theorem dL_law_120 : decode cL_law 120 = .ok (.iadd, 1) := by decide +kernel
theorem dL_law_121 : decode cL_law 121 = .ok (.iaload, 1) := by decide +kernel
theorem dL_law_122 : decode cL_law 122 = .ok (.aload_n 0, 1) := by decide +kernel
theorem dL_law_123 : decode cL_law 123 = .ok (.iload_n 3, 1) := by decide +kernel
theorem dL_law_124 : decode cL_law 124 = .ok (.iconst 2, 1) := by decide +kernel
theorem dL_law_125 : decode cL_law 125 = .ok (.iadd, 1) := by decide +kernel
theorem dL_law_126 : decode cL_law 126 = .ok (.iaload, 1) := by decide +kernel
theorem dL_law_127 : decode cL_law 127 = .ok (.aload_n 0, 1) := by decide +kernel
theorem dL_law_128 : decode cL_law 128 = .ok (.iload_n 3, 1) := by decide +kernel
theorem dL_law_129 : decode cL_law 129 = .ok (.iconst 3, 1) := by decide +kernel
theorem dL_law_130 : decode cL_law 130 = .ok (.iadd, 1) := by decide +kernel
theorem dL_law_131 : decode cL_law 131 = .ok (.iaload, 1) := by decide +kernel
theorem dL_law_132 : decode cL_law 132 = .ok (.aload_n 0, 1) := by decide +kernel
theorem dL_law_133 : decode cL_law 133 = .ok (.iload_n 3, 1) := by decide +kernel
theorem dL_law_134 : decode cL_law 134 = .ok (.iconst 4, 1) := by decide +kernel
theorem dL_law_135 : decode cL_law 135 = .ok (.iadd, 1) := by decide +kernel
theorem dL_law_136 : decode cL_law 136 = .ok (.iaload, 1) := by decide +kernel
theorem dL_law_137 : decode cL_law 137 = .ok (.invokevirtual 13, 3) := by decide +kernel
theorem dL_law_140 : decode cL_law 140 = .ok (.aload_n 2, 1) := by decide +kernel
theorem dL_law_141 : decode cL_law 141 = .ok (.aload_n 0, 1) := by decide +kernel
theorem dL_law_142 : decode cL_law 142 = .ok (.iload_n 3, 1) := by decide +kernel
theorem dL_law_143 : decode cL_law 143 = .ok (.iconst 1, 1) := by decide +kernel
theorem dL_law_144 : decode cL_law 144 = .ok (.iadd, 1) := by decide +kernel
theorem dL_law_145 : decode cL_law 145 = .ok (.iaload, 1) := by decide +kernel
theorem dL_law_146 : decode cL_law 146 = .ok (.aload_n 0, 1) := by decide +kernel
theorem dL_law_147 : decode cL_law 147 = .ok (.iload_n 3, 1) := by decide +kernel
theorem dL_law_148 : decode cL_law 148 = .ok (.iconst 2, 1) := by decide +kernel
theorem dL_law_149 : decode cL_law 149 = .ok (.iadd, 1) := by decide +kernel
theorem dL_law_150 : decode cL_law 150 = .ok (.iaload, 1) := by decide +kernel
theorem dL_law_151 : decode cL_law 151 = .ok (.aload_n 0, 1) := by decide +kernel
theorem dL_law_152 : decode cL_law 152 = .ok (.iload_n 3, 1) := by decide +kernel
theorem dL_law_153 : decode cL_law 153 = .ok (.iconst 3, 1) := by decide +kernel
theorem dL_law_154 : decode cL_law 154 = .ok (.iadd, 1) := by decide +kernel
theorem dL_law_155 : decode cL_law 155 = .ok (.iaload, 1) := by decide +kernel
theorem dL_law_156 : decode cL_law 156 = .ok (.aload_n 0, 1) := by decide +kernel
theorem dL_law_157 : decode cL_law 157 = .ok (.iload_n 3, 1) := by decide +kernel
theorem dL_law_158 : decode cL_law 158 = .ok (.iconst 4, 1) := by decide +kernel
theorem dL_law_159 : decode cL_law 159 = .ok (.iadd, 1) := by decide +kernel
theorem dL_law_160 : decode cL_law 160 = .ok (.iaload, 1) := by decide +kernel
theorem dL_law_161 : decode cL_law 161 = .ok (.invokevirtual 17, 3) := by decide +kernel
theorem dL_law_164 : decode cL_law 164 = .ok (.if_icmp .eq 419, 3) := by decide +kernel
theorem dL_law_167 : decode cL_law 167 = .ok (.iconst 0, 1) := by decide +kernel
theorem dL_law_168 : decode cL_law 168 = .ok (.ireturn, 1) := by decide +kernel
theorem dL_law_169 : decode cL_law 169 = .ok (.aload_n 1, 1) := by decide +kernel
theorem dL_law_170 : decode cL_law 170 = .ok (.aload_n 0, 1) := by decide +kernel
theorem dL_law_171 : decode cL_law 171 = .ok (.iload_n 3, 1) := by decide +kernel
theorem dL_law_172 : decode cL_law 172 = .ok (.iconst 1, 1) := by decide +kernel
theorem dL_law_173 : decode cL_law 173 = .ok (.iadd, 1) := by decide +kernel
theorem dL_law_174 : decode cL_law 174 = .ok (.iaload, 1) := by decide +kernel
theorem dL_law_175 : decode cL_law 175 = .ok (.aload_n 0, 1) := by decide +kernel
theorem dL_law_176 : decode cL_law 176 = .ok (.iload_n 3, 1) := by decide +kernel
theorem dL_law_177 : decode cL_law 177 = .ok (.iconst 2, 1) := by decide +kernel
theorem dL_law_178 : decode cL_law 178 = .ok (.iadd, 1) := by decide +kernel
theorem dL_law_179 : decode cL_law 179 = .ok (.iaload, 1) := by decide +kernel
theorem dL_law_180 : decode cL_law 180 = .ok (.aload_n 0, 1) := by decide +kernel
theorem dL_law_181 : decode cL_law 181 = .ok (.iload_n 3, 1) := by decide +kernel
theorem dL_law_182 : decode cL_law 182 = .ok (.iconst 3, 1) := by decide +kernel
theorem dL_law_183 : decode cL_law 183 = .ok (.iadd, 1) := by decide +kernel
theorem dL_law_184 : decode cL_law 184 = .ok (.iaload, 1) := by decide +kernel
theorem dL_law_185 : decode cL_law 185 = .ok (.aload_n 0, 1) := by decide +kernel
theorem dL_law_186 : decode cL_law 186 = .ok (.iload_n 3, 1) := by decide +kernel
theorem dL_law_187 : decode cL_law 187 = .ok (.iconst 4, 1) := by decide +kernel
theorem dL_law_188 : decode cL_law 188 = .ok (.iadd, 1) := by decide +kernel
theorem dL_law_189 : decode cL_law 189 = .ok (.iaload, 1) := by decide +kernel
theorem dL_law_190 : decode cL_law 190 = .ok (.aload_n 0, 1) := by decide +kernel
theorem dL_law_191 : decode cL_law 191 = .ok (.iload_n 3, 1) := by decide +kernel
theorem dL_law_192 : decode cL_law 192 = .ok (.iconst 5, 1) := by decide +kernel
theorem dL_law_193 : decode cL_law 193 = .ok (.iadd, 1) := by decide +kernel
theorem dL_law_194 : decode cL_law 194 = .ok (.iaload, 1) := by decide +kernel
theorem dL_law_195 : decode cL_law 195 = .ok (.invokevirtual 18, 3) := by decide +kernel
theorem dL_law_198 : decode cL_law 198 = .ok (.aload_n 2, 1) := by decide +kernel
theorem dL_law_199 : decode cL_law 199 = .ok (.aload_n 0, 1) := by decide +kernel
theorem dL_law_200 : decode cL_law 200 = .ok (.iload_n 3, 1) := by decide +kernel
theorem dL_law_201 : decode cL_law 201 = .ok (.iconst 1, 1) := by decide +kernel
theorem dL_law_202 : decode cL_law 202 = .ok (.iadd, 1) := by decide +kernel
theorem dL_law_203 : decode cL_law 203 = .ok (.iaload, 1) := by decide +kernel
theorem dL_law_204 : decode cL_law 204 = .ok (.aload_n 0, 1) := by decide +kernel
theorem dL_law_205 : decode cL_law 205 = .ok (.iload_n 3, 1) := by decide +kernel
theorem dL_law_206 : decode cL_law 206 = .ok (.iconst 2, 1) := by decide +kernel
theorem dL_law_207 : decode cL_law 207 = .ok (.iadd, 1) := by decide +kernel
theorem dL_law_208 : decode cL_law 208 = .ok (.iaload, 1) := by decide +kernel
theorem dL_law_209 : decode cL_law 209 = .ok (.aload_n 0, 1) := by decide +kernel
theorem dL_law_210 : decode cL_law 210 = .ok (.iload_n 3, 1) := by decide +kernel
theorem dL_law_211 : decode cL_law 211 = .ok (.iconst 3, 1) := by decide +kernel
theorem dL_law_212 : decode cL_law 212 = .ok (.iadd, 1) := by decide +kernel
theorem dL_law_213 : decode cL_law 213 = .ok (.iaload, 1) := by decide +kernel
theorem dL_law_214 : decode cL_law 214 = .ok (.aload_n 0, 1) := by decide +kernel
theorem dL_law_215 : decode cL_law 215 = .ok (.iload_n 3, 1) := by decide +kernel
theorem dL_law_216 : decode cL_law 216 = .ok (.iconst 4, 1) := by decide +kernel
theorem dL_law_217 : decode cL_law 217 = .ok (.iadd, 1) := by decide +kernel
theorem dL_law_218 : decode cL_law 218 = .ok (.iaload, 1) := by decide +kernel
theorem dL_law_219 : decode cL_law 219 = .ok (.aload_n 0, 1) := by decide +kernel
theorem dL_law_220 : decode cL_law 220 = .ok (.iload_n 3, 1) := by decide +kernel
theorem dL_law_221 : decode cL_law 221 = .ok (.iconst 5, 1) := by decide +kernel
theorem dL_law_222 : decode cL_law 222 = .ok (.iadd, 1) := by decide +kernel
theorem dL_law_223 : decode cL_law 223 = .ok (.iaload, 1) := by decide +kernel
theorem dL_law_224 : decode cL_law 224 = .ok (.invokevirtual 22, 3) := by decide +kernel
theorem dL_law_227 : decode cL_law 227 = .ok (.if_icmp .eq 356, 3) := by decide +kernel
theorem dL_law_230 : decode cL_law 230 = .ok (.iconst 0, 1) := by decide +kernel
theorem dL_law_231 : decode cL_law 231 = .ok (.ireturn, 1) := by decide +kernel
theorem dL_law_232 : decode cL_law 232 = .ok (.aload_n 1, 1) := by decide +kernel
theorem dL_law_233 : decode cL_law 233 = .ok (.aload_n 0, 1) := by decide +kernel
theorem dL_law_234 : decode cL_law 234 = .ok (.iload_n 3, 1) := by decide +kernel
theorem dL_law_235 : decode cL_law 235 = .ok (.iconst 1, 1) := by decide +kernel
theorem dL_law_236 : decode cL_law 236 = .ok (.iadd, 1) := by decide +kernel
theorem dL_law_237 : decode cL_law 237 = .ok (.iaload, 1) := by decide +kernel
theorem dL_law_238 : decode cL_law 238 = .ok (.invokevirtual 23, 3) := by decide +kernel
theorem dL_law_241 : decode cL_law 241 = .ok (.aload_n 2, 1) := by decide +kernel
theorem dL_law_242 : decode cL_law 242 = .ok (.aload_n 0, 1) := by decide +kernel
theorem dL_law_243 : decode cL_law 243 = .ok (.iload_n 3, 1) := by decide +kernel
theorem dL_law_244 : decode cL_law 244 = .ok (.iconst 1, 1) := by decide +kernel
theorem dL_law_245 : decode cL_law 245 = .ok (.iadd, 1) := by decide +kernel
theorem dL_law_246 : decode cL_law 246 = .ok (.iaload, 1) := by decide +kernel
theorem dL_law_247 : decode cL_law 247 = .ok (.invokevirtual 27, 3) := by decide +kernel
theorem dL_law_250 : decode cL_law 250 = .ok (.if_icmp .eq 333, 3) := by decide +kernel
theorem dL_law_253 : decode cL_law 253 = .ok (.iconst 0, 1) := by decide +kernel
theorem dL_law_254 : decode cL_law 254 = .ok (.ireturn, 1) := by decide +kernel
theorem dL_law_255 : decode cL_law 255 = .ok (.aload_n 1, 1) := by decide +kernel
theorem dL_law_256 : decode cL_law 256 = .ok (.invokevirtual 28, 3) := by decide +kernel
theorem dL_law_259 : decode cL_law 259 = .ok (.aload_n 2, 1) := by decide +kernel
theorem dL_law_260 : decode cL_law 260 = .ok (.invokevirtual 32, 3) := by decide +kernel
theorem dL_law_263 : decode cL_law 263 = .ok (.if_icmp .eq 320, 3) := by decide +kernel
theorem dL_law_266 : decode cL_law 266 = .ok (.iconst 0, 1) := by decide +kernel
theorem dL_law_267 : decode cL_law 267 = .ok (.ireturn, 1) := by decide +kernel
theorem dL_law_268 : decode cL_law 268 = .ok (.aload_n 1, 1) := by decide +kernel
theorem dL_law_269 : decode cL_law 269 = .ok (.invokevirtual 33, 3) := by decide +kernel
theorem dL_law_272 : decode cL_law 272 = .ok (.aload_n 2, 1) := by decide +kernel
theorem dL_law_273 : decode cL_law 273 = .ok (.invokevirtual 36, 3) := by decide +kernel
theorem dL_law_276 : decode cL_law 276 = .ok (.if_icmp .eq 307, 3) := by decide +kernel
theorem dL_law_279 : decode cL_law 279 = .ok (.iconst 0, 1) := by decide +kernel
theorem dL_law_280 : decode cL_law 280 = .ok (.ireturn, 1) := by decide +kernel
theorem dL_law_281 : decode cL_law 281 = .ok (.aload_n 1, 1) := by decide +kernel
theorem dL_law_282 : decode cL_law 282 = .ok (.aload_n 0, 1) := by decide +kernel
theorem dL_law_283 : decode cL_law 283 = .ok (.iload_n 3, 1) := by decide +kernel
theorem dL_law_284 : decode cL_law 284 = .ok (.iconst 1, 1) := by decide +kernel
theorem dL_law_285 : decode cL_law 285 = .ok (.iadd, 1) := by decide +kernel
theorem dL_law_286 : decode cL_law 286 = .ok (.iaload, 1) := by decide +kernel
theorem dL_law_287 : decode cL_law 287 = .ok (.invokevirtual 37, 3) := by decide +kernel
theorem dL_law_290 : decode cL_law 290 = .ok (.aload_n 2, 1) := by decide +kernel
theorem dL_law_291 : decode cL_law 291 = .ok (.aload_n 0, 1) := by decide +kernel
theorem dL_law_292 : decode cL_law 292 = .ok (.iload_n 3, 1) := by decide +kernel
theorem dL_law_293 : decode cL_law 293 = .ok (.iconst 1, 1) := by decide +kernel
theorem dL_law_294 : decode cL_law 294 = .ok (.iadd, 1) := by decide +kernel
theorem dL_law_295 : decode cL_law 295 = .ok (.iaload, 1) := by decide +kernel
theorem dL_law_296 : decode cL_law 296 = .ok (.invokevirtual 40, 3) := by decide +kernel
theorem dL_law_299 : decode cL_law 299 = .ok (.if_icmp .eq 284, 3) := by decide +kernel
theorem dL_law_302 : decode cL_law 302 = .ok (.iconst 0, 1) := by decide +kernel
theorem dL_law_303 : decode cL_law 303 = .ok (.ireturn, 1) := by decide +kernel
theorem dL_law_304 : decode cL_law 304 = .ok (.aload_n 1, 1) := by decide +kernel
theorem dL_law_305 : decode cL_law 305 = .ok (.aload_n 0, 1) := by decide +kernel
theorem dL_law_306 : decode cL_law 306 = .ok (.iload_n 3, 1) := by decide +kernel
theorem dL_law_307 : decode cL_law 307 = .ok (.iconst 1, 1) := by decide +kernel
theorem dL_law_308 : decode cL_law 308 = .ok (.iadd, 1) := by decide +kernel
theorem dL_law_309 : decode cL_law 309 = .ok (.iaload, 1) := by decide +kernel
theorem dL_law_310 : decode cL_law 310 = .ok (.invokevirtual 41, 3) := by decide +kernel
theorem dL_law_313 : decode cL_law 313 = .ok (.aload_n 2, 1) := by decide +kernel
theorem dL_law_314 : decode cL_law 314 = .ok (.aload_n 0, 1) := by decide +kernel
theorem dL_law_315 : decode cL_law 315 = .ok (.iload_n 3, 1) := by decide +kernel
theorem dL_law_316 : decode cL_law 316 = .ok (.iconst 1, 1) := by decide +kernel
theorem dL_law_317 : decode cL_law 317 = .ok (.iadd, 1) := by decide +kernel
theorem dL_law_318 : decode cL_law 318 = .ok (.iaload, 1) := by decide +kernel
theorem dL_law_319 : decode cL_law 319 = .ok (.invokevirtual 44, 3) := by decide +kernel
theorem dL_law_322 : decode cL_law 322 = .ok (.if_icmp .eq 261, 3) := by decide +kernel
theorem dL_law_325 : decode cL_law 325 = .ok (.iconst 0, 1) := by decide +kernel
theorem dL_law_326 : decode cL_law 326 = .ok (.ireturn, 1) := by decide +kernel
theorem dL_law_327 : decode cL_law 327 = .ok (.aload_n 1, 1) := by decide +kernel
theorem dL_law_328 : decode cL_law 328 = .ok (.invokevirtual 45, 3) := by decide +kernel
theorem dL_law_331 : decode cL_law 331 = .ok (.aload_n 2, 1) := by decide +kernel
theorem dL_law_332 : decode cL_law 332 = .ok (.invokevirtual 48, 3) := by decide +kernel
theorem dL_law_335 : decode cL_law 335 = .ok (.if_icmp .eq 248, 3) := by decide +kernel
theorem dL_law_338 : decode cL_law 338 = .ok (.iconst 0, 1) := by decide +kernel
theorem dL_law_339 : decode cL_law 339 = .ok (.ireturn, 1) := by decide +kernel
theorem dL_law_340 : decode cL_law 340 = .ok (.aload_n 1, 1) := by decide +kernel
theorem dL_law_341 : decode cL_law 341 = .ok (.invokevirtual 49, 3) := by decide +kernel
theorem dL_law_344 : decode cL_law 344 = .ok (.aload_n 2, 1) := by decide +kernel
theorem dL_law_345 : decode cL_law 345 = .ok (.invokevirtual 52, 3) := by decide +kernel
theorem dL_law_348 : decode cL_law 348 = .ok (.if_icmp .eq 235, 3) := by decide +kernel
theorem dL_law_351 : decode cL_law 351 = .ok (.iconst 0, 1) := by decide +kernel
theorem dL_law_352 : decode cL_law 352 = .ok (.ireturn, 1) := by decide +kernel
theorem dL_law_353 : decode cL_law 353 = .ok (.aload_n 1, 1) := by decide +kernel
theorem dL_law_354 : decode cL_law 354 = .ok (.aload_n 0, 1) := by decide +kernel
theorem dL_law_355 : decode cL_law 355 = .ok (.iload_n 3, 1) := by decide +kernel
theorem dL_law_356 : decode cL_law 356 = .ok (.iconst 1, 1) := by decide +kernel
theorem dL_law_357 : decode cL_law 357 = .ok (.iadd, 1) := by decide +kernel
theorem dL_law_358 : decode cL_law 358 = .ok (.iaload, 1) := by decide +kernel
theorem dL_law_359 : decode cL_law 359 = .ok (.invokevirtual 53, 3) := by decide +kernel
theorem dL_law_362 : decode cL_law 362 = .ok (.aload_n 2, 1) := by decide +kernel
theorem dL_law_363 : decode cL_law 363 = .ok (.aload_n 0, 1) := by decide +kernel
theorem dL_law_364 : decode cL_law 364 = .ok (.iload_n 3, 1) := by decide +kernel
theorem dL_law_365 : decode cL_law 365 = .ok (.iconst 1, 1) := by decide +kernel
theorem dL_law_366 : decode cL_law 366 = .ok (.iadd, 1) := by decide +kernel
theorem dL_law_367 : decode cL_law 367 = .ok (.iaload, 1) := by decide +kernel
theorem dL_law_368 : decode cL_law 368 = .ok (.invokevirtual 56, 3) := by decide +kernel
theorem dL_law_371 : decode cL_law 371 = .ok (.if_icmp .eq 212, 3) := by decide +kernel
theorem dL_law_374 : decode cL_law 374 = .ok (.iconst 0, 1) := by decide +kernel
theorem dL_law_375 : decode cL_law 375 = .ok (.ireturn, 1) := by decide +kernel
theorem dL_law_376 : decode cL_law 376 = .ok (.aload_n 1, 1) := by decide +kernel
theorem dL_law_377 : decode cL_law 377 = .ok (.aload_n 0, 1) := by decide +kernel
theorem dL_law_378 : decode cL_law 378 = .ok (.iload_n 3, 1) := by decide +kernel
theorem dL_law_379 : decode cL_law 379 = .ok (.iconst 1, 1) := by decide +kernel
theorem dL_law_380 : decode cL_law 380 = .ok (.iadd, 1) := by decide +kernel
theorem dL_law_381 : decode cL_law 381 = .ok (.iaload, 1) := by decide +kernel
theorem dL_law_382 : decode cL_law 382 = .ok (.aload_n 0, 1) := by decide +kernel
theorem dL_law_383 : decode cL_law 383 = .ok (.iload_n 3, 1) := by decide +kernel
theorem dL_law_384 : decode cL_law 384 = .ok (.iconst 2, 1) := by decide +kernel
theorem dL_law_385 : decode cL_law 385 = .ok (.iadd, 1) := by decide +kernel
theorem dL_law_386 : decode cL_law 386 = .ok (.iaload, 1) := by decide +kernel
theorem dL_law_387 : decode cL_law 387 = .ok (.aload_n 0, 1) := by decide +kernel
theorem dL_law_388 : decode cL_law 388 = .ok (.iload_n 3, 1) := by decide +kernel
theorem dL_law_389 : decode cL_law 389 = .ok (.iconst 3, 1) := by decide +kernel
theorem dL_law_390 : decode cL_law 390 = .ok (.iadd, 1) := by decide +kernel
theorem dL_law_391 : decode cL_law 391 = .ok (.iaload, 1) := by decide +kernel
theorem dL_law_392 : decode cL_law 392 = .ok (.invokevirtual 57, 3) := by decide +kernel
theorem dL_law_395 : decode cL_law 395 = .ok (.aload_n 2, 1) := by decide +kernel
theorem dL_law_396 : decode cL_law 396 = .ok (.aload_n 0, 1) := by decide +kernel
theorem dL_law_397 : decode cL_law 397 = .ok (.iload_n 3, 1) := by decide +kernel
theorem dL_law_398 : decode cL_law 398 = .ok (.iconst 1, 1) := by decide +kernel
theorem dL_law_399 : decode cL_law 399 = .ok (.iadd, 1) := by decide +kernel
theorem dL_law_400 : decode cL_law 400 = .ok (.iaload, 1) := by decide +kernel
theorem dL_law_401 : decode cL_law 401 = .ok (.aload_n 0, 1) := by decide +kernel
theorem dL_law_402 : decode cL_law 402 = .ok (.iload_n 3, 1) := by decide +kernel
theorem dL_law_403 : decode cL_law 403 = .ok (.iconst 2, 1) := by decide +kernel
theorem dL_law_404 : decode cL_law 404 = .ok (.iadd, 1) := by decide +kernel
theorem dL_law_405 : decode cL_law 405 = .ok (.iaload, 1) := by decide +kernel
theorem dL_law_406 : decode cL_law 406 = .ok (.aload_n 0, 1) := by decide +kernel
theorem dL_law_407 : decode cL_law 407 = .ok (.iload_n 3, 1) := by decide +kernel
theorem dL_law_408 : decode cL_law 408 = .ok (.iconst 3, 1) := by decide +kernel
theorem dL_law_409 : decode cL_law 409 = .ok (.iadd, 1) := by decide +kernel
theorem dL_law_410 : decode cL_law 410 = .ok (.iaload, 1) := by decide +kernel
theorem dL_law_411 : decode cL_law 411 = .ok (.invokevirtual 61, 3) := by decide +kernel
theorem dL_law_414 : decode cL_law 414 = .ok (.if_icmp .eq 169, 3) := by decide +kernel
theorem dL_law_417 : decode cL_law 417 = .ok (.iconst 0, 1) := by decide +kernel
theorem dL_law_418 : decode cL_law 418 = .ok (.ireturn, 1) := by decide +kernel
theorem dL_law_419 : decode cL_law 419 = .ok (.aload_n 1, 1) := by decide +kernel
theorem dL_law_420 : decode cL_law 420 = .ok (.aload_n 0, 1) := by decide +kernel
theorem dL_law_421 : decode cL_law 421 = .ok (.iload_n 3, 1) := by decide +kernel
theorem dL_law_422 : decode cL_law 422 = .ok (.iconst 1, 1) := by decide +kernel
theorem dL_law_423 : decode cL_law 423 = .ok (.iadd, 1) := by decide +kernel
theorem dL_law_424 : decode cL_law 424 = .ok (.iaload, 1) := by decide +kernel
theorem dL_law_425 : decode cL_law 425 = .ok (.aload_n 0, 1) := by decide +kernel
theorem dL_law_426 : decode cL_law 426 = .ok (.iload_n 3, 1) := by decide +kernel
theorem dL_law_427 : decode cL_law 427 = .ok (.iconst 2, 1) := by decide +kernel
theorem dL_law_428 : decode cL_law 428 = .ok (.iadd, 1) := by decide +kernel
theorem dL_law_429 : decode cL_law 429 = .ok (.iaload, 1) := by decide +kernel
theorem dL_law_430 : decode cL_law 430 = .ok (.invokevirtual 62, 3) := by decide +kernel
theorem dL_law_433 : decode cL_law 433 = .ok (.aload_n 2, 1) := by decide +kernel
theorem dL_law_434 : decode cL_law 434 = .ok (.aload_n 0, 1) := by decide +kernel
theorem dL_law_435 : decode cL_law 435 = .ok (.iload_n 3, 1) := by decide +kernel
theorem dL_law_436 : decode cL_law 436 = .ok (.iconst 1, 1) := by decide +kernel
theorem dL_law_437 : decode cL_law 437 = .ok (.iadd, 1) := by decide +kernel
theorem dL_law_438 : decode cL_law 438 = .ok (.iaload, 1) := by decide +kernel
theorem dL_law_439 : decode cL_law 439 = .ok (.aload_n 0, 1) := by decide +kernel
theorem dL_law_440 : decode cL_law 440 = .ok (.iload_n 3, 1) := by decide +kernel
theorem dL_law_441 : decode cL_law 441 = .ok (.iconst 2, 1) := by decide +kernel
theorem dL_law_442 : decode cL_law 442 = .ok (.iadd, 1) := by decide +kernel
theorem dL_law_443 : decode cL_law 443 = .ok (.iaload, 1) := by decide +kernel
theorem dL_law_444 : decode cL_law 444 = .ok (.invokevirtual 66, 3) := by decide +kernel
theorem dL_law_447 : decode cL_law 447 = .ok (.if_icmp .eq 136, 3) := by decide +kernel
theorem dL_law_450 : decode cL_law 450 = .ok (.iconst 0, 1) := by decide +kernel
theorem dL_law_451 : decode cL_law 451 = .ok (.ireturn, 1) := by decide +kernel
theorem dL_law_452 : decode cL_law 452 = .ok (.aload_n 1, 1) := by decide +kernel
theorem dL_law_453 : decode cL_law 453 = .ok (.aload_n 0, 1) := by decide +kernel
theorem dL_law_454 : decode cL_law 454 = .ok (.iload_n 3, 1) := by decide +kernel
theorem dL_law_455 : decode cL_law 455 = .ok (.iconst 1, 1) := by decide +kernel
theorem dL_law_456 : decode cL_law 456 = .ok (.iadd, 1) := by decide +kernel
theorem dL_law_457 : decode cL_law 457 = .ok (.iaload, 1) := by decide +kernel
theorem dL_law_458 : decode cL_law 458 = .ok (.aload_n 0, 1) := by decide +kernel
theorem dL_law_459 : decode cL_law 459 = .ok (.iload_n 3, 1) := by decide +kernel
theorem dL_law_460 : decode cL_law 460 = .ok (.iconst 2, 1) := by decide +kernel
theorem dL_law_461 : decode cL_law 461 = .ok (.iadd, 1) := by decide +kernel
theorem dL_law_462 : decode cL_law 462 = .ok (.iaload, 1) := by decide +kernel
theorem dL_law_463 : decode cL_law 463 = .ok (.ifCond .eq 7, 3) := by decide +kernel
theorem dL_law_466 : decode cL_law 466 = .ok (.iconst 1, 1) := by decide +kernel
theorem dL_law_467 : decode cL_law 467 = .ok (.goto 4, 3) := by decide +kernel
theorem dL_law_470 : decode cL_law 470 = .ok (.iconst 0, 1) := by decide +kernel
theorem dL_law_471 : decode cL_law 471 = .ok (.invokevirtual 67, 3) := by decide +kernel
theorem dL_law_474 : decode cL_law 474 = .ok (.aload_n 2, 1) := by decide +kernel
theorem dL_law_475 : decode cL_law 475 = .ok (.aload_n 0, 1) := by decide +kernel
theorem dL_law_476 : decode cL_law 476 = .ok (.iload_n 3, 1) := by decide +kernel
theorem dL_law_477 : decode cL_law 477 = .ok (.iconst 1, 1) := by decide +kernel
theorem dL_law_478 : decode cL_law 478 = .ok (.iadd, 1) := by decide +kernel
theorem dL_law_479 : decode cL_law 479 = .ok (.iaload, 1) := by decide +kernel
theorem dL_law_480 : decode cL_law 480 = .ok (.aload_n 0, 1) := by decide +kernel
theorem dL_law_481 : decode cL_law 481 = .ok (.iload_n 3, 1) := by decide +kernel
theorem dL_law_482 : decode cL_law 482 = .ok (.iconst 2, 1) := by decide +kernel
theorem dL_law_483 : decode cL_law 483 = .ok (.iadd, 1) := by decide +kernel
theorem dL_law_484 : decode cL_law 484 = .ok (.iaload, 1) := by decide +kernel
theorem dL_law_485 : decode cL_law 485 = .ok (.ifCond .eq 7, 3) := by decide +kernel
theorem dL_law_488 : decode cL_law 488 = .ok (.iconst 1, 1) := by decide +kernel
theorem dL_law_489 : decode cL_law 489 = .ok (.goto 4, 3) := by decide +kernel
theorem dL_law_492 : decode cL_law 492 = .ok (.iconst 0, 1) := by decide +kernel
theorem dL_law_493 : decode cL_law 493 = .ok (.invokevirtual 71, 3) := by decide +kernel
theorem dL_law_496 : decode cL_law 496 = .ok (.if_icmp .eq 87, 3) := by decide +kernel
theorem dL_law_499 : decode cL_law 499 = .ok (.iconst 0, 1) := by decide +kernel
theorem dL_law_500 : decode cL_law 500 = .ok (.ireturn, 1) := by decide +kernel
theorem dL_law_501 : decode cL_law 501 = .ok (.aload_n 1, 1) := by decide +kernel
theorem dL_law_502 : decode cL_law 502 = .ok (.aload_n 0, 1) := by decide +kernel
theorem dL_law_503 : decode cL_law 503 = .ok (.iload_n 3, 1) := by decide +kernel
theorem dL_law_504 : decode cL_law 504 = .ok (.iconst 1, 1) := by decide +kernel
theorem dL_law_505 : decode cL_law 505 = .ok (.iadd, 1) := by decide +kernel
theorem dL_law_506 : decode cL_law 506 = .ok (.iaload, 1) := by decide +kernel
theorem dL_law_507 : decode cL_law 507 = .ok (.invokevirtual 72, 3) := by decide +kernel
theorem dL_law_510 : decode cL_law 510 = .ok (.aload_n 2, 1) := by decide +kernel
theorem dL_law_511 : decode cL_law 511 = .ok (.aload_n 0, 1) := by decide +kernel
theorem dL_law_512 : decode cL_law 512 = .ok (.iload_n 3, 1) := by decide +kernel
theorem dL_law_513 : decode cL_law 513 = .ok (.iconst 1, 1) := by decide +kernel
theorem dL_law_514 : decode cL_law 514 = .ok (.iadd, 1) := by decide +kernel
theorem dL_law_515 : decode cL_law 515 = .ok (.iaload, 1) := by decide +kernel
theorem dL_law_516 : decode cL_law 516 = .ok (.invokevirtual 75, 3) := by decide +kernel
theorem dL_law_519 : decode cL_law 519 = .ok (.if_icmp .eq 64, 3) := by decide +kernel
theorem dL_law_522 : decode cL_law 522 = .ok (.iconst 0, 1) := by decide +kernel
theorem dL_law_523 : decode cL_law 523 = .ok (.ireturn, 1) := by decide +kernel
theorem dL_law_524 : decode cL_law 524 = .ok (.aload_n 1, 1) := by decide +kernel
theorem dL_law_525 : decode cL_law 525 = .ok (.aload_n 0, 1) := by decide +kernel
theorem dL_law_526 : decode cL_law 526 = .ok (.iload_n 3, 1) := by decide +kernel
theorem dL_law_527 : decode cL_law 527 = .ok (.iconst 1, 1) := by decide +kernel
theorem dL_law_528 : decode cL_law 528 = .ok (.iadd, 1) := by decide +kernel
theorem dL_law_529 : decode cL_law 529 = .ok (.iaload, 1) := by decide +kernel
theorem dL_law_530 : decode cL_law 530 = .ok (.invokevirtual 76, 3) := by decide +kernel
theorem dL_law_533 : decode cL_law 533 = .ok (.aload_n 2, 1) := by decide +kernel
theorem dL_law_534 : decode cL_law 534 = .ok (.aload_n 0, 1) := by decide +kernel
theorem dL_law_535 : decode cL_law 535 = .ok (.iload_n 3, 1) := by decide +kernel
theorem dL_law_536 : decode cL_law 536 = .ok (.iconst 1, 1) := by decide +kernel
theorem dL_law_537 : decode cL_law 537 = .ok (.iadd, 1) := by decide +kernel
theorem dL_law_538 : decode cL_law 538 = .ok (.iaload, 1) := by decide +kernel
theorem dL_law_539 : decode cL_law 539 = .ok (.invokevirtual 79, 3) := by decide +kernel
theorem dL_law_542 : decode cL_law 542 = .ok (.if_icmp .eq 41, 3) := by decide +kernel
theorem dL_law_545 : decode cL_law 545 = .ok (.iconst 0, 1) := by decide +kernel
theorem dL_law_546 : decode cL_law 546 = .ok (.ireturn, 1) := by decide +kernel
theorem dL_law_547 : decode cL_law 547 = .ok (.aload_n 1, 1) := by decide +kernel
theorem dL_law_548 : decode cL_law 548 = .ok (.aload_n 0, 1) := by decide +kernel
theorem dL_law_549 : decode cL_law 549 = .ok (.iload_n 3, 1) := by decide +kernel
theorem dL_law_550 : decode cL_law 550 = .ok (.iconst 1, 1) := by decide +kernel
theorem dL_law_551 : decode cL_law 551 = .ok (.iadd, 1) := by decide +kernel
theorem dL_law_552 : decode cL_law 552 = .ok (.iaload, 1) := by decide +kernel
theorem dL_law_553 : decode cL_law 553 = .ok (.invokevirtual 80, 3) := by decide +kernel
theorem dL_law_556 : decode cL_law 556 = .ok (.aload_n 2, 1) := by decide +kernel
theorem dL_law_557 : decode cL_law 557 = .ok (.aload_n 0, 1) := by decide +kernel
theorem dL_law_558 : decode cL_law 558 = .ok (.iload_n 3, 1) := by decide +kernel
theorem dL_law_559 : decode cL_law 559 = .ok (.iconst 1, 1) := by decide +kernel
theorem dL_law_560 : decode cL_law 560 = .ok (.iadd, 1) := by decide +kernel
theorem dL_law_561 : decode cL_law 561 = .ok (.iaload, 1) := by decide +kernel
theorem dL_law_562 : decode cL_law 562 = .ok (.invokevirtual 83, 3) := by decide +kernel
theorem dL_law_565 : decode cL_law 565 = .ok (.if_icmp .eq 18, 3) := by decide +kernel
theorem dL_law_568 : decode cL_law 568 = .ok (.iconst 0, 1) := by decide +kernel
theorem dL_law_569 : decode cL_law 569 = .ok (.ireturn, 1) := by decide +kernel
theorem dL_law_570 : decode cL_law 570 = .ok (.aload_n 1, 1) := by decide +kernel
theorem dL_law_571 : decode cL_law 571 = .ok (.invokevirtual 84, 3) := by decide +kernel
theorem dL_law_574 : decode cL_law 574 = .ok (.aload_n 2, 1) := by decide +kernel
theorem dL_law_575 : decode cL_law 575 = .ok (.invokevirtual 87, 3) := by decide +kernel
theorem dL_law_578 : decode cL_law 578 = .ok (.if_icmp .eq 5, 3) := by decide +kernel
theorem dL_law_581 : decode cL_law 581 = .ok (.iconst 0, 1) := by decide +kernel
theorem dL_law_582 : decode cL_law 582 = .ok (.ireturn, 1) := by decide +kernel
theorem dL_law_583 : decode cL_law 583 = .ok (.iinc 3 6, 3) := by decide +kernel
theorem dL_law_586 : decode cL_law 586 = .ok (.goto (-568), 3) := by decide +kernel
theorem dL_law_589 : decode cL_law 589 = .ok (.iconst 1, 1) := by decide +kernel
theorem dL_law_590 : decode cL_law 590 = .ok (.ireturn, 1) := by decide +kernel
end
section
theorem dX12_init_0 : decode cX12_init 0 = .ok (.aload_n 0, 1) := by decide +kernel
theorem dX12_init_1 : decode cX12_init 1 = .ok (.invokespecial 1, 3) := by decide +kernel
theorem dX12_init_4 : decode cX12_init 4 = .ok (.aload_n 0, 1) := by decide +kernel
theorem dX12_init_5 : decode cX12_init 5 = .ok (.sipush 150, 3) := by decide +kernel
theorem dX12_init_8 : decode cX12_init 8 = .ok (.newarray .int, 2) := by decide +kernel
theorem dX12_init_10 : decode cX12_init 10 = .ok (.putfield 7, 3) := by decide +kernel
theorem dX12_init_13 : decode cX12_init 13 = .ok (.aload_n 0, 1) := by decide +kernel
theorem dX12_init_14 : decode cX12_init 14 = .ok (.sipush 150, 3) := by decide +kernel
theorem dX12_init_17 : decode cX12_init 17 = .ok (.newarray .int, 2) := by decide +kernel
theorem dX12_init_19 : decode cX12_init 19 = .ok (.putfield 13, 3) := by decide +kernel
theorem dX12_init_22 : decode cX12_init 22 = .ok (.aload_n 0, 1) := by decide +kernel
theorem dX12_init_23 : decode cX12_init 23 = .ok (.sipush 150, 3) := by decide +kernel
theorem dX12_init_26 : decode cX12_init 26 = .ok (.newarray .int, 2) := by decide +kernel
theorem dX12_init_28 : decode cX12_init 28 = .ok (.putfield 16, 3) := by decide +kernel
theorem dX12_init_31 : decode cX12_init 31 = .ok (.aload_n 0, 1) := by decide +kernel
theorem dX12_init_32 : decode cX12_init 32 = .ok (.sipush 150, 3) := by decide +kernel
theorem dX12_init_35 : decode cX12_init 35 = .ok (.newarray .int, 2) := by decide +kernel
theorem dX12_init_37 : decode cX12_init 37 = .ok (.putfield 19, 3) := by decide +kernel
theorem dX12_init_40 : decode cX12_init 40 = .ok (.aload_n 0, 1) := by decide +kernel
theorem dX12_init_41 : decode cX12_init 41 = .ok (.sipush 150, 3) := by decide +kernel
theorem dX12_init_44 : decode cX12_init 44 = .ok (.newarray .boolean, 2) := by decide +kernel
theorem dX12_init_46 : decode cX12_init 46 = .ok (.putfield 22, 3) := by decide +kernel
theorem dX12_init_49 : decode cX12_init 49 = .ok (.aload_n 0, 1) := by decide +kernel
theorem dX12_init_50 : decode cX12_init 50 = .ok (.iconst (-1), 1) := by decide +kernel
theorem dX12_init_51 : decode cX12_init 51 = .ok (.putfield 26, 3) := by decide +kernel
theorem dX12_init_54 : decode cX12_init 54 = .ok (.aload_n 0, 1) := by decide +kernel
theorem dX12_init_55 : decode cX12_init 55 = .ok (.bipush 12, 2) := by decide +kernel
theorem dX12_init_57 : decode cX12_init 57 = .ok (.newarray .int, 2) := by decide +kernel
theorem dX12_init_59 : decode cX12_init 59 = .ok (.putfield 30, 3) := by decide +kernel
theorem dX12_init_62 : decode cX12_init 62 = .ok (.aload_n 0, 1) := by decide +kernel
theorem dX12_init_63 : decode cX12_init 63 = .ok (.bipush 12, 2) := by decide +kernel
theorem dX12_init_65 : decode cX12_init 65 = .ok (.newarray .int, 2) := by decide +kernel
theorem dX12_init_67 : decode cX12_init 67 = .ok (.putfield 33, 3) := by decide +kernel
theorem dX12_init_70 : decode cX12_init 70 = .ok (.aload_n 0, 1) := by decide +kernel
theorem dX12_init_71 : decode cX12_init 71 = .ok (.bipush 12, 2) := by decide +kernel
theorem dX12_init_73 : decode cX12_init 73 = .ok (.newarray .int, 2) := by decide +kernel
theorem dX12_init_75 : decode cX12_init 75 = .ok (.putfield 36, 3) := by decide +kernel
theorem dX12_init_78 : decode cX12_init 78 = .ok (.aload_n 0, 1) := by decide +kernel
theorem dX12_init_79 : decode cX12_init 79 = .ok (.bipush 12, 2) := by decide +kernel
theorem dX12_init_81 : decode cX12_init 81 = .ok (.newarray .int, 2) := by decide +kernel
theorem dX12_init_83 : decode cX12_init 83 = .ok (.putfield 39, 3) := by decide +kernel
theorem dX12_init_86 : decode cX12_init 86 = .ok (.aload_n 0, 1) := by decide +kernel
theorem dX12_init_87 : decode cX12_init 87 = .ok (.bipush 12, 2) := by decide +kernel
theorem dX12_init_89 : decode cX12_init 89 = .ok (.newarray .int, 2) := by decide +kernel
theorem dX12_init_91 : decode cX12_init 91 = .ok (.putfield 42, 3) := by decide +kernel
theorem dX12_init_94 : decode cX12_init 94 = .ok (.aload_n 0, 1) := by decide +kernel
theorem dX12_init_95 : decode cX12_init 95 = .ok (.bipush 12, 2) := by decide +kernel
theorem dX12_init_97 : decode cX12_init 97 = .ok (.newarray .int, 2) := by decide +kernel
theorem dX12_init_99 : decode cX12_init 99 = .ok (.putfield 45, 3) := by decide +kernel
theorem dX12_init_102 : decode cX12_init 102 = .ok (.aload_n 0, 1) := by decide +kernel
theorem dX12_init_103 : decode cX12_init 103 = .ok (.sipush 4800, 3) := by decide +kernel
theorem dX12_init_106 : decode cX12_init 106 = .ok (.newarray .int, 2) := by decide +kernel
theorem dX12_init_108 : decode cX12_init 108 = .ok (.putfield 48, 3) := by decide +kernel
theorem dX12_init_111 : decode cX12_init 111 = .ok (.aload_n 0, 1) := by decide +kernel
theorem dX12_init_112 : decode cX12_init 112 = .ok (.sipush 4800, 3) := by decide +kernel
theorem dX12_init_115 : decode cX12_init 115 = .ok (.newarray .int, 2) := by decide +kernel
theorem dX12_init_117 : decode cX12_init 117 = .ok (.putfield 51, 3) := by decide +kernel
theorem dX12_init_120 : decode cX12_init 120 = .ok (.aload_n 0, 1) := by decide +kernel
theorem dX12_init_121 : decode cX12_init 121 = .ok (.sipush 4800, 3) := by decide +kernel
theorem dX12_init_124 : decode cX12_init 124 = .ok (.newarray .int, 2) := by decide +kernel
theorem dX12_init_126 : decode cX12_init 126 = .ok (.putfield 54, 3) := by decide +kernel
theorem dX12_init_129 : decode cX12_init 129 = .ok (.aload_n 0, 1) := by decide +kernel
theorem dX12_init_130 : decode cX12_init 130 = .ok (.bipush 12, 2) := by decide +kernel
theorem dX12_init_132 : decode cX12_init 132 = .ok (.newarray .int, 2) := by decide +kernel
theorem dX12_init_134 : decode cX12_init 134 = .ok (.putfield 57, 3) := by decide +kernel
theorem dX12_init_137 : decode cX12_init 137 = .ok (.aload_n 0, 1) := by decide +kernel
theorem dX12_init_138 : decode cX12_init 138 = .ok (.sipush 4800, 3) := by decide +kernel
theorem dX12_init_141 : decode cX12_init 141 = .ok (.newarray .int, 2) := by decide +kernel
theorem dX12_init_143 : decode cX12_init 143 = .ok (.putfield 60, 3) := by decide +kernel
theorem dX12_init_146 : decode cX12_init 146 = .ok (.aload_n 0, 1) := by decide +kernel
theorem dX12_init_147 : decode cX12_init 147 = .ok (.sipush 4800, 3) := by decide +kernel
theorem dX12_init_150 : decode cX12_init 150 = .ok (.newarray .int, 2) := by decide +kernel
theorem dX12_init_152 : decode cX12_init 152 = .ok (.putfield 63, 3) := by decide +kernel
theorem dX12_init_155 : decode cX12_init 155 = .ok (.aload_n 0, 1) := by decide +kernel
theorem dX12_init_156 : decode cX12_init 156 = .ok (.sipush 4800, 3) := by decide +kernel
theorem dX12_init_159 : decode cX12_init 159 = .ok (.newarray .int, 2) := by decide +kernel
theorem dX12_init_161 : decode cX12_init 161 = .ok (.putfield 66, 3) := by decide +kernel
theorem dX12_init_164 : decode cX12_init 164 = .ok (.aload_n 0, 1) := by decide +kernel
theorem dX12_init_165 : decode cX12_init 165 = .ok (.sipush 4000, 3) := by decide +kernel
theorem dX12_init_168 : decode cX12_init 168 = .ok (.newarray .int, 2) := by decide +kernel
theorem dX12_init_170 : decode cX12_init 170 = .ok (.putfield 69, 3) := by decide +kernel
theorem dX12_init_173 : decode cX12_init 173 = .ok (.aload_n 0, 1) := by decide +kernel
theorem dX12_init_174 : decode cX12_init 174 = .ok (.sipush 4000, 3) := by decide +kernel
theorem dX12_init_177 : decode cX12_init 177 = .ok (.newarray .int, 2) := by decide +kernel
theorem dX12_init_179 : decode cX12_init 179 = .ok (.putfield 72, 3) := by decide +kernel
theorem dX12_init_182 : decode cX12_init 182 = .ok (.aload_n 0, 1) := by decide +kernel
theorem dX12_init_183 : decode cX12_init 183 = .ok (.sipush 4000, 3) := by decide +kernel
theorem dX12_init_186 : decode cX12_init 186 = .ok (.newarray .int, 2) := by decide +kernel
theorem dX12_init_188 : decode cX12_init 188 = .ok (.putfield 75, 3) := by decide +kernel
theorem dX12_init_191 : decode cX12_init 191 = .ok (.aload_n 0, 1) := by decide +kernel
theorem dX12_init_192 : decode cX12_init 192 = .ok (.sipush 4000, 3) := by decide +kernel
theorem dX12_init_195 : decode cX12_init 195 = .ok (.newarray .int, 2) := by decide +kernel
theorem dX12_init_197 : decode cX12_init 197 = .ok (.putfield 78, 3) := by decide +kernel
theorem dX12_init_200 : decode cX12_init 200 = .ok (.aload_n 0, 1) := by decide +kernel
theorem dX12_init_201 : decode cX12_init 201 = .ok (.sipush 4000, 3) := by decide +kernel
theorem dX12_init_204 : decode cX12_init 204 = .ok (.newarray .int, 2) := by decide +kernel
theorem dX12_init_206 : decode cX12_init 206 = .ok (.putfield 81, 3) := by decide +kernel
theorem dX12_init_209 : decode cX12_init 209 = .ok (.aload_n 0, 1) := by decide +kernel
theorem dX12_init_210 : decode cX12_init 210 = .ok (.sipush 4000, 3) := by decide +kernel
theorem dX12_init_213 : decode cX12_init 213 = .ok (.newarray .int, 2) := by decide +kernel
theorem dX12_init_215 : decode cX12_init 215 = .ok (.putfield 84, 3) := by decide +kernel
theorem dX12_init_218 : decode cX12_init 218 = .ok (.aload_n 0, 1) := by decide +kernel
theorem dX12_init_219 : decode cX12_init 219 = .ok (.sipush 4000, 3) := by decide +kernel
theorem dX12_init_222 : decode cX12_init 222 = .ok (.newarray .int, 2) := by decide +kernel
theorem dX12_init_224 : decode cX12_init 224 = .ok (.putfield 87, 3) := by decide +kernel
theorem dX12_init_227 : decode cX12_init 227 = .ok (.aload_n 0, 1) := by decide +kernel
theorem dX12_init_228 : decode cX12_init 228 = .ok (.sipush 4000, 3) := by decide +kernel
theorem dX12_init_231 : decode cX12_init 231 = .ok (.newarray .int, 2) := by decide +kernel
theorem dX12_init_233 : decode cX12_init 233 = .ok (.putfield 90, 3) := by decide +kernel
theorem dX12_init_236 : decode cX12_init 236 = .ok (.aload_n 0, 1) := by decide +kernel
theorem dX12_init_237 : decode cX12_init 237 = .ok (.bipush 12, 2) := by decide +kernel
theorem dX12_init_239 : decode cX12_init 239 = .ok (.newarray .int, 2) := by decide +kernel
theorem dX12_init_241 : decode cX12_init 241 = .ok (.putfield 93, 3) := by decide +kernel
theorem dX12_init_244 : decode cX12_init 244 = .ok (.aload_n 0, 1) := by decide +kernel
theorem dX12_init_245 : decode cX12_init 245 = .ok (.bipush 12, 2) := by decide +kernel
theorem dX12_init_247 : decode cX12_init 247 = .ok (.newarray .int, 2) := by decide +kernel
theorem dX12_init_249 : decode cX12_init 249 = .ok (.putfield 96, 3) := by decide +kernel
theorem dX12_init_252 : decode cX12_init 252 = .ok (.aload_n 0, 1) := by decide +kernel
theorem dX12_init_253 : decode cX12_init 253 = .ok (.bipush 12, 2) := by decide +kernel
theorem dX12_init_255 : decode cX12_init 255 = .ok (.newarray .int, 2) := by decide +kernel
theorem dX12_init_257 : decode cX12_init 257 = .ok (.putfield 99, 3) := by decide +kernel
theorem dX12_init_260 : decode cX12_init 260 = .ok (.aload_n 0, 1) := by decide +kernel
theorem dX12_init_261 : decode cX12_init 261 = .ok (.bipush 12, 2) := by decide +kernel
theorem dX12_init_263 : decode cX12_init 263 = .ok (.newarray .int, 2) := by decide +kernel
theorem dX12_init_265 : decode cX12_init 265 = .ok (.putfield 102, 3) := by decide +kernel
theorem dX12_init_268 : decode cX12_init 268 = .ok (.aload_n 0, 1) := by decide +kernel
theorem dX12_init_269 : decode cX12_init 269 = .ok (.bipush 12, 2) := by decide +kernel
theorem dX12_init_271 : decode cX12_init 271 = .ok (.newarray .int, 2) := by decide +kernel
theorem dX12_init_273 : decode cX12_init 273 = .ok (.putfield 105, 3) := by decide +kernel
theorem dX12_init_276 : decode cX12_init 276 = .ok (.aload_n 0, 1) := by decide +kernel
theorem dX12_init_277 : decode cX12_init 277 = .ok (.bipush 26, 2) := by decide +kernel
theorem dX12_init_279 : decode cX12_init 279 = .ok (.newarray .int, 2) := by decide +kernel
theorem dX12_init_281 : decode cX12_init 281 = .ok (.putfield 108, 3) := by decide +kernel
theorem dX12_init_284 : decode cX12_init 284 = .ok (.aload_n 0, 1) := by decide +kernel
theorem dX12_init_285 : decode cX12_init 285 = .ok (.sipush 300, 3) := by decide +kernel
theorem dX12_init_288 : decode cX12_init 288 = .ok (.newarray .int, 2) := by decide +kernel
theorem dX12_init_290 : decode cX12_init 290 = .ok (.putfield 111, 3) := by decide +kernel
theorem dX12_init_293 : decode cX12_init 293 = .ok (.aload_n 0, 1) := by decide +kernel
theorem dX12_init_294 : decode cX12_init 294 = .ok (.iconst (-1), 1) := by decide +kernel
theorem dX12_init_295 : decode cX12_init 295 = .ok (.putfield 114, 3) := by decide +kernel
theorem dX12_init_298 : decode cX12_init 298 = .ok (.aload_n 0, 1) := by decide +kernel
theorem dX12_init_299 : decode cX12_init 299 = .ok (.iconst 1, 1) := by decide +kernel
theorem dX12_init_300 : decode cX12_init 300 = .ok (.putfield 117, 3) := by decide +kernel
theorem dX12_init_303 : decode cX12_init 303 = .ok (.return_, 1) := by decide +kernel
theorem dX12_in_0 : decode cX12_in 0 = .ok (.lload_n 0, 1) := by decide +kernel
theorem dX12_in_1 : decode cX12_in 1 = .ok (.lload_n 2, 1) := by decide +kernel
theorem dX12_in_2 : decode cX12_in 2 = .ok (.lcmp, 1) := by decide +kernel
theorem dX12_in_3 : decode cX12_in 3 = .ok (.ifCond .lt 14, 3) := by decide +kernel
theorem dX12_in_6 : decode cX12_in 6 = .ok (.lload_n 0, 1) := by decide +kernel
theorem dX12_in_7 : decode cX12_in 7 = .ok (.lload 4, 2) := by decide +kernel
theorem dX12_in_9 : decode cX12_in 9 = .ok (.lcmp, 1) := by decide +kernel
theorem dX12_in_10 : decode cX12_in 10 = .ok (.ifCond .gt 7, 3) := by decide +kernel
theorem dX12_in_13 : decode cX12_in 13 = .ok (.iconst 1, 1) := by decide +kernel
theorem dX12_in_14 : decode cX12_in 14 = .ok (.goto 4, 3) := by decide +kernel
theorem dX12_in_17 : decode cX12_in 17 = .ok (.iconst 0, 1) := by decide +kernel
theorem dX12_in_18 : decode cX12_in 18 = .ok (.ireturn, 1) := by decide +kernel
theorem dX12_told_0 : decode cX12_told 0 = .ok (.aload_n 0, 1) := by decide +kernel
theorem dX12_told_1 : decode cX12_told 1 = .ok (.iload_n 1, 1) := by decide +kernel
theorem dX12_told_2 : decode cX12_told 2 = .ok (.ifCond .ge 7, 3) := by decide +kernel
theorem dX12_told_5 : decode cX12_told 5 = .ok (.iload_n 1, 1) := by decide +kernel
theorem dX12_told_6 : decode cX12_told 6 = .ok (.goto 4, 3) := by decide +kernel
theorem dX12_told_9 : decode cX12_told 9 = .ok (.iconst 0, 1) := by decide +kernel
theorem dX12_told_10 : decode cX12_told 10 = .ok (.putfield 123, 3) := by decide +kernel
theorem dX12_told_13 : decode cX12_told 13 = .ok (.iload_n 1, 1) := by decide +kernel
theorem dX12_told_14 : decode cX12_told 14 = .ok (.ireturn, 1) := by decide +kernel
theorem dX12_tell_0 : decode cX12_tell 0 = .ok (.aload_n 0, 1) := by decide +kernel
theorem dX12_tell_1 : decode cX12_tell 1 = .ok (.iconst 0, 1) := by decide +kernel
theorem dX12_tell_2 : decode cX12_tell 2 = .ok (.putfield 120, 3) := by decide +kernel
theorem dX12_tell_5 : decode cX12_tell 5 = .ok (.iload_n 1, 1) := by decide +kernel
theorem dX12_tell_6 : decode cX12_tell 6 = .ok (.i2l, 1) := by decide +kernel
theorem dX12_tell_7 : decode cX12_tell 7 = .ok (.lconst 0, 1) := by decide +kernel
theorem dX12_tell_8 : decode cX12_tell 8 = .ok (.ldc2_w 126, 3) := by decide +kernel
theorem dX12_tell_11 : decode cX12_tell 11 = .ok (.invokestatic 128, 3) := by decide +kernel
theorem dX12_tell_14 : decode cX12_tell 14 = .ok (.ifCond .eq 42, 3) := by decide +kernel
theorem dX12_tell_17 : decode cX12_tell 17 = .ok (.iload_n 2, 1) := by decide +kernel
theorem dX12_tell_18 : decode cX12_tell 18 = .ok (.i2l, 1) := by decide +kernel
theorem dX12_tell_19 : decode cX12_tell 19 = .ok (.lconst 0, 1) := by decide +kernel
theorem dX12_tell_20 : decode cX12_tell 20 = .ok (.ldc2_w 132, 3) := by decide +kernel
theorem dX12_tell_23 : decode cX12_tell 23 = .ok (.invokestatic 128, 3) := by decide +kernel
theorem dX12_tell_26 : decode cX12_tell 26 = .ok (.ifCond .eq 30, 3) := by decide +kernel
theorem dX12_tell_29 : decode cX12_tell 29 = .ok (.iload_n 3, 1) := by decide +kernel
theorem dX12_tell_30 : decode cX12_tell 30 = .ok (.i2l, 1) := by decide +kernel
theorem dX12_tell_31 : decode cX12_tell 31 = .ok (.ldc2_w 134, 3) := by decide +kernel
theorem dX12_tell_34 : decode cX12_tell 34 = .ok (.ldc2_w 136, 3) := by decide +kernel
theorem dX12_tell_37 : decode cX12_tell 37 = .ok (.invokestatic 128, 3) := by decide +kernel
theorem dX12_tell_40 : decode cX12_tell 40 = .ok (.ifCond .eq 16, 3) := by decide +kernel
theorem dX12_tell_43 : decode cX12_tell 43 = .ok (.iload 4, 2) := by decide +kernel
theorem dX12_tell_45 : decode cX12_tell 45 = .ok (.i2l, 1) := by decide +kernel
theorem dX12_tell_46 : decode cX12_tell 46 = .ok (.lconst 0, 1) := by decide +kernel
theorem dX12_tell_47 : decode cX12_tell 47 = .ok (.ldc2_w 138, 3) := by decide +kernel
theorem dX12_tell_50 : decode cX12_tell 50 = .ok (.invokestatic 128, 3) := by decide +kernel
theorem dX12_tell_53 : decode cX12_tell 53 = .ok (.ifCond .ne 9, 3) := by decide +kernel
theorem dX12_tell_56 : decode cX12_tell 56 = .ok (.aload_n 0, 1) := by decide +kernel
theorem dX12_tell_57 : decode cX12_tell 57 = .ok (.iconst (-1), 1) := by decide +kernel
theorem dX12_tell_58 : decode cX12_tell 58 = .ok (.invokevirtual 140, 3) := by decide +kernel
theorem dX12_tell_61 : decode cX12_tell 61 = .ok (.ireturn, 1) := by decide +kernel
theorem dX12_tell_62 : decode cX12_tell 62 = .ok (.aload_n 0, 1) := by decide +kernel
theorem dX12_tell_63 : decode cX12_tell 63 = .ok (.getfield 144, 3) := by decide +kernel
theorem dX12_tell_66 : decode cX12_tell 66 = .ok (.sipush 150, 3) := by decide +kernel
theorem dX12_tell_69 : decode cX12_tell 69 = .ok (.if_icmp .ne 10, 3) := by decide +kernel
theorem dX12_tell_72 : decode cX12_tell 72 = .ok (.aload_n 0, 1) := by decide +kernel
theorem dX12_tell_73 : decode cX12_tell 73 = .ok (.bipush (-5), 2) := by decide +kernel
theorem dX12_tell_75 : decode cX12_tell 75 = .ok (.invokevirtual 140, 3) := by decide +kernel
theorem dX12_tell_78 : decode cX12_tell 78 = .ok (.ireturn, 1) := by decide +kernel
theorem dX12_tell_79 : decode cX12_tell 79 = .ok (.aload_n 0, 1) := by decide +kernel
theorem dX12_tell_80 : decode cX12_tell 80 = .ok (.getfield 7, 3) := by decide +kernel
theorem dX12_tell_83 : decode cX12_tell 83 = .ok (.aload_n 0, 1) := by decide +kernel
theorem dX12_tell_84 : decode cX12_tell 84 = .ok (.getfield 144, 3) := by decide +kernel
theorem dX12_tell_87 : decode cX12_tell 87 = .ok (.iload_n 1, 1) := by decide +kernel
theorem dX12_tell_88 : decode cX12_tell 88 = .ok (.iastore, 1) := by decide +kernel
theorem dX12_tell_89 : decode cX12_tell 89 = .ok (.aload_n 0, 1) := by decide +kernel
theorem dX12_tell_90 : decode cX12_tell 90 = .ok (.getfield 13, 3) := by decide +kernel
theorem dX12_tell_93 : decode cX12_tell 93 = .ok (.aload_n 0, 1) := by decide +kernel
theorem dX12_tell_94 : decode cX12_tell 94 = .ok (.getfield 144, 3) := by decide +kernel
theorem dX12_tell_97 : decode cX12_tell 97 = .ok (.iload_n 2, 1) := by decide +kernel
theorem dX12_tell_98 : decode cX12_tell 98 = .ok (.iastore, 1) := by decide +kernel
theorem dX12_tell_99 : decode cX12_tell 99 = .ok (.aload_n 0, 1) := by decide +kernel
theorem dX12_tell_100 : decode cX12_tell 100 = .ok (.getfield 16, 3) := by decide +kernel
theorem dX12_tell_103 : decode cX12_tell 103 = .ok (.aload_n 0, 1) := by decide +kernel
theorem dX12_tell_104 : decode cX12_tell 104 = .ok (.getfield 144, 3) := by decide +kernel
theorem dX12_tell_107 : decode cX12_tell 107 = .ok (.iload_n 3, 1) := by decide +kernel
theorem dX12_tell_108 : decode cX12_tell 108 = .ok (.iastore, 1) := by decide +kernel
theorem dX12_tell_109 : decode cX12_tell 109 = .ok (.aload_n 0, 1) := by decide +kernel
theorem dX12_tell_110 : decode cX12_tell 110 = .ok (.getfield 19, 3) := by decide +kernel
theorem dX12_tell_113 : decode cX12_tell 113 = .ok (.aload_n 0, 1) := by decide +kernel
theorem dX12_tell_114 : decode cX12_tell 114 = .ok (.getfield 144, 3) := by decide +kernel
theorem dX12_tell_117 : decode cX12_tell 117 = .ok (.iload 4, 2) := by decide +kernel
theorem dX12_tell_119 : decode cX12_tell 119 = .ok (.iastore, 1) := by decide +kernel
theorem dX12_tell_120 : decode cX12_tell 120 = .ok (.aload_n 0, 1) := by decide +kernel
theorem dX12_tell_121 : decode cX12_tell 121 = .ok (.dup, 1) := by decide +kernel
theorem dX12_tell_122 : decode cX12_tell 122 = .ok (.getfield 144, 3) := by decide +kernel
theorem dX12_tell_125 : decode cX12_tell 125 = .ok (.iconst 1, 1) := by decide +kernel
theorem dX12_tell_126 : decode cX12_tell 126 = .ok (.iadd, 1) := by decide +kernel
theorem dX12_tell_127 : decode cX12_tell 127 = .ok (.putfield 144, 3) := by decide +kernel
theorem dX12_tell_130 : decode cX12_tell 130 = .ok (.aload_n 0, 1) := by decide +kernel
theorem dX12_tell_131 : decode cX12_tell 131 = .ok (.aload_n 0, 1) := by decide +kernel
theorem dX12_tell_132 : decode cX12_tell 132 = .ok (.getfield 144, 3) := by decide +kernel
theorem dX12_tell_135 : decode cX12_tell 135 = .ok (.invokevirtual 140, 3) := by decide +kernel
theorem dX12_tell_138 : decode cX12_tell 138 = .ok (.ireturn, 1) := by decide +kernel
theorem dX12_latest_0 : decode cX12_latest 0 = .ok (.iconst (-1), 1) := by decide +kernel
theorem dX12_latest_1 : decode cX12_latest 1 = .ok (.istore_n 2, 1) := by decide +kernel
theorem dX12_latest_2 : decode cX12_latest 2 = .ok (.iconst 0, 1) := by decide +kernel
theorem dX12_latest_3 : decode cX12_latest 3 = .ok (.istore_n 3, 1) := by decide +kernel
theorem dX12_latest_4 : decode cX12_latest 4 = .ok (.iload_n 3, 1) := by decide +kernel
theorem dX12_latest_5 : decode cX12_latest 5 = .ok (.iload_n 1, 1) := by decide +kernel
theorem dX12_latest_6 : decode cX12_latest 6 = .ok (.if_icmp .ge 30, 3) := by decide +kernel
theorem dX12_latest_9 : decode cX12_latest 9 = .ok (.aload_n 0, 1) := by decide +kernel
theorem dX12_latest_10 : decode cX12_latest 10 = .ok (.getfield 19, 3) := by decide +kernel
theorem dX12_latest_13 : decode cX12_latest 13 = .ok (.iload_n 3, 1) := by decide +kernel
theorem dX12_latest_14 : decode cX12_latest 14 = .ok (.iaload, 1) := by decide +kernel
theorem dX12_latest_15 : decode cX12_latest 15 = .ok (.iload_n 2, 1) := by decide +kernel
theorem dX12_latest_16 : decode cX12_latest 16 = .ok (.if_icmp .le 12, 3) := by decide +kernel
theorem dX12_latest_19 : decode cX12_latest 19 = .ok (.aload_n 0, 1) := by decide +kernel
theorem dX12_latest_20 : decode cX12_latest 20 = .ok (.getfield 19, 3) := by decide +kernel
theorem dX12_latest_23 : decode cX12_latest 23 = .ok (.iload_n 3, 1) := by decide +kernel
theorem dX12_latest_24 : decode cX12_latest 24 = .ok (.iaload, 1) := by decide +kernel
theorem dX12_latest_25 : decode cX12_latest 25 = .ok (.goto 4, 3) := by decide +kernel
theorem dX12_latest_28 : decode cX12_latest 28 = .ok (.iload_n 2, 1) := by decide +kernel
theorem dX12_latest_29 : decode cX12_latest 29 = .ok (.istore_n 2, 1) := by decide +kernel
theorem dX12_latest_30 : decode cX12_latest 30 = .ok (.iinc 3 1, 3) := by decide +kernel
theorem dX12_latest_33 : decode cX12_latest 33 = .ok (.goto (-29), 3) := by decide +kernel
theorem dX12_latest_36 : decode cX12_latest 36 = .ok (.iload_n 2, 1) := by decide +kernel
theorem dX12_latest_37 : decode cX12_latest 37 = .ok (.ireturn, 1) := by decide +kernel
theorem dX12_add_0 : decode cX12_add 0 = .ok (.aload_n 0, 1) := by decide +kernel
theorem dX12_add_1 : decode cX12_add 1 = .ok (.getfield 147, 3) := by decide +kernel
theorem dX12_add_4 : decode cX12_add 4 = .ok (.ifCond .ne 28, 3) := by decide +kernel
theorem dX12_add_7 : decode cX12_add 7 = .ok (.aload_n 0, 1) := by decide +kernel
theorem dX12_add_8 : decode cX12_add 8 = .ok (.getfield 57, 3) := by decide +kernel
theorem dX12_add_11 : decode cX12_add 11 = .ok (.iload_n 1, 1) := by decide +kernel
theorem dX12_add_12 : decode cX12_add 12 = .ok (.iaload, 1) := by decide +kernel
theorem dX12_add_13 : decode cX12_add 13 = .ok (.sipush 400, 3) := by decide +kernel
theorem dX12_add_16 : decode cX12_add 16 = .ok (.if_icmp .eq 16, 3) := by decide +kernel
theorem dX12_add_19 : decode cX12_add 19 = .ok (.lload_n 3, 1) := by decide +kernel
theorem dX12_add_20 : decode cX12_add 20 = .ok (.ldc2_w 151, 3) := by decide +kernel
theorem dX12_add_23 : decode cX12_add 23 = .ok (.ldc2_w 153, 3) := by decide +kernel
theorem dX12_add_26 : decode cX12_add 26 = .ok (.invokestatic 128, 3) := by decide +kernel
theorem dX12_add_29 : decode cX12_add 29 = .ok (.ifCond .ne 9, 3) := by decide +kernel
theorem dX12_add_32 : decode cX12_add 32 = .ok (.aload_n 0, 1) := by decide +kernel
theorem dX12_add_33 : decode cX12_add 33 = .ok (.iconst 1, 1) := by decide +kernel
theorem dX12_add_34 : decode cX12_add 34 = .ok (.putfield 147, 3) := by decide +kernel
theorem dX12_add_37 : decode cX12_add 37 = .ok (.return_, 1) := by decide +kernel
theorem dX12_add_38 : decode cX12_add 38 = .ok (.sipush 400, 3) := by decide +kernel
theorem dX12_add_41 : decode cX12_add 41 = .ok (.iload_n 1, 1) := by decide +kernel
theorem dX12_add_42 : decode cX12_add 42 = .ok (.imul, 1) := by decide +kernel
theorem dX12_add_43 : decode cX12_add 43 = .ok (.aload_n 0, 1) := by decide +kernel
theorem dX12_add_44 : decode cX12_add 44 = .ok (.getfield 57, 3) := by decide +kernel
theorem dX12_add_47 : decode cX12_add 47 = .ok (.iload_n 1, 1) := by decide +kernel
theorem dX12_add_48 : decode cX12_add 48 = .ok (.iaload, 1) := by decide +kernel
theorem dX12_add_49 : decode cX12_add 49 = .ok (.iadd, 1) := by decide +kernel
theorem dX12_add_50 : decode cX12_add 50 = .ok (.istore 6, 2) := by decide +kernel
theorem dX12_add_52 : decode cX12_add 52 = .ok (.iload 6, 2) := by decide +kernel
theorem dX12_add_54 : decode cX12_add 54 = .ok (.sipush 400, 3) := by decide +kernel
theorem dX12_add_57 : decode cX12_add 57 = .ok (.iload_n 1, 1) := by decide +kernel
theorem dX12_add_58 : decode cX12_add 58 = .ok (.imul, 1) := by decide +kernel
theorem dX12_add_59 : decode cX12_add 59 = .ok (.if_icmp .le 73, 3) := by decide +kernel
theorem dX12_add_62 : decode cX12_add 62 = .ok (.aload_n 0, 1) := by decide +kernel
theorem dX12_add_63 : decode cX12_add 63 = .ok (.iload_n 2, 1) := by decide +kernel
theorem dX12_add_64 : decode cX12_add 64 = .ok (.iload 5, 2) := by decide +kernel
theorem dX12_add_66 : decode cX12_add 66 = .ok (.lload_n 3, 1) := by decide +kernel
theorem dX12_add_67 : decode cX12_add 67 = .ok (.l2i, 1) := by decide +kernel
theorem dX12_add_68 : decode cX12_add 68 = .ok (.iload 6, 2) := by decide +kernel
theorem dX12_add_70 : decode cX12_add 70 = .ok (.iconst 1, 1) := by decide +kernel
theorem dX12_add_71 : decode cX12_add 71 = .ok (.isub, 1) := by decide +kernel
theorem dX12_add_72 : decode cX12_add 72 = .ok (.invokevirtual 155, 3) := by decide +kernel
theorem dX12_add_75 : decode cX12_add 75 = .ok (.ifCond .eq 57, 3) := by decide +kernel
theorem dX12_add_78 : decode cX12_add 78 = .ok (.aload_n 0, 1) := by decide +kernel
theorem dX12_add_79 : decode cX12_add 79 = .ok (.getfield 60, 3) := by decide +kernel
theorem dX12_add_82 : decode cX12_add 82 = .ok (.iload 6, 2) := by decide +kernel
theorem dX12_add_84 : decode cX12_add 84 = .ok (.aload_n 0, 1) := by decide +kernel
theorem dX12_add_85 : decode cX12_add 85 = .ok (.getfield 60, 3) := by decide +kernel
theorem dX12_add_88 : decode cX12_add 88 = .ok (.iload 6, 2) := by decide +kernel
theorem dX12_add_90 : decode cX12_add 90 = .ok (.iconst 1, 1) := by decide +kernel
theorem dX12_add_91 : decode cX12_add 91 = .ok (.isub, 1) := by decide +kernel
theorem dX12_add_92 : decode cX12_add 92 = .ok (.iaload, 1) := by decide +kernel
theorem dX12_add_93 : decode cX12_add 93 = .ok (.iastore, 1) := by decide +kernel
theorem dX12_add_94 : decode cX12_add 94 = .ok (.aload_n 0, 1) := by decide +kernel
theorem dX12_add_95 : decode cX12_add 95 = .ok (.getfield 63, 3) := by decide +kernel
theorem dX12_add_98 : decode cX12_add 98 = .ok (.iload 6, 2) := by decide +kernel
theorem dX12_add_100 : decode cX12_add 100 = .ok (.aload_n 0, 1) := by decide +kernel
theorem dX12_add_101 : decode cX12_add 101 = .ok (.getfield 63, 3) := by decide +kernel
theorem dX12_add_104 : decode cX12_add 104 = .ok (.iload 6, 2) := by decide +kernel
theorem dX12_add_106 : decode cX12_add 106 = .ok (.iconst 1, 1) := by decide +kernel
theorem dX12_add_107 : decode cX12_add 107 = .ok (.isub, 1) := by decide +kernel
theorem dX12_add_108 : decode cX12_add 108 = .ok (.iaload, 1) := by decide +kernel
theorem dX12_add_109 : decode cX12_add 109 = .ok (.iastore, 1) := by decide +kernel
theorem dX12_add_110 : decode cX12_add 110 = .ok (.aload_n 0, 1) := by decide +kernel
theorem dX12_add_111 : decode cX12_add 111 = .ok (.getfield 66, 3) := by decide +kernel
theorem dX12_add_114 : decode cX12_add 114 = .ok (.iload 6, 2) := by decide +kernel
theorem dX12_add_116 : decode cX12_add 116 = .ok (.aload_n 0, 1) := by decide +kernel
theorem dX12_add_117 : decode cX12_add 117 = .ok (.getfield 66, 3) := by decide +kernel
theorem dX12_add_120 : decode cX12_add 120 = .ok (.iload 6, 2) := by decide +kernel
theorem dX12_add_122 : decode cX12_add 122 = .ok (.iconst 1, 1) := by decide +kernel
theorem dX12_add_123 : decode cX12_add 123 = .ok (.isub, 1) := by decide +kernel
theorem dX12_add_124 : decode cX12_add 124 = .ok (.iaload, 1) := by decide +kernel
theorem dX12_add_125 : decode cX12_add 125 = .ok (.iastore, 1) := by decide +kernel
theorem dX12_add_126 : decode cX12_add 126 = .ok (.iinc 6 (-1), 3) := by decide +kernel
theorem dX12_add_129 : decode cX12_add 129 = .ok (.goto (-77), 3) := by decide +kernel
theorem dX12_add_132 : decode cX12_add 132 = .ok (.aload_n 0, 1) := by decide +kernel
theorem dX12_add_133 : decode cX12_add 133 = .ok (.getfield 60, 3) := by decide +kernel
theorem dX12_add_136 : decode cX12_add 136 = .ok (.iload 6, 2) := by decide +kernel
theorem dX12_add_138 : decode cX12_add 138 = .ok (.iload_n 2, 1) := by decide +kernel
theorem dX12_add_139 : decode cX12_add 139 = .ok (.iastore, 1) := by decide +kernel
theorem dX12_add_140 : decode cX12_add 140 = .ok (.aload_n 0, 1) := by decide +kernel
theorem dX12_add_141 : decode cX12_add 141 = .ok (.getfield 63, 3) := by decide +kernel
theorem dX12_add_144 : decode cX12_add 144 = .ok (.iload 6, 2) := by decide +kernel
theorem dX12_add_146 : decode cX12_add 146 = .ok (.lload_n 3, 1) := by decide +kernel
theorem dX12_add_147 : decode cX12_add 147 = .ok (.l2i, 1) := by decide +kernel
theorem dX12_add_148 : decode cX12_add 148 = .ok (.iastore, 1) := by decide +kernel
theorem dX12_add_149 : decode cX12_add 149 = .ok (.aload_n 0, 1) := by decide +kernel
theorem dX12_add_150 : decode cX12_add 150 = .ok (.getfield 66, 3) := by decide +kernel
theorem dX12_add_153 : decode cX12_add 153 = .ok (.iload 6, 2) := by decide +kernel
theorem dX12_add_155 : decode cX12_add 155 = .ok (.iload 5, 2) := by decide +kernel
theorem dX12_add_157 : decode cX12_add 157 = .ok (.iastore, 1) := by decide +kernel
theorem dX12_add_158 : decode cX12_add 158 = .ok (.aload_n 0, 1) := by decide +kernel
theorem dX12_add_159 : decode cX12_add 159 = .ok (.getfield 57, 3) := by decide +kernel
theorem dX12_add_162 : decode cX12_add 162 = .ok (.iload_n 1, 1) := by decide +kernel
theorem dX12_add_163 : decode cX12_add 163 = .ok (.dup2, 1) := by decide +kernel
theorem dX12_add_164 : decode cX12_add 164 = .ok (.iaload, 1) := by decide +kernel
theorem dX12_add_165 : decode cX12_add 165 = .ok (.iconst 1, 1) := by decide +kernel
theorem dX12_add_166 : decode cX12_add 166 = .ok (.iadd, 1) := by decide +kernel
theorem dX12_add_167 : decode cX12_add 167 = .ok (.iastore, 1) := by decide +kernel
theorem dX12_add_168 : decode cX12_add 168 = .ok (.return_, 1) := by decide +kernel
theorem dX12_isBefore_0 : decode cX12_isBefore 0 = .ok (.iload_n 1, 1) := by decide +kernel
theorem dX12_isBefore_1 : decode cX12_isBefore 1 = .ok (.aload_n 0, 1) := by decide +kernel
theorem dX12_isBefore_2 : decode cX12_isBefore 2 = .ok (.getfield 60, 3) := by decide +kernel
theorem dX12_isBefore_5 : decode cX12_isBefore 5 = .ok (.iload 4, 2) := by decide +kernel
theorem dX12_isBefore_7 : decode cX12_isBefore 7 = .ok (.iaload, 1) := by decide +kernel
theorem dX12_isBefore_8 : decode cX12_isBefore 8 = .ok (.if_icmp .eq 20, 3) := by decide +kernel
theorem dX12_isBefore_11 : decode cX12_isBefore 11 = .ok (.iload_n 1, 1) := by decide +kernel
theorem dX12_isBefore_12 : decode cX12_isBefore 12 = .ok (.aload_n 0, 1) := by decide +kernel
theorem dX12_isBefore_13 : decode cX12_isBefore 13 = .ok (.getfield 60, 3) := by decide +kernel
theorem dX12_isBefore_16 : decode cX12_isBefore 16 = .ok (.iload 4, 2) := by decide +kernel
theorem dX12_isBefore_18 : decode cX12_isBefore 18 = .ok (.iaload, 1) := by decide +kernel
theorem dX12_isBefore_19 : decode cX12_isBefore 19 = .ok (.if_icmp .ge 7, 3) := by decide +kernel
theorem dX12_isBefore_22 : decode cX12_isBefore 22 = .ok (.iconst 1, 1) := by decide +kernel
theorem dX12_isBefore_23 : decode cX12_isBefore 23 = .ok (.goto 4, 3) := by decide +kernel
theorem dX12_isBefore_26 : decode cX12_isBefore 26 = .ok (.iconst 0, 1) := by decide +kernel
theorem dX12_isBefore_27 : decode cX12_isBefore 27 = .ok (.ireturn, 1) := by decide +kernel
theorem dX12_isBefore_28 : decode cX12_isBefore 28 = .ok (.iload_n 2, 1) := by decide +kernel
theorem dX12_isBefore_29 : decode cX12_isBefore 29 = .ok (.aload_n 0, 1) := by decide +kernel
theorem dX12_isBefore_30 : decode cX12_isBefore 30 = .ok (.getfield 66, 3) := by decide +kernel
theorem dX12_isBefore_33 : decode cX12_isBefore 33 = .ok (.iload 4, 2) := by decide +kernel
theorem dX12_isBefore_35 : decode cX12_isBefore 35 = .ok (.iaload, 1) := by decide +kernel
theorem dX12_isBefore_36 : decode cX12_isBefore 36 = .ok (.if_icmp .eq 22, 3) := by decide +kernel
theorem dX12_isBefore_39 : decode cX12_isBefore 39 = .ok (.iload_n 2, 1) := by decide +kernel
theorem dX12_isBefore_40 : decode cX12_isBefore 40 = .ok (.aload_n 0, 1) := by decide +kernel
theorem dX12_isBefore_41 : decode cX12_isBefore 41 = .ok (.getfield 66, 3) := by decide +kernel
theorem dX12_isBefore_44 : decode cX12_isBefore 44 = .ok (.iload 4, 2) := by decide +kernel
theorem dX12_isBefore_46 : decode cX12_isBefore 46 = .ok (.iaload, 1) := by decide +kernel
theorem dX12_isBefore_47 : decode cX12_isBefore 47 = .ok (.if_icmp .ge 7, 3) := by decide +kernel
theorem dX12_isBefore_50 : decode cX12_isBefore 50 = .ok (.iconst 1, 1) := by decide +kernel
theorem dX12_isBefore_51 : decode cX12_isBefore 51 = .ok (.goto 23, 3) := by decide +kernel
theorem dX12_isBefore_54 : decode cX12_isBefore 54 = .ok (.iconst 0, 1) := by decide +kernel
theorem dX12_isBefore_55 : decode cX12_isBefore 55 = .ok (.goto 19, 3) := by decide +kernel
theorem dX12_isBefore_58 : decode cX12_isBefore 58 = .ok (.iload_n 3, 1) := by decide +kernel
theorem dX12_isBefore_59 : decode cX12_isBefore 59 = .ok (.aload_n 0, 1) := by decide +kernel
theorem dX12_isBefore_60 : decode cX12_isBefore 60 = .ok (.getfield 63, 3) := by decide +kernel
theorem dX12_isBefore_63 : decode cX12_isBefore 63 = .ok (.iload 4, 2) := by decide +kernel
theorem dX12_isBefore_65 : decode cX12_isBefore 65 = .ok (.iaload, 1) := by decide +kernel
theorem dX12_isBefore_66 : decode cX12_isBefore 66 = .ok (.if_icmp .ge 7, 3) := by decide +kernel
theorem dX12_isBefore_69 : decode cX12_isBefore 69 = .ok (.iconst 1, 1) := by decide +kernel
theorem dX12_isBefore_70 : decode cX12_isBefore 70 = .ok (.goto 4, 3) := by decide +kernel
theorem dX12_isBefore_73 : decode cX12_isBefore 73 = .ok (.iconst 0, 1) := by decide +kernel
theorem dX12_isBefore_74 : decode cX12_isBefore 74 = .ok (.ireturn, 1) := by decide +kernel
theorem dX12_make_0 : decode cX12_make 0 = .ok (.aload_n 0, 1) := by decide +kernel
theorem dX12_make_1 : decode cX12_make 1 = .ok (.getfield 57, 3) := by decide +kernel
theorem dX12_make_4 : decode cX12_make 4 = .ok (.iload_n 1, 1) := by decide +kernel
theorem dX12_make_5 : decode cX12_make 5 = .ok (.iconst 0, 1) := by decide +kernel
theorem dX12_make_6 : decode cX12_make 6 = .ok (.iastore, 1) := by decide +kernel
theorem dX12_make_7 : decode cX12_make 7 = .ok (.aload_n 0, 1) := by decide +kernel
theorem dX12_make_8 : decode cX12_make 8 = .ok (.getfield 30, 3) := by decide +kernel
theorem dX12_make_11 : decode cX12_make 11 = .ok (.iload_n 1, 1) := by decide +kernel
theorem dX12_make_12 : decode cX12_make 12 = .ok (.iaload, 1) := by decide +kernel
theorem dX12_make_13 : decode cX12_make 13 = .ok (.ifCond .ne 67, 3) := by decide +kernel
theorem dX12_make_16 : decode cX12_make 16 = .ok (.iconst 0, 1) := by decide +kernel
theorem dX12_make_17 : decode cX12_make 17 = .ok (.istore_n 3, 1) := by decide +kernel
theorem dX12_make_18 : decode cX12_make 18 = .ok (.iload_n 3, 1) := by decide +kernel
theorem dX12_make_19 : decode cX12_make 19 = .ok (.iload_n 2, 1) := by decide +kernel
theorem dX12_make_20 : decode cX12_make 20 = .ok (.if_icmp .ge 57, 3) := by decide +kernel
theorem dX12_make_23 : decode cX12_make 23 = .ok (.aload_n 0, 1) := by decide +kernel
theorem dX12_make_24 : decode cX12_make 24 = .ok (.getfield 7, 3) := by decide +kernel
theorem dX12_make_27 : decode cX12_make 27 = .ok (.iload_n 3, 1) := by decide +kernel
theorem dX12_make_28 : decode cX12_make 28 = .ok (.iaload, 1) := by decide +kernel
theorem dX12_make_29 : decode cX12_make 29 = .ok (.aload_n 0, 1) := by decide +kernel
theorem dX12_make_30 : decode cX12_make 30 = .ok (.getfield 33, 3) := by decide +kernel
theorem dX12_make_33 : decode cX12_make 33 = .ok (.iload_n 1, 1) := by decide +kernel
theorem dX12_make_34 : decode cX12_make 34 = .ok (.iaload, 1) := by decide +kernel
theorem dX12_make_35 : decode cX12_make 35 = .ok (.if_icmp .ne 36, 3) := by decide +kernel
theorem dX12_make_38 : decode cX12_make 38 = .ok (.aload_n 0, 1) := by decide +kernel
theorem dX12_make_39 : decode cX12_make 39 = .ok (.getfield 22, 3) := by decide +kernel
theorem dX12_make_42 : decode cX12_make 42 = .ok (.iload_n 3, 1) := by decide +kernel
theorem dX12_make_43 : decode cX12_make 43 = .ok (.baload, 1) := by decide +kernel
theorem dX12_make_44 : decode cX12_make 44 = .ok (.ifCond .ne 27, 3) := by decide +kernel
theorem dX12_make_47 : decode cX12_make 47 = .ok (.aload_n 0, 1) := by decide +kernel
theorem dX12_make_48 : decode cX12_make 48 = .ok (.iload_n 1, 1) := by decide +kernel
theorem dX12_make_49 : decode cX12_make 49 = .ok (.aload_n 0, 1) := by decide +kernel
theorem dX12_make_50 : decode cX12_make 50 = .ok (.getfield 13, 3) := by decide +kernel
theorem dX12_make_53 : decode cX12_make 53 = .ok (.iload_n 3, 1) := by decide +kernel
theorem dX12_make_54 : decode cX12_make 54 = .ok (.iaload, 1) := by decide +kernel
theorem dX12_make_55 : decode cX12_make 55 = .ok (.aload_n 0, 1) := by decide +kernel
theorem dX12_make_56 : decode cX12_make 56 = .ok (.getfield 16, 3) := by decide +kernel
theorem dX12_make_59 : decode cX12_make 59 = .ok (.iload_n 3, 1) := by decide +kernel
theorem dX12_make_60 : decode cX12_make 60 = .ok (.iaload, 1) := by decide +kernel
theorem dX12_make_61 : decode cX12_make 61 = .ok (.i2l, 1) := by decide +kernel
theorem dX12_make_62 : decode cX12_make 62 = .ok (.aload_n 0, 1) := by decide +kernel
theorem dX12_make_63 : decode cX12_make 63 = .ok (.getfield 19, 3) := by decide +kernel
theorem dX12_make_66 : decode cX12_make 66 = .ok (.iload_n 3, 1) := by decide +kernel
theorem dX12_make_67 : decode cX12_make 67 = .ok (.iaload, 1) := by decide +kernel
theorem dX12_make_68 : decode cX12_make 68 = .ok (.invokevirtual 159, 3) := by decide +kernel
theorem dX12_make_71 : decode cX12_make 71 = .ok (.iinc 3 1, 3) := by decide +kernel
theorem dX12_make_74 : decode cX12_make 74 = .ok (.goto (-56), 3) := by decide +kernel
theorem dX12_make_77 : decode cX12_make 77 = .ok (.goto 46, 3) := by decide +kernel
theorem dX12_make_80 : decode cX12_make 80 = .ok (.aload_n 0, 1) := by decide +kernel
theorem dX12_make_81 : decode cX12_make 81 = .ok (.getfield 30, 3) := by decide +kernel
theorem dX12_make_84 : decode cX12_make 84 = .ok (.iload_n 1, 1) := by decide +kernel
theorem dX12_make_85 : decode cX12_make 85 = .ok (.iaload, 1) := by decide +kernel
theorem dX12_make_86 : decode cX12_make 86 = .ok (.bipush 6, 2) := by decide +kernel
theorem dX12_make_88 : decode cX12_make 88 = .ok (.if_icmp .gt 11, 3) := by decide +kernel
theorem dX12_make_91 : decode cX12_make 91 = .ok (.aload_n 0, 1) := by decide +kernel
theorem dX12_make_92 : decode cX12_make 92 = .ok (.iload_n 1, 1) := by decide +kernel
theorem dX12_make_93 : decode cX12_make 93 = .ok (.invokevirtual 163, 3) := by decide +kernel
theorem dX12_make_96 : decode cX12_make 96 = .ok (.goto 27, 3) := by decide +kernel
theorem dX12_make_99 : decode cX12_make 99 = .ok (.aload_n 0, 1) := by decide +kernel
theorem dX12_make_100 : decode cX12_make 100 = .ok (.getfield 30, 3) := by decide +kernel
theorem dX12_make_103 : decode cX12_make 103 = .ok (.iload_n 1, 1) := by decide +kernel
theorem dX12_make_104 : decode cX12_make 104 = .ok (.iaload, 1) := by decide +kernel
theorem dX12_make_105 : decode cX12_make 105 = .ok (.bipush 10, 2) := by decide +kernel
theorem dX12_make_107 : decode cX12_make 107 = .ok (.if_icmp .gt 11, 3) := by decide +kernel
theorem dX12_make_110 : decode cX12_make 110 = .ok (.aload_n 0, 1) := by decide +kernel
theorem dX12_make_111 : decode cX12_make 111 = .ok (.iload_n 1, 1) := by decide +kernel
theorem dX12_make_112 : decode cX12_make 112 = .ok (.invokevirtual 167, 3) := by decide +kernel
theorem dX12_make_115 : decode cX12_make 115 = .ok (.goto 8, 3) := by decide +kernel
theorem dX12_make_118 : decode cX12_make 118 = .ok (.aload_n 0, 1) := by decide +kernel
theorem dX12_make_119 : decode cX12_make 119 = .ok (.iload_n 1, 1) := by decide +kernel
theorem dX12_make_120 : decode cX12_make 120 = .ok (.invokevirtual 170, 3) := by decide +kernel
theorem dX12_make_123 : decode cX12_make 123 = .ok (.return_, 1) := by decide +kernel
theorem dX12_makeEach_0 : decode cX12_makeEach 0 = .ok (.aload_n 0, 1) := by decide +kernel
theorem dX12_makeEach_1 : decode cX12_makeEach 1 = .ok (.getfield 33, 3) := by decide +kernel
theorem dX12_makeEach_4 : decode cX12_makeEach 4 = .ok (.iload_n 1, 1) := by decide +kernel
theorem dX12_makeEach_5 : decode cX12_makeEach 5 = .ok (.iaload, 1) := by decide +kernel
theorem dX12_makeEach_6 : decode cX12_makeEach 6 = .ok (.istore_n 2, 1) := by decide +kernel
theorem dX12_makeEach_7 : decode cX12_makeEach 7 = .ok (.sipush 400, 3) := by decide +kernel
theorem dX12_makeEach_10 : decode cX12_makeEach 10 = .ok (.iload_n 2, 1) := by decide +kernel
theorem dX12_makeEach_11 : decode cX12_makeEach 11 = .ok (.imul, 1) := by decide +kernel
theorem dX12_makeEach_12 : decode cX12_makeEach 12 = .ok (.istore_n 3, 1) := by decide +kernel
theorem dX12_makeEach_13 : decode cX12_makeEach 13 = .ok (.iload_n 3, 1) := by decide +kernel
theorem dX12_makeEach_14 : decode cX12_makeEach 14 = .ok (.sipush 400, 3) := by decide +kernel
theorem dX12_makeEach_17 : decode cX12_makeEach 17 = .ok (.iload_n 2, 1) := by decide +kernel
theorem dX12_makeEach_18 : decode cX12_makeEach 18 = .ok (.imul, 1) := by decide +kernel
theorem dX12_makeEach_19 : decode cX12_makeEach 19 = .ok (.aload_n 0, 1) := by decide +kernel
theorem dX12_makeEach_20 : decode cX12_makeEach 20 = .ok (.getfield 57, 3) := by decide +kernel
theorem dX12_makeEach_23 : decode cX12_makeEach 23 = .ok (.iload_n 2, 1) := by decide +kernel
theorem dX12_makeEach_24 : decode cX12_makeEach 24 = .ok (.iaload, 1) := by decide +kernel
theorem dX12_makeEach_25 : decode cX12_makeEach 25 = .ok (.iadd, 1) := by decide +kernel
theorem dX12_makeEach_26 : decode cX12_makeEach 26 = .ok (.if_icmp .ge 348, 3) := by decide +kernel
theorem dX12_makeEach_29 : decode cX12_makeEach 29 = .ok (.aload_n 0, 1) := by decide +kernel
theorem dX12_makeEach_30 : decode cX12_makeEach 30 = .ok (.getfield 30, 3) := by decide +kernel
theorem dX12_makeEach_33 : decode cX12_makeEach 33 = .ok (.iload_n 1, 1) := by decide +kernel
theorem dX12_makeEach_34 : decode cX12_makeEach 34 = .ok (.iaload, 1) := by decide +kernel
theorem dX12_makeEach_35 : decode cX12_makeEach 35 = .ok (.tableswitch 314 1 5 #[33, 166, 201, 236, 273], 33) := by decide +kernel
theorem dX12_makeEach_68 : decode cX12_makeEach 68 = .ok (.aload_n 0, 1) := by decide +kernel
theorem dX12_makeEach_69 : decode cX12_makeEach 69 = .ok (.getfield 39, 3) := by decide +kernel
theorem dX12_makeEach_72 : decode cX12_makeEach 72 = .ok (.iload_n 1, 1) := by decide +kernel
theorem dX12_makeEach_73 : decode cX12_makeEach 73 = .ok (.iaload, 1) := by decide +kernel
theorem dX12_makeEach_74 : decode cX12_makeEach 74 = .ok (.ifCond .ne 12, 3) := by decide +kernel
theorem dX12_makeEach_77 : decode cX12_makeEach 77 = .ok (.aload_n 0, 1) := by decide +kernel
theorem dX12_makeEach_78 : decode cX12_makeEach 78 = .ok (.getfield 60, 3) := by decide +kernel
theorem dX12_makeEach_81 : decode cX12_makeEach 81 = .ok (.iload_n 3, 1) := by decide +kernel
theorem dX12_makeEach_82 : decode cX12_makeEach 82 = .ok (.iaload, 1) := by decide +kernel
theorem dX12_makeEach_83 : decode cX12_makeEach 83 = .ok (.goto 28, 3) := by decide +kernel
theorem dX12_makeEach_86 : decode cX12_makeEach 86 = .ok (.aload_n 0, 1) := by decide +kernel
theorem dX12_makeEach_87 : decode cX12_makeEach 87 = .ok (.getfield 39, 3) := by decide +kernel
theorem dX12_makeEach_90 : decode cX12_makeEach 90 = .ok (.iload_n 1, 1) := by decide +kernel
theorem dX12_makeEach_91 : decode cX12_makeEach 91 = .ok (.iaload, 1) := by decide +kernel
theorem dX12_makeEach_92 : decode cX12_makeEach 92 = .ok (.iconst 1, 1) := by decide +kernel
theorem dX12_makeEach_93 : decode cX12_makeEach 93 = .ok (.if_icmp .ne 12, 3) := by decide +kernel
theorem dX12_makeEach_96 : decode cX12_makeEach 96 = .ok (.aload_n 0, 1) := by decide +kernel
theorem dX12_makeEach_97 : decode cX12_makeEach 97 = .ok (.getfield 63, 3) := by decide +kernel
theorem dX12_makeEach_100 : decode cX12_makeEach 100 = .ok (.iload_n 3, 1) := by decide +kernel
theorem dX12_makeEach_101 : decode cX12_makeEach 101 = .ok (.iaload, 1) := by decide +kernel
theorem dX12_makeEach_102 : decode cX12_makeEach 102 = .ok (.goto 9, 3) := by decide +kernel
theorem dX12_makeEach_105 : decode cX12_makeEach 105 = .ok (.aload_n 0, 1) := by decide +kernel
theorem dX12_makeEach_106 : decode cX12_makeEach 106 = .ok (.getfield 66, 3) := by decide +kernel
theorem dX12_makeEach_109 : decode cX12_makeEach 109 = .ok (.iload_n 3, 1) := by decide +kernel
theorem dX12_makeEach_110 : decode cX12_makeEach 110 = .ok (.iaload, 1) := by decide +kernel
theorem dX12_makeEach_111 : decode cX12_makeEach 111 = .ok (.istore 4, 2) := by decide +kernel
theorem dX12_makeEach_113 : decode cX12_makeEach 113 = .ok (.aload_n 0, 1) := by decide +kernel
theorem dX12_makeEach_114 : decode cX12_makeEach 114 = .ok (.getfield 42, 3) := by decide +kernel
theorem dX12_makeEach_117 : decode cX12_makeEach 117 = .ok (.iload_n 1, 1) := by decide +kernel
theorem dX12_makeEach_118 : decode cX12_makeEach 118 = .ok (.iaload, 1) := by decide +kernel
theorem dX12_makeEach_119 : decode cX12_makeEach 119 = .ok (.bipush 60, 2) := by decide +kernel
theorem dX12_makeEach_121 : decode cX12_makeEach 121 = .ok (.if_icmp .ne 17, 3) := by decide +kernel
theorem dX12_makeEach_124 : decode cX12_makeEach 124 = .ok (.iload 4, 2) := by decide +kernel
theorem dX12_makeEach_126 : decode cX12_makeEach 126 = .ok (.aload_n 0, 1) := by decide +kernel
theorem dX12_makeEach_127 : decode cX12_makeEach 127 = .ok (.getfield 36, 3) := by decide +kernel
theorem dX12_makeEach_130 : decode cX12_makeEach 130 = .ok (.iload_n 1, 1) := by decide +kernel
theorem dX12_makeEach_131 : decode cX12_makeEach 131 = .ok (.iaload, 1) := by decide +kernel
theorem dX12_makeEach_132 : decode cX12_makeEach 132 = .ok (.if_icmp .ge 236, 3) := by decide +kernel
theorem dX12_makeEach_135 : decode cX12_makeEach 135 = .ok (.goto 39, 3) := by decide +kernel
theorem dX12_makeEach_138 : decode cX12_makeEach 138 = .ok (.aload_n 0, 1) := by decide +kernel
theorem dX12_makeEach_139 : decode cX12_makeEach 139 = .ok (.getfield 42, 3) := by decide +kernel
theorem dX12_makeEach_142 : decode cX12_makeEach 142 = .ok (.iload_n 1, 1) := by decide +kernel
theorem dX12_makeEach_143 : decode cX12_makeEach 143 = .ok (.iaload, 1) := by decide +kernel
theorem dX12_makeEach_144 : decode cX12_makeEach 144 = .ok (.bipush 62, 2) := by decide +kernel
theorem dX12_makeEach_146 : decode cX12_makeEach 146 = .ok (.if_icmp .ne 17, 3) := by decide +kernel
theorem dX12_makeEach_149 : decode cX12_makeEach 149 = .ok (.iload 4, 2) := by decide +kernel
theorem dX12_makeEach_151 : decode cX12_makeEach 151 = .ok (.aload_n 0, 1) := by decide +kernel
theorem dX12_makeEach_152 : decode cX12_makeEach 152 = .ok (.getfield 36, 3) := by decide +kernel
theorem dX12_makeEach_155 : decode cX12_makeEach 155 = .ok (.iload_n 1, 1) := by decide +kernel
theorem dX12_makeEach_156 : decode cX12_makeEach 156 = .ok (.iaload, 1) := by decide +kernel
theorem dX12_makeEach_157 : decode cX12_makeEach 157 = .ok (.if_icmp .le 211, 3) := by decide +kernel
theorem dX12_makeEach_160 : decode cX12_makeEach 160 = .ok (.goto 14, 3) := by decide +kernel
theorem dX12_makeEach_163 : decode cX12_makeEach 163 = .ok (.iload 4, 2) := by decide +kernel
theorem dX12_makeEach_165 : decode cX12_makeEach 165 = .ok (.aload_n 0, 1) := by decide +kernel
theorem dX12_makeEach_166 : decode cX12_makeEach 166 = .ok (.getfield 36, 3) := by decide +kernel
theorem dX12_makeEach_169 : decode cX12_makeEach 169 = .ok (.iload_n 1, 1) := by decide +kernel
theorem dX12_makeEach_170 : decode cX12_makeEach 170 = .ok (.iaload, 1) := by decide +kernel
theorem dX12_makeEach_171 : decode cX12_makeEach 171 = .ok (.if_icmp .ne 197, 3) := by decide +kernel
theorem dX12_makeEach_174 : decode cX12_makeEach 174 = .ok (.aload_n 0, 1) := by decide +kernel
theorem dX12_makeEach_175 : decode cX12_makeEach 175 = .ok (.iload_n 1, 1) := by decide +kernel
theorem dX12_makeEach_176 : decode cX12_makeEach 176 = .ok (.aload_n 0, 1) := by decide +kernel
theorem dX12_makeEach_177 : decode cX12_makeEach 177 = .ok (.getfield 60, 3) := by decide +kernel
theorem dX12_makeEach_180 : decode cX12_makeEach 180 = .ok (.iload_n 3, 1) := by decide +kernel
theorem dX12_makeEach_181 : decode cX12_makeEach 181 = .ok (.iaload, 1) := by decide +kernel
theorem dX12_makeEach_182 : decode cX12_makeEach 182 = .ok (.aload_n 0, 1) := by decide +kernel
theorem dX12_makeEach_183 : decode cX12_makeEach 183 = .ok (.getfield 63, 3) := by decide +kernel
theorem dX12_makeEach_186 : decode cX12_makeEach 186 = .ok (.iload_n 3, 1) := by decide +kernel
theorem dX12_makeEach_187 : decode cX12_makeEach 187 = .ok (.iaload, 1) := by decide +kernel
theorem dX12_makeEach_188 : decode cX12_makeEach 188 = .ok (.i2l, 1) := by decide +kernel
theorem dX12_makeEach_189 : decode cX12_makeEach 189 = .ok (.aload_n 0, 1) := by decide +kernel
theorem dX12_makeEach_190 : decode cX12_makeEach 190 = .ok (.getfield 66, 3) := by decide +kernel
theorem dX12_makeEach_193 : decode cX12_makeEach 193 = .ok (.iload_n 3, 1) := by decide +kernel
theorem dX12_makeEach_194 : decode cX12_makeEach 194 = .ok (.iaload, 1) := by decide +kernel
theorem dX12_makeEach_195 : decode cX12_makeEach 195 = .ok (.invokevirtual 159, 3) := by decide +kernel
theorem dX12_makeEach_198 : decode cX12_makeEach 198 = .ok (.goto 170, 3) := by decide +kernel
theorem dX12_makeEach_201 : decode cX12_makeEach 201 = .ok (.aload_n 0, 1) := by decide +kernel
theorem dX12_makeEach_202 : decode cX12_makeEach 202 = .ok (.iload_n 1, 1) := by decide +kernel
theorem dX12_makeEach_203 : decode cX12_makeEach 203 = .ok (.aload_n 0, 1) := by decide +kernel
theorem dX12_makeEach_204 : decode cX12_makeEach 204 = .ok (.getfield 60, 3) := by decide +kernel
theorem dX12_makeEach_207 : decode cX12_makeEach 207 = .ok (.iload_n 3, 1) := by decide +kernel
theorem dX12_makeEach_208 : decode cX12_makeEach 208 = .ok (.iaload, 1) := by decide +kernel
theorem dX12_makeEach_209 : decode cX12_makeEach 209 = .ok (.aload_n 0, 1) := by decide +kernel
theorem dX12_makeEach_210 : decode cX12_makeEach 210 = .ok (.getfield 63, 3) := by decide +kernel
theorem dX12_makeEach_213 : decode cX12_makeEach 213 = .ok (.iload_n 3, 1) := by decide +kernel
theorem dX12_makeEach_214 : decode cX12_makeEach 214 = .ok (.iaload, 1) := by decide +kernel
theorem dX12_makeEach_215 : decode cX12_makeEach 215 = .ok (.i2l, 1) := by decide +kernel
theorem dX12_makeEach_216 : decode cX12_makeEach 216 = .ok (.aload_n 0, 1) := by decide +kernel
theorem dX12_makeEach_217 : decode cX12_makeEach 217 = .ok (.getfield 36, 3) := by decide +kernel
theorem dX12_makeEach_220 : decode cX12_makeEach 220 = .ok (.iload_n 1, 1) := by decide +kernel
theorem dX12_makeEach_221 : decode cX12_makeEach 221 = .ok (.iaload, 1) := by decide +kernel
theorem dX12_makeEach_222 : decode cX12_makeEach 222 = .ok (.i2l, 1) := by decide +kernel
theorem dX12_makeEach_223 : decode cX12_makeEach 223 = .ok (.ladd, 1) := by decide +kernel
theorem dX12_makeEach_224 : decode cX12_makeEach 224 = .ok (.aload_n 0, 1) := by decide +kernel
theorem dX12_makeEach_225 : decode cX12_makeEach 225 = .ok (.getfield 66, 3) := by decide +kernel
theorem dX12_makeEach_228 : decode cX12_makeEach 228 = .ok (.iload_n 3, 1) := by decide +kernel
theorem dX12_makeEach_229 : decode cX12_makeEach 229 = .ok (.iaload, 1) := by decide +kernel
theorem dX12_makeEach_230 : decode cX12_makeEach 230 = .ok (.invokevirtual 159, 3) := by decide +kernel
theorem dX12_makeEach_233 : decode cX12_makeEach 233 = .ok (.goto 135, 3) := by decide +kernel
theorem dX12_makeEach_236 : decode cX12_makeEach 236 = .ok (.aload_n 0, 1) := by decide +kernel
theorem dX12_makeEach_237 : decode cX12_makeEach 237 = .ok (.iload_n 1, 1) := by decide +kernel
theorem dX12_makeEach_238 : decode cX12_makeEach 238 = .ok (.aload_n 0, 1) := by decide +kernel
theorem dX12_makeEach_239 : decode cX12_makeEach 239 = .ok (.getfield 60, 3) := by decide +kernel
theorem dX12_makeEach_242 : decode cX12_makeEach 242 = .ok (.iload_n 3, 1) := by decide +kernel
theorem dX12_makeEach_243 : decode cX12_makeEach 243 = .ok (.iaload, 1) := by decide +kernel
theorem dX12_makeEach_244 : decode cX12_makeEach 244 = .ok (.aload_n 0, 1) := by decide +kernel
theorem dX12_makeEach_245 : decode cX12_makeEach 245 = .ok (.getfield 63, 3) := by decide +kernel
theorem dX12_makeEach_248 : decode cX12_makeEach 248 = .ok (.iload_n 3, 1) := by decide +kernel
theorem dX12_makeEach_249 : decode cX12_makeEach 249 = .ok (.iaload, 1) := by decide +kernel
theorem dX12_makeEach_250 : decode cX12_makeEach 250 = .ok (.i2l, 1) := by decide +kernel
theorem dX12_makeEach_251 : decode cX12_makeEach 251 = .ok (.aload_n 0, 1) := by decide +kernel
theorem dX12_makeEach_252 : decode cX12_makeEach 252 = .ok (.getfield 36, 3) := by decide +kernel
theorem dX12_makeEach_255 : decode cX12_makeEach 255 = .ok (.iload_n 1, 1) := by decide +kernel
theorem dX12_makeEach_256 : decode cX12_makeEach 256 = .ok (.iaload, 1) := by decide +kernel
theorem dX12_makeEach_257 : decode cX12_makeEach 257 = .ok (.i2l, 1) := by decide +kernel
theorem dX12_makeEach_258 : decode cX12_makeEach 258 = .ok (.lmul, 1) := by decide +kernel
theorem dX12_makeEach_259 : decode cX12_makeEach 259 = .ok (.aload_n 0, 1) := by decide +kernel
theorem dX12_makeEach_260 : decode cX12_makeEach 260 = .ok (.getfield 66, 3) := by decide +kernel
theorem dX12_makeEach_263 : decode cX12_makeEach 263 = .ok (.iload_n 3, 1) := by decide +kernel
theorem dX12_makeEach_264 : decode cX12_makeEach 264 = .ok (.iaload, 1) := by decide +kernel
theorem dX12_makeEach_265 : decode cX12_makeEach 265 = .ok (.invokevirtual 159, 3) := by decide +kernel
theorem dX12_makeEach_268 : decode cX12_makeEach 268 = .ok (.goto 100, 3) := by decide +kernel
theorem dX12_makeEach_271 : decode cX12_makeEach 271 = .ok (.aload_n 0, 1) := by decide +kernel
theorem dX12_makeEach_272 : decode cX12_makeEach 272 = .ok (.iload_n 1, 1) := by decide +kernel
theorem dX12_makeEach_273 : decode cX12_makeEach 273 = .ok (.aload_n 0, 1) := by decide +kernel
theorem dX12_makeEach_274 : decode cX12_makeEach 274 = .ok (.getfield 60, 3) := by decide +kernel
theorem dX12_makeEach_277 : decode cX12_makeEach 277 = .ok (.iload_n 3, 1) := by decide +kernel
theorem dX12_makeEach_278 : decode cX12_makeEach 278 = .ok (.iaload, 1) := by decide +kernel
theorem dX12_makeEach_279 : decode cX12_makeEach 279 = .ok (.aload_n 0, 1) := by decide +kernel
theorem dX12_makeEach_280 : decode cX12_makeEach 280 = .ok (.getfield 36, 3) := by decide +kernel
theorem dX12_makeEach_283 : decode cX12_makeEach 283 = .ok (.iload_n 1, 1) := by decide +kernel
theorem dX12_makeEach_284 : decode cX12_makeEach 284 = .ok (.iaload, 1) := by decide +kernel
theorem dX12_makeEach_285 : decode cX12_makeEach 285 = .ok (.iadd, 1) := by decide +kernel
theorem dX12_makeEach_286 : decode cX12_makeEach 286 = .ok (.bipush 32, 2) := by decide +kernel
theorem dX12_makeEach_288 : decode cX12_makeEach 288 = .ok (.irem, 1) := by decide +kernel
theorem dX12_makeEach_289 : decode cX12_makeEach 289 = .ok (.aload_n 0, 1) := by decide +kernel
theorem dX12_makeEach_290 : decode cX12_makeEach 290 = .ok (.getfield 63, 3) := by decide +kernel
theorem dX12_makeEach_293 : decode cX12_makeEach 293 = .ok (.iload_n 3, 1) := by decide +kernel
theorem dX12_makeEach_294 : decode cX12_makeEach 294 = .ok (.iaload, 1) := by decide +kernel
theorem dX12_makeEach_295 : decode cX12_makeEach 295 = .ok (.i2l, 1) := by decide +kernel
theorem dX12_makeEach_296 : decode cX12_makeEach 296 = .ok (.aload_n 0, 1) := by decide +kernel
theorem dX12_makeEach_297 : decode cX12_makeEach 297 = .ok (.getfield 66, 3) := by decide +kernel
theorem dX12_makeEach_300 : decode cX12_makeEach 300 = .ok (.iload_n 3, 1) := by decide +kernel
theorem dX12_makeEach_301 : decode cX12_makeEach 301 = .ok (.iaload, 1) := by decide +kernel
theorem dX12_makeEach_302 : decode cX12_makeEach 302 = .ok (.invokevirtual 159, 3) := by decide +kernel
theorem dX12_makeEach_305 : decode cX12_makeEach 305 = .ok (.goto 63, 3) := by decide +kernel
theorem dX12_makeEach_308 : decode cX12_makeEach 308 = .ok (.aload_n 0, 1) := by decide +kernel
theorem dX12_makeEach_309 : decode cX12_makeEach 309 = .ok (.iload_n 1, 1) := by decide +kernel
theorem dX12_makeEach_310 : decode cX12_makeEach 310 = .ok (.aload_n 0, 1) := by decide +kernel
theorem dX12_makeEach_311 : decode cX12_makeEach 311 = .ok (.getfield 60, 3) := by decide +kernel
theorem dX12_makeEach_314 : decode cX12_makeEach 314 = .ok (.iload_n 3, 1) := by decide +kernel
theorem dX12_makeEach_315 : decode cX12_makeEach 315 = .ok (.iaload, 1) := by decide +kernel
theorem dX12_makeEach_316 : decode cX12_makeEach 316 = .ok (.aload_n 0, 1) := by decide +kernel
theorem dX12_makeEach_317 : decode cX12_makeEach 317 = .ok (.getfield 63, 3) := by decide +kernel
theorem dX12_makeEach_320 : decode cX12_makeEach 320 = .ok (.iload_n 3, 1) := by decide +kernel
theorem dX12_makeEach_321 : decode cX12_makeEach 321 = .ok (.iaload, 1) := by decide +kernel
theorem dX12_makeEach_322 : decode cX12_makeEach 322 = .ok (.i2l, 1) := by decide +kernel
theorem dX12_makeEach_323 : decode cX12_makeEach 323 = .ok (.aload_n 0, 1) := by decide +kernel
theorem dX12_makeEach_324 : decode cX12_makeEach 324 = .ok (.getfield 66, 3) := by decide +kernel
theorem dX12_makeEach_327 : decode cX12_makeEach 327 = .ok (.iload_n 3, 1) := by decide +kernel
theorem dX12_makeEach_328 : decode cX12_makeEach 328 = .ok (.iaload, 1) := by decide +kernel
theorem dX12_makeEach_329 : decode cX12_makeEach 329 = .ok (.aload_n 0, 1) := by decide +kernel
theorem dX12_makeEach_330 : decode cX12_makeEach 330 = .ok (.getfield 66, 3) := by decide +kernel
theorem dX12_makeEach_333 : decode cX12_makeEach 333 = .ok (.iload_n 3, 1) := by decide +kernel
theorem dX12_makeEach_334 : decode cX12_makeEach 334 = .ok (.iaload, 1) := by decide +kernel
theorem dX12_makeEach_335 : decode cX12_makeEach 335 = .ok (.aload_n 0, 1) := by decide +kernel
theorem dX12_makeEach_336 : decode cX12_makeEach 336 = .ok (.getfield 36, 3) := by decide +kernel
theorem dX12_makeEach_339 : decode cX12_makeEach 339 = .ok (.iload_n 1, 1) := by decide +kernel
theorem dX12_makeEach_340 : decode cX12_makeEach 340 = .ok (.iaload, 1) := by decide +kernel
theorem dX12_makeEach_341 : decode cX12_makeEach 341 = .ok (.irem, 1) := by decide +kernel
theorem dX12_makeEach_342 : decode cX12_makeEach 342 = .ok (.isub, 1) := by decide +kernel
theorem dX12_makeEach_343 : decode cX12_makeEach 343 = .ok (.invokevirtual 159, 3) := by decide +kernel
theorem dX12_makeEach_346 : decode cX12_makeEach 346 = .ok (.goto 22, 3) := by decide +kernel
theorem dX12_makeEach_349 : decode cX12_makeEach 349 = .ok (.aload_n 0, 1) := by decide +kernel
theorem dX12_makeEach_350 : decode cX12_makeEach 350 = .ok (.iload_n 1, 1) := by decide +kernel
theorem dX12_makeEach_351 : decode cX12_makeEach 351 = .ok (.aload_n 0, 1) := by decide +kernel
theorem dX12_makeEach_352 : decode cX12_makeEach 352 = .ok (.getfield 60, 3) := by decide +kernel
theorem dX12_makeEach_355 : decode cX12_makeEach 355 = .ok (.iload_n 3, 1) := by decide +kernel
theorem dX12_makeEach_356 : decode cX12_makeEach 356 = .ok (.iaload, 1) := by decide +kernel
theorem dX12_makeEach_357 : decode cX12_makeEach 357 = .ok (.aload_n 0, 1) := by decide +kernel
theorem dX12_makeEach_358 : decode cX12_makeEach 358 = .ok (.getfield 63, 3) := by decide +kernel
theorem dX12_makeEach_361 : decode cX12_makeEach 361 = .ok (.iload_n 3, 1) := by decide +kernel
theorem dX12_makeEach_362 : decode cX12_makeEach 362 = .ok (.iaload, 1) := by decide +kernel
theorem dX12_makeEach_363 : decode cX12_makeEach 363 = .ok (.i2l, 1) := by decide +kernel
theorem dX12_makeEach_364 : decode cX12_makeEach 364 = .ok (.iconst 0, 1) := by decide +kernel
theorem dX12_makeEach_365 : decode cX12_makeEach 365 = .ok (.invokevirtual 159, 3) := by decide +kernel
theorem dX12_makeEach_368 : decode cX12_makeEach 368 = .ok (.iinc 3 1, 3) := by decide +kernel
theorem dX12_makeEach_371 : decode cX12_makeEach 371 = .ok (.goto (-358), 3) := by decide +kernel
theorem dX12_makeEach_374 : decode cX12_makeEach 374 = .ok (.return_, 1) := by decide +kernel
theorem dX12_makeHeaps_0 : decode cX12_makeHeaps 0 = .ok (.aload_n 0, 1) := by decide +kernel
theorem dX12_makeHeaps_1 : decode cX12_makeHeaps 1 = .ok (.getfield 33, 3) := by decide +kernel
theorem dX12_makeHeaps_4 : decode cX12_makeHeaps 4 = .ok (.iload_n 1, 1) := by decide +kernel
theorem dX12_makeHeaps_5 : decode cX12_makeHeaps 5 = .ok (.iaload, 1) := by decide +kernel
theorem dX12_makeHeaps_6 : decode cX12_makeHeaps 6 = .ok (.istore_n 2, 1) := by decide +kernel
theorem dX12_makeHeaps_7 : decode cX12_makeHeaps 7 = .ok (.sipush 400, 3) := by decide +kernel
theorem dX12_makeHeaps_10 : decode cX12_makeHeaps 10 = .ok (.iload_n 2, 1) := by decide +kernel
theorem dX12_makeHeaps_11 : decode cX12_makeHeaps 11 = .ok (.imul, 1) := by decide +kernel
theorem dX12_makeHeaps_12 : decode cX12_makeHeaps 12 = .ok (.aload_n 0, 1) := by decide +kernel
theorem dX12_makeHeaps_13 : decode cX12_makeHeaps 13 = .ok (.getfield 57, 3) := by decide +kernel
theorem dX12_makeHeaps_16 : decode cX12_makeHeaps 16 = .ok (.iload_n 2, 1) := by decide +kernel
theorem dX12_makeHeaps_17 : decode cX12_makeHeaps 17 = .ok (.iaload, 1) := by decide +kernel
theorem dX12_makeHeaps_18 : decode cX12_makeHeaps 18 = .ok (.iadd, 1) := by decide +kernel
theorem dX12_makeHeaps_19 : decode cX12_makeHeaps 19 = .ok (.istore_n 3, 1) := by decide +kernel
theorem dX12_makeHeaps_20 : decode cX12_makeHeaps 20 = .ok (.lconst 0, 1) := by decide +kernel
theorem dX12_makeHeaps_21 : decode cX12_makeHeaps 21 = .ok (.lstore 4, 2) := by decide +kernel
theorem dX12_makeHeaps_23 : decode cX12_makeHeaps 23 = .ok (.iconst 0, 1) := by decide +kernel
theorem dX12_makeHeaps_24 : decode cX12_makeHeaps 24 = .ok (.istore 6, 2) := by decide +kernel
theorem dX12_makeHeaps_26 : decode cX12_makeHeaps 26 = .ok (.sipush 400, 3) := by decide +kernel
theorem dX12_makeHeaps_29 : decode cX12_makeHeaps 29 = .ok (.iload_n 2, 1) := by decide +kernel
theorem dX12_makeHeaps_30 : decode cX12_makeHeaps 30 = .ok (.imul, 1) := by decide +kernel
theorem dX12_makeHeaps_31 : decode cX12_makeHeaps 31 = .ok (.istore 7, 2) := by decide +kernel
theorem dX12_makeHeaps_33 : decode cX12_makeHeaps 33 = .ok (.iload 7, 2) := by decide +kernel
theorem dX12_makeHeaps_35 : decode cX12_makeHeaps 35 = .ok (.iload_n 3, 1) := by decide +kernel
theorem dX12_makeHeaps_36 : decode cX12_makeHeaps 36 = .ok (.if_icmp .ge 172, 3) := by decide +kernel
theorem dX12_makeHeaps_39 : decode cX12_makeHeaps 39 = .ok (.lload 4, 2) := by decide +kernel
theorem dX12_makeHeaps_41 : decode cX12_makeHeaps 41 = .ok (.aload_n 0, 1) := by decide +kernel
theorem dX12_makeHeaps_42 : decode cX12_makeHeaps 42 = .ok (.getfield 63, 3) := by decide +kernel
theorem dX12_makeHeaps_45 : decode cX12_makeHeaps 45 = .ok (.iload 7, 2) := by decide +kernel
theorem dX12_makeHeaps_47 : decode cX12_makeHeaps 47 = .ok (.iaload, 1) := by decide +kernel
theorem dX12_makeHeaps_48 : decode cX12_makeHeaps 48 = .ok (.i2l, 1) := by decide +kernel
theorem dX12_makeHeaps_49 : decode cX12_makeHeaps 49 = .ok (.ladd, 1) := by decide +kernel
theorem dX12_makeHeaps_50 : decode cX12_makeHeaps 50 = .ok (.lstore 4, 2) := by decide +kernel
theorem dX12_makeHeaps_52 : decode cX12_makeHeaps 52 = .ok (.iinc 6 1, 3) := by decide +kernel
theorem dX12_makeHeaps_55 : decode cX12_makeHeaps 55 = .ok (.iload 7, 2) := by decide +kernel
theorem dX12_makeHeaps_57 : decode cX12_makeHeaps 57 = .ok (.iconst 1, 1) := by decide +kernel
theorem dX12_makeHeaps_58 : decode cX12_makeHeaps 58 = .ok (.iadd, 1) := by decide +kernel
theorem dX12_makeHeaps_59 : decode cX12_makeHeaps 59 = .ok (.iload_n 3, 1) := by decide +kernel
theorem dX12_makeHeaps_60 : decode cX12_makeHeaps 60 = .ok (.if_icmp .ge 26, 3) := by decide +kernel
theorem dX12_makeHeaps_63 : decode cX12_makeHeaps 63 = .ok (.aload_n 0, 1) := by decide +kernel
theorem dX12_makeHeaps_64 : decode cX12_makeHeaps 64 = .ok (.getfield 60, 3) := by decide +kernel
theorem dX12_makeHeaps_67 : decode cX12_makeHeaps 67 = .ok (.iload 7, 2) := by decide +kernel
theorem dX12_makeHeaps_69 : decode cX12_makeHeaps 69 = .ok (.iconst 1, 1) := by decide +kernel
theorem dX12_makeHeaps_70 : decode cX12_makeHeaps 70 = .ok (.iadd, 1) := by decide +kernel
theorem dX12_makeHeaps_71 : decode cX12_makeHeaps 71 = .ok (.iaload, 1) := by decide +kernel
theorem dX12_makeHeaps_72 : decode cX12_makeHeaps 72 = .ok (.aload_n 0, 1) := by decide +kernel
theorem dX12_makeHeaps_73 : decode cX12_makeHeaps 73 = .ok (.getfield 60, 3) := by decide +kernel
theorem dX12_makeHeaps_76 : decode cX12_makeHeaps 76 = .ok (.iload 7, 2) := by decide +kernel
theorem dX12_makeHeaps_78 : decode cX12_makeHeaps 78 = .ok (.iaload, 1) := by decide +kernel
theorem dX12_makeHeaps_79 : decode cX12_makeHeaps 79 = .ok (.if_icmp .ne 7, 3) := by decide +kernel
theorem dX12_makeHeaps_82 : decode cX12_makeHeaps 82 = .ok (.iconst 1, 1) := by decide +kernel
theorem dX12_makeHeaps_83 : decode cX12_makeHeaps 83 = .ok (.goto 4, 3) := by decide +kernel
theorem dX12_makeHeaps_86 : decode cX12_makeHeaps 86 = .ok (.iconst 0, 1) := by decide +kernel
theorem dX12_makeHeaps_87 : decode cX12_makeHeaps 87 = .ok (.istore 8, 2) := by decide +kernel
theorem dX12_makeHeaps_89 : decode cX12_makeHeaps 89 = .ok (.iload 8, 2) := by decide +kernel
theorem dX12_makeHeaps_91 : decode cX12_makeHeaps 91 = .ok (.ifCond .eq 37, 3) := by decide +kernel
theorem dX12_makeHeaps_94 : decode cX12_makeHeaps 94 = .ok (.aload_n 0, 1) := by decide +kernel
theorem dX12_makeHeaps_95 : decode cX12_makeHeaps 95 = .ok (.getfield 30, 3) := by decide +kernel
theorem dX12_makeHeaps_98 : decode cX12_makeHeaps 98 = .ok (.iload_n 1, 1) := by decide +kernel
theorem dX12_makeHeaps_99 : decode cX12_makeHeaps 99 = .ok (.iaload, 1) := by decide +kernel
theorem dX12_makeHeaps_100 : decode cX12_makeHeaps 100 = .ok (.bipush 10, 2) := by decide +kernel
theorem dX12_makeHeaps_102 : decode cX12_makeHeaps 102 = .ok (.if_icmp .eq 22, 3) := by decide +kernel
theorem dX12_makeHeaps_105 : decode cX12_makeHeaps 105 = .ok (.aload_n 0, 1) := by decide +kernel
theorem dX12_makeHeaps_106 : decode cX12_makeHeaps 106 = .ok (.getfield 66, 3) := by decide +kernel
theorem dX12_makeHeaps_109 : decode cX12_makeHeaps 109 = .ok (.iload 7, 2) := by decide +kernel
theorem dX12_makeHeaps_111 : decode cX12_makeHeaps 111 = .ok (.iconst 1, 1) := by decide +kernel
theorem dX12_makeHeaps_112 : decode cX12_makeHeaps 112 = .ok (.iadd, 1) := by decide +kernel
theorem dX12_makeHeaps_113 : decode cX12_makeHeaps 113 = .ok (.iaload, 1) := by decide +kernel
theorem dX12_makeHeaps_114 : decode cX12_makeHeaps 114 = .ok (.aload_n 0, 1) := by decide +kernel
theorem dX12_makeHeaps_115 : decode cX12_makeHeaps 115 = .ok (.getfield 66, 3) := by decide +kernel
theorem dX12_makeHeaps_118 : decode cX12_makeHeaps 118 = .ok (.iload 7, 2) := by decide +kernel
theorem dX12_makeHeaps_120 : decode cX12_makeHeaps 120 = .ok (.iaload, 1) := by decide +kernel
theorem dX12_makeHeaps_121 : decode cX12_makeHeaps 121 = .ok (.if_icmp .ne 7, 3) := by decide +kernel
theorem dX12_makeHeaps_124 : decode cX12_makeHeaps 124 = .ok (.iconst 1, 1) := by decide +kernel
theorem dX12_makeHeaps_125 : decode cX12_makeHeaps 125 = .ok (.goto 4, 3) := by decide +kernel
theorem dX12_makeHeaps_128 : decode cX12_makeHeaps 128 = .ok (.iconst 0, 1) := by decide +kernel
theorem dX12_makeHeaps_129 : decode cX12_makeHeaps 129 = .ok (.istore 9, 2) := by decide +kernel
theorem dX12_makeHeaps_131 : decode cX12_makeHeaps 131 = .ok (.iload 9, 2) := by decide +kernel
theorem dX12_makeHeaps_133 : decode cX12_makeHeaps 133 = .ok (.ifCond .ne 69, 3) := by decide +kernel
theorem dX12_makeHeaps_136 : decode cX12_makeHeaps 136 = .ok (.aload_n 0, 1) := by decide +kernel
theorem dX12_makeHeaps_137 : decode cX12_makeHeaps 137 = .ok (.iload_n 1, 1) := by decide +kernel
theorem dX12_makeHeaps_138 : decode cX12_makeHeaps 138 = .ok (.aload_n 0, 1) := by decide +kernel
theorem dX12_makeHeaps_139 : decode cX12_makeHeaps 139 = .ok (.getfield 60, 3) := by decide +kernel
theorem dX12_makeHeaps_142 : decode cX12_makeHeaps 142 = .ok (.iload 7, 2) := by decide +kernel
theorem dX12_makeHeaps_144 : decode cX12_makeHeaps 144 = .ok (.iaload, 1) := by decide +kernel
theorem dX12_makeHeaps_145 : decode cX12_makeHeaps 145 = .ok (.aload_n 0, 1) := by decide +kernel
theorem dX12_makeHeaps_146 : decode cX12_makeHeaps 146 = .ok (.getfield 30, 3) := by decide +kernel
theorem dX12_makeHeaps_149 : decode cX12_makeHeaps 149 = .ok (.iload_n 1, 1) := by decide +kernel
theorem dX12_makeHeaps_150 : decode cX12_makeHeaps 150 = .ok (.iaload, 1) := by decide +kernel
theorem dX12_makeHeaps_151 : decode cX12_makeHeaps 151 = .ok (.bipush 7, 2) := by decide +kernel
theorem dX12_makeHeaps_153 : decode cX12_makeHeaps 153 = .ok (.if_icmp .ne 8, 3) := by decide +kernel
theorem dX12_makeHeaps_156 : decode cX12_makeHeaps 156 = .ok (.lload 4, 2) := by decide +kernel
theorem dX12_makeHeaps_158 : decode cX12_makeHeaps 158 = .ok (.goto 28, 3) := by decide +kernel
theorem dX12_makeHeaps_161 : decode cX12_makeHeaps 161 = .ok (.aload_n 0, 1) := by decide +kernel
theorem dX12_makeHeaps_162 : decode cX12_makeHeaps 162 = .ok (.getfield 30, 3) := by decide +kernel
theorem dX12_makeHeaps_165 : decode cX12_makeHeaps 165 = .ok (.iload_n 1, 1) := by decide +kernel
theorem dX12_makeHeaps_166 : decode cX12_makeHeaps 166 = .ok (.iaload, 1) := by decide +kernel
theorem dX12_makeHeaps_167 : decode cX12_makeHeaps 167 = .ok (.bipush 8, 2) := by decide +kernel
theorem dX12_makeHeaps_169 : decode cX12_makeHeaps 169 = .ok (.if_icmp .ne 9, 3) := by decide +kernel
theorem dX12_makeHeaps_172 : decode cX12_makeHeaps 172 = .ok (.iload 6, 2) := by decide +kernel
theorem dX12_makeHeaps_174 : decode cX12_makeHeaps 174 = .ok (.i2l, 1) := by decide +kernel
theorem dX12_makeHeaps_175 : decode cX12_makeHeaps 175 = .ok (.goto 11, 3) := by decide +kernel
theorem dX12_makeHeaps_178 : decode cX12_makeHeaps 178 = .ok (.aload_n 0, 1) := by decide +kernel
theorem dX12_makeHeaps_179 : decode cX12_makeHeaps 179 = .ok (.getfield 63, 3) := by decide +kernel
theorem dX12_makeHeaps_182 : decode cX12_makeHeaps 182 = .ok (.iload 7, 2) := by decide +kernel
theorem dX12_makeHeaps_184 : decode cX12_makeHeaps 184 = .ok (.iaload, 1) := by decide +kernel
theorem dX12_makeHeaps_185 : decode cX12_makeHeaps 185 = .ok (.i2l, 1) := by decide +kernel
theorem dX12_makeHeaps_186 : decode cX12_makeHeaps 186 = .ok (.aload_n 0, 1) := by decide +kernel
theorem dX12_makeHeaps_187 : decode cX12_makeHeaps 187 = .ok (.getfield 66, 3) := by decide +kernel
theorem dX12_makeHeaps_190 : decode cX12_makeHeaps 190 = .ok (.iload 7, 2) := by decide +kernel
theorem dX12_makeHeaps_192 : decode cX12_makeHeaps 192 = .ok (.iaload, 1) := by decide +kernel
theorem dX12_makeHeaps_193 : decode cX12_makeHeaps 193 = .ok (.invokevirtual 159, 3) := by decide +kernel
theorem dX12_makeHeaps_196 : decode cX12_makeHeaps 196 = .ok (.lconst 0, 1) := by decide +kernel
theorem dX12_makeHeaps_197 : decode cX12_makeHeaps 197 = .ok (.lstore 4, 2) := by decide +kernel
theorem dX12_makeHeaps_199 : decode cX12_makeHeaps 199 = .ok (.iconst 0, 1) := by decide +kernel
theorem dX12_makeHeaps_200 : decode cX12_makeHeaps 200 = .ok (.istore 6, 2) := by decide +kernel
theorem dX12_makeHeaps_202 : decode cX12_makeHeaps 202 = .ok (.iinc 7 1, 3) := by decide +kernel
theorem dX12_makeHeaps_205 : decode cX12_makeHeaps 205 = .ok (.goto (-172), 3) := by decide +kernel
theorem dX12_makeHeaps_208 : decode cX12_makeHeaps 208 = .ok (.return_, 1) := by decide +kernel
theorem dX12_makeOfTwo_0 : decode cX12_makeOfTwo 0 = .ok (.aload_n 0, 1) := by decide +kernel
theorem dX12_makeOfTwo_1 : decode cX12_makeOfTwo 1 = .ok (.getfield 33, 3) := by decide +kernel
theorem dX12_makeOfTwo_4 : decode cX12_makeOfTwo 4 = .ok (.iload_n 1, 1) := by decide +kernel
theorem dX12_makeOfTwo_5 : decode cX12_makeOfTwo 5 = .ok (.iaload, 1) := by decide +kernel
theorem dX12_makeOfTwo_6 : decode cX12_makeOfTwo 6 = .ok (.istore_n 2, 1) := by decide +kernel
theorem dX12_makeOfTwo_7 : decode cX12_makeOfTwo 7 = .ok (.aload_n 0, 1) := by decide +kernel
theorem dX12_makeOfTwo_8 : decode cX12_makeOfTwo 8 = .ok (.getfield 36, 3) := by decide +kernel
theorem dX12_makeOfTwo_11 : decode cX12_makeOfTwo 11 = .ok (.iload_n 1, 1) := by decide +kernel
theorem dX12_makeOfTwo_12 : decode cX12_makeOfTwo 12 = .ok (.iaload, 1) := by decide +kernel
theorem dX12_makeOfTwo_13 : decode cX12_makeOfTwo 13 = .ok (.istore_n 3, 1) := by decide +kernel
theorem dX12_makeOfTwo_14 : decode cX12_makeOfTwo 14 = .ok (.sipush 400, 3) := by decide +kernel
theorem dX12_makeOfTwo_17 : decode cX12_makeOfTwo 17 = .ok (.iload_n 2, 1) := by decide +kernel
theorem dX12_makeOfTwo_18 : decode cX12_makeOfTwo 18 = .ok (.imul, 1) := by decide +kernel
theorem dX12_makeOfTwo_19 : decode cX12_makeOfTwo 19 = .ok (.istore 4, 2) := by decide +kernel
theorem dX12_makeOfTwo_21 : decode cX12_makeOfTwo 21 = .ok (.iload 4, 2) := by decide +kernel
theorem dX12_makeOfTwo_23 : decode cX12_makeOfTwo 23 = .ok (.sipush 400, 3) := by decide +kernel
theorem dX12_makeOfTwo_26 : decode cX12_makeOfTwo 26 = .ok (.iload_n 2, 1) := by decide +kernel
theorem dX12_makeOfTwo_27 : decode cX12_makeOfTwo 27 = .ok (.imul, 1) := by decide +kernel
theorem dX12_makeOfTwo_28 : decode cX12_makeOfTwo 28 = .ok (.aload_n 0, 1) := by decide +kernel
theorem dX12_makeOfTwo_29 : decode cX12_makeOfTwo 29 = .ok (.getfield 57, 3) := by decide +kernel
theorem dX12_makeOfTwo_32 : decode cX12_makeOfTwo 32 = .ok (.iload_n 2, 1) := by decide +kernel
theorem dX12_makeOfTwo_33 : decode cX12_makeOfTwo 33 = .ok (.iaload, 1) := by decide +kernel
theorem dX12_makeOfTwo_34 : decode cX12_makeOfTwo 34 = .ok (.iadd, 1) := by decide +kernel
theorem dX12_makeOfTwo_35 : decode cX12_makeOfTwo 35 = .ok (.if_icmp .ge 182, 3) := by decide +kernel
theorem dX12_makeOfTwo_38 : decode cX12_makeOfTwo 38 = .ok (.iconst 0, 1) := by decide +kernel
theorem dX12_makeOfTwo_39 : decode cX12_makeOfTwo 39 = .ok (.istore 5, 2) := by decide +kernel
theorem dX12_makeOfTwo_41 : decode cX12_makeOfTwo 41 = .ok (.sipush 400, 3) := by decide +kernel
theorem dX12_makeOfTwo_44 : decode cX12_makeOfTwo 44 = .ok (.iload_n 3, 1) := by decide +kernel
theorem dX12_makeOfTwo_45 : decode cX12_makeOfTwo 45 = .ok (.imul, 1) := by decide +kernel
theorem dX12_makeOfTwo_46 : decode cX12_makeOfTwo 46 = .ok (.istore 6, 2) := by decide +kernel
theorem dX12_makeOfTwo_48 : decode cX12_makeOfTwo 48 = .ok (.iload 6, 2) := by decide +kernel
theorem dX12_makeOfTwo_50 : decode cX12_makeOfTwo 50 = .ok (.sipush 400, 3) := by decide +kernel
theorem dX12_makeOfTwo_53 : decode cX12_makeOfTwo 53 = .ok (.iload_n 3, 1) := by decide +kernel
theorem dX12_makeOfTwo_54 : decode cX12_makeOfTwo 54 = .ok (.imul, 1) := by decide +kernel
theorem dX12_makeOfTwo_55 : decode cX12_makeOfTwo 55 = .ok (.aload_n 0, 1) := by decide +kernel
theorem dX12_makeOfTwo_56 : decode cX12_makeOfTwo 56 = .ok (.getfield 57, 3) := by decide +kernel
theorem dX12_makeOfTwo_59 : decode cX12_makeOfTwo 59 = .ok (.iload_n 3, 1) := by decide +kernel
theorem dX12_makeOfTwo_60 : decode cX12_makeOfTwo 60 = .ok (.iaload, 1) := by decide +kernel
theorem dX12_makeOfTwo_61 : decode cX12_makeOfTwo 61 = .ok (.iadd, 1) := by decide +kernel
theorem dX12_makeOfTwo_62 : decode cX12_makeOfTwo 62 = .ok (.if_icmp .ge 106, 3) := by decide +kernel
theorem dX12_makeOfTwo_65 : decode cX12_makeOfTwo 65 = .ok (.aload_n 0, 1) := by decide +kernel
theorem dX12_makeOfTwo_66 : decode cX12_makeOfTwo 66 = .ok (.getfield 60, 3) := by decide +kernel
theorem dX12_makeOfTwo_69 : decode cX12_makeOfTwo 69 = .ok (.iload 6, 2) := by decide +kernel
theorem dX12_makeOfTwo_71 : decode cX12_makeOfTwo 71 = .ok (.iaload, 1) := by decide +kernel
theorem dX12_makeOfTwo_72 : decode cX12_makeOfTwo 72 = .ok (.aload_n 0, 1) := by decide +kernel
theorem dX12_makeOfTwo_73 : decode cX12_makeOfTwo 73 = .ok (.getfield 60, 3) := by decide +kernel
theorem dX12_makeOfTwo_76 : decode cX12_makeOfTwo 76 = .ok (.iload 4, 2) := by decide +kernel
theorem dX12_makeOfTwo_78 : decode cX12_makeOfTwo 78 = .ok (.iaload, 1) := by decide +kernel
theorem dX12_makeOfTwo_79 : decode cX12_makeOfTwo 79 = .ok (.if_icmp .eq 6, 3) := by decide +kernel
theorem dX12_makeOfTwo_82 : decode cX12_makeOfTwo 82 = .ok (.goto 80, 3) := by decide +kernel
theorem dX12_makeOfTwo_85 : decode cX12_makeOfTwo 85 = .ok (.iconst 1, 1) := by decide +kernel
theorem dX12_makeOfTwo_86 : decode cX12_makeOfTwo 86 = .ok (.istore 5, 2) := by decide +kernel
theorem dX12_makeOfTwo_88 : decode cX12_makeOfTwo 88 = .ok (.aload_n 0, 1) := by decide +kernel
theorem dX12_makeOfTwo_89 : decode cX12_makeOfTwo 89 = .ok (.getfield 30, 3) := by decide +kernel
theorem dX12_makeOfTwo_92 : decode cX12_makeOfTwo 92 = .ok (.iload_n 1, 1) := by decide +kernel
theorem dX12_makeOfTwo_93 : decode cX12_makeOfTwo 93 = .ok (.iaload, 1) := by decide +kernel
theorem dX12_makeOfTwo_94 : decode cX12_makeOfTwo 94 = .ok (.bipush 11, 2) := by decide +kernel
theorem dX12_makeOfTwo_96 : decode cX12_makeOfTwo 96 = .ok (.if_icmp .ne 66, 3) := by decide +kernel
theorem dX12_makeOfTwo_99 : decode cX12_makeOfTwo 99 = .ok (.aload_n 0, 1) := by decide +kernel
theorem dX12_makeOfTwo_100 : decode cX12_makeOfTwo 100 = .ok (.iload_n 1, 1) := by decide +kernel
theorem dX12_makeOfTwo_101 : decode cX12_makeOfTwo 101 = .ok (.aload_n 0, 1) := by decide +kernel
theorem dX12_makeOfTwo_102 : decode cX12_makeOfTwo 102 = .ok (.getfield 60, 3) := by decide +kernel
theorem dX12_makeOfTwo_105 : decode cX12_makeOfTwo 105 = .ok (.iload 4, 2) := by decide +kernel
theorem dX12_makeOfTwo_107 : decode cX12_makeOfTwo 107 = .ok (.iaload, 1) := by decide +kernel
theorem dX12_makeOfTwo_108 : decode cX12_makeOfTwo 108 = .ok (.aload_n 0, 1) := by decide +kernel
theorem dX12_makeOfTwo_109 : decode cX12_makeOfTwo 109 = .ok (.getfield 63, 3) := by decide +kernel
theorem dX12_makeOfTwo_112 : decode cX12_makeOfTwo 112 = .ok (.iload 4, 2) := by decide +kernel
theorem dX12_makeOfTwo_114 : decode cX12_makeOfTwo 114 = .ok (.iaload, 1) := by decide +kernel
theorem dX12_makeOfTwo_115 : decode cX12_makeOfTwo 115 = .ok (.i2l, 1) := by decide +kernel
theorem dX12_makeOfTwo_116 : decode cX12_makeOfTwo 116 = .ok (.aload_n 0, 1) := by decide +kernel
theorem dX12_makeOfTwo_117 : decode cX12_makeOfTwo 117 = .ok (.getfield 63, 3) := by decide +kernel
theorem dX12_makeOfTwo_120 : decode cX12_makeOfTwo 120 = .ok (.iload 6, 2) := by decide +kernel
theorem dX12_makeOfTwo_122 : decode cX12_makeOfTwo 122 = .ok (.iaload, 1) := by decide +kernel
theorem dX12_makeOfTwo_123 : decode cX12_makeOfTwo 123 = .ok (.i2l, 1) := by decide +kernel
theorem dX12_makeOfTwo_124 : decode cX12_makeOfTwo 124 = .ok (.ladd, 1) := by decide +kernel
theorem dX12_makeOfTwo_125 : decode cX12_makeOfTwo 125 = .ok (.aload_n 0, 1) := by decide +kernel
theorem dX12_makeOfTwo_126 : decode cX12_makeOfTwo 126 = .ok (.getfield 66, 3) := by decide +kernel
theorem dX12_makeOfTwo_129 : decode cX12_makeOfTwo 129 = .ok (.iload 4, 2) := by decide +kernel
theorem dX12_makeOfTwo_131 : decode cX12_makeOfTwo 131 = .ok (.iaload, 1) := by decide +kernel
theorem dX12_makeOfTwo_132 : decode cX12_makeOfTwo 132 = .ok (.aload_n 0, 1) := by decide +kernel
theorem dX12_makeOfTwo_133 : decode cX12_makeOfTwo 133 = .ok (.getfield 66, 3) := by decide +kernel
theorem dX12_makeOfTwo_136 : decode cX12_makeOfTwo 136 = .ok (.iload 6, 2) := by decide +kernel
theorem dX12_makeOfTwo_138 : decode cX12_makeOfTwo 138 = .ok (.iaload, 1) := by decide +kernel
theorem dX12_makeOfTwo_139 : decode cX12_makeOfTwo 139 = .ok (.if_icmp .le 13, 3) := by decide +kernel
theorem dX12_makeOfTwo_142 : decode cX12_makeOfTwo 142 = .ok (.aload_n 0, 1) := by decide +kernel
theorem dX12_makeOfTwo_143 : decode cX12_makeOfTwo 143 = .ok (.getfield 66, 3) := by decide +kernel
theorem dX12_makeOfTwo_146 : decode cX12_makeOfTwo 146 = .ok (.iload 4, 2) := by decide +kernel
theorem dX12_makeOfTwo_148 : decode cX12_makeOfTwo 148 = .ok (.iaload, 1) := by decide +kernel
theorem dX12_makeOfTwo_149 : decode cX12_makeOfTwo 149 = .ok (.goto 10, 3) := by decide +kernel
theorem dX12_makeOfTwo_152 : decode cX12_makeOfTwo 152 = .ok (.aload_n 0, 1) := by decide +kernel
theorem dX12_makeOfTwo_153 : decode cX12_makeOfTwo 153 = .ok (.getfield 66, 3) := by decide +kernel
theorem dX12_makeOfTwo_156 : decode cX12_makeOfTwo 156 = .ok (.iload 6, 2) := by decide +kernel
theorem dX12_makeOfTwo_158 : decode cX12_makeOfTwo 158 = .ok (.iaload, 1) := by decide +kernel
theorem dX12_makeOfTwo_159 : decode cX12_makeOfTwo 159 = .ok (.invokevirtual 159, 3) := by decide +kernel
theorem dX12_makeOfTwo_162 : decode cX12_makeOfTwo 162 = .ok (.iinc 6 1, 3) := by decide +kernel
theorem dX12_makeOfTwo_165 : decode cX12_makeOfTwo 165 = .ok (.goto (-117), 3) := by decide +kernel
theorem dX12_makeOfTwo_168 : decode cX12_makeOfTwo 168 = .ok (.aload_n 0, 1) := by decide +kernel
theorem dX12_makeOfTwo_169 : decode cX12_makeOfTwo 169 = .ok (.getfield 30, 3) := by decide +kernel
theorem dX12_makeOfTwo_172 : decode cX12_makeOfTwo 172 = .ok (.iload_n 1, 1) := by decide +kernel
theorem dX12_makeOfTwo_173 : decode cX12_makeOfTwo 173 = .ok (.iaload, 1) := by decide +kernel
theorem dX12_makeOfTwo_174 : decode cX12_makeOfTwo 174 = .ok (.bipush 12, 2) := by decide +kernel
theorem dX12_makeOfTwo_176 : decode cX12_makeOfTwo 176 = .ok (.if_icmp .ne 35, 3) := by decide +kernel
theorem dX12_makeOfTwo_179 : decode cX12_makeOfTwo 179 = .ok (.iload 5, 2) := by decide +kernel
theorem dX12_makeOfTwo_181 : decode cX12_makeOfTwo 181 = .ok (.ifCond .ne 30, 3) := by decide +kernel
theorem dX12_makeOfTwo_184 : decode cX12_makeOfTwo 184 = .ok (.aload_n 0, 1) := by decide +kernel
theorem dX12_makeOfTwo_185 : decode cX12_makeOfTwo 185 = .ok (.iload_n 1, 1) := by decide +kernel
theorem dX12_makeOfTwo_186 : decode cX12_makeOfTwo 186 = .ok (.aload_n 0, 1) := by decide +kernel
theorem dX12_makeOfTwo_187 : decode cX12_makeOfTwo 187 = .ok (.getfield 60, 3) := by decide +kernel
theorem dX12_makeOfTwo_190 : decode cX12_makeOfTwo 190 = .ok (.iload 4, 2) := by decide +kernel
theorem dX12_makeOfTwo_192 : decode cX12_makeOfTwo 192 = .ok (.iaload, 1) := by decide +kernel
theorem dX12_makeOfTwo_193 : decode cX12_makeOfTwo 193 = .ok (.aload_n 0, 1) := by decide +kernel
theorem dX12_makeOfTwo_194 : decode cX12_makeOfTwo 194 = .ok (.getfield 63, 3) := by decide +kernel
theorem dX12_makeOfTwo_197 : decode cX12_makeOfTwo 197 = .ok (.iload 4, 2) := by decide +kernel
theorem dX12_makeOfTwo_199 : decode cX12_makeOfTwo 199 = .ok (.iaload, 1) := by decide +kernel
theorem dX12_makeOfTwo_200 : decode cX12_makeOfTwo 200 = .ok (.i2l, 1) := by decide +kernel
theorem dX12_makeOfTwo_201 : decode cX12_makeOfTwo 201 = .ok (.aload_n 0, 1) := by decide +kernel
theorem dX12_makeOfTwo_202 : decode cX12_makeOfTwo 202 = .ok (.getfield 66, 3) := by decide +kernel
theorem dX12_makeOfTwo_205 : decode cX12_makeOfTwo 205 = .ok (.iload 4, 2) := by decide +kernel
theorem dX12_makeOfTwo_207 : decode cX12_makeOfTwo 207 = .ok (.iaload, 1) := by decide +kernel
theorem dX12_makeOfTwo_208 : decode cX12_makeOfTwo 208 = .ok (.invokevirtual 159, 3) := by decide +kernel
theorem dX12_makeOfTwo_211 : decode cX12_makeOfTwo 211 = .ok (.iinc 4 1, 3) := by decide +kernel
theorem dX12_makeOfTwo_214 : decode cX12_makeOfTwo 214 = .ok (.goto (-193), 3) := by decide +kernel
theorem dX12_makeOfTwo_217 : decode cX12_makeOfTwo 217 = .ok (.return_, 1) := by decide +kernel
theorem dX12_makeAll_0 : decode cX12_makeAll 0 = .ok (.aload_n 0, 1) := by decide +kernel
theorem dX12_makeAll_1 : decode cX12_makeAll 1 = .ok (.iconst 0, 1) := by decide +kernel
theorem dX12_makeAll_2 : decode cX12_makeAll 2 = .ok (.putfield 147, 3) := by decide +kernel
theorem dX12_makeAll_5 : decode cX12_makeAll 5 = .ok (.iconst 0, 1) := by decide +kernel
theorem dX12_makeAll_6 : decode cX12_makeAll 6 = .ok (.istore_n 2, 1) := by decide +kernel
theorem dX12_makeAll_7 : decode cX12_makeAll 7 = .ok (.iload_n 2, 1) := by decide +kernel
theorem dX12_makeAll_8 : decode cX12_makeAll 8 = .ok (.aload_n 0, 1) := by decide +kernel
theorem dX12_makeAll_9 : decode cX12_makeAll 9 = .ok (.getfield 173, 3) := by decide +kernel
theorem dX12_makeAll_12 : decode cX12_makeAll 12 = .ok (.if_icmp .ge 22, 3) := by decide +kernel
theorem dX12_makeAll_15 : decode cX12_makeAll 15 = .ok (.aload_n 0, 1) := by decide +kernel
theorem dX12_makeAll_16 : decode cX12_makeAll 16 = .ok (.getfield 147, 3) := by decide +kernel
theorem dX12_makeAll_19 : decode cX12_makeAll 19 = .ok (.ifCond .ne 15, 3) := by decide +kernel
theorem dX12_makeAll_22 : decode cX12_makeAll 22 = .ok (.aload_n 0, 1) := by decide +kernel
theorem dX12_makeAll_23 : decode cX12_makeAll 23 = .ok (.iload_n 2, 1) := by decide +kernel
theorem dX12_makeAll_24 : decode cX12_makeAll 24 = .ok (.iload_n 1, 1) := by decide +kernel
theorem dX12_makeAll_25 : decode cX12_makeAll 25 = .ok (.invokevirtual 176, 3) := by decide +kernel
theorem dX12_makeAll_28 : decode cX12_makeAll 28 = .ok (.iinc 2 1, 3) := by decide +kernel
theorem dX12_makeAll_31 : decode cX12_makeAll 31 = .ok (.goto (-24), 3) := by decide +kernel
theorem dX12_makeAll_34 : decode cX12_makeAll 34 = .ok (.aload_n 0, 1) := by decide +kernel
theorem dX12_makeAll_35 : decode cX12_makeAll 35 = .ok (.getfield 147, 3) := by decide +kernel
theorem dX12_makeAll_38 : decode cX12_makeAll 38 = .ok (.ifCond .ne 7, 3) := by decide +kernel
theorem dX12_makeAll_41 : decode cX12_makeAll 41 = .ok (.iconst 1, 1) := by decide +kernel
theorem dX12_makeAll_42 : decode cX12_makeAll 42 = .ok (.goto 4, 3) := by decide +kernel
theorem dX12_makeAll_45 : decode cX12_makeAll 45 = .ok (.iconst 0, 1) := by decide +kernel
theorem dX12_makeAll_46 : decode cX12_makeAll 46 = .ok (.ireturn, 1) := by decide +kernel
theorem dX12_keep_0 : decode cX12_keep 0 = .ok (.iconst 0, 1) := by decide +kernel
theorem dX12_keep_1 : decode cX12_keep 1 = .ok (.istore_n 1, 1) := by decide +kernel
theorem dX12_keep_2 : decode cX12_keep 2 = .ok (.iload_n 1, 1) := by decide +kernel
theorem dX12_keep_3 : decode cX12_keep 3 = .ok (.aload_n 0, 1) := by decide +kernel
theorem dX12_keep_4 : decode cX12_keep 4 = .ok (.getfield 173, 3) := by decide +kernel
theorem dX12_keep_7 : decode cX12_keep 7 = .ok (.if_icmp .ge 85, 3) := by decide +kernel
theorem dX12_keep_10 : decode cX12_keep 10 = .ok (.aload_n 0, 1) := by decide +kernel
theorem dX12_keep_11 : decode cX12_keep 11 = .ok (.getfield 45, 3) := by decide +kernel
theorem dX12_keep_14 : decode cX12_keep 14 = .ok (.iload_n 1, 1) := by decide +kernel
theorem dX12_keep_15 : decode cX12_keep 15 = .ok (.aload_n 0, 1) := by decide +kernel
theorem dX12_keep_16 : decode cX12_keep 16 = .ok (.getfield 57, 3) := by decide +kernel
theorem dX12_keep_19 : decode cX12_keep 19 = .ok (.iload_n 1, 1) := by decide +kernel
theorem dX12_keep_20 : decode cX12_keep 20 = .ok (.iaload, 1) := by decide +kernel
theorem dX12_keep_21 : decode cX12_keep 21 = .ok (.iastore, 1) := by decide +kernel
theorem dX12_keep_22 : decode cX12_keep 22 = .ok (.sipush 400, 3) := by decide +kernel
theorem dX12_keep_25 : decode cX12_keep 25 = .ok (.iload_n 1, 1) := by decide +kernel
theorem dX12_keep_26 : decode cX12_keep 26 = .ok (.imul, 1) := by decide +kernel
theorem dX12_keep_27 : decode cX12_keep 27 = .ok (.istore_n 2, 1) := by decide +kernel
theorem dX12_keep_28 : decode cX12_keep 28 = .ok (.iload_n 2, 1) := by decide +kernel
theorem dX12_keep_29 : decode cX12_keep 29 = .ok (.sipush 400, 3) := by decide +kernel
theorem dX12_keep_32 : decode cX12_keep 32 = .ok (.iload_n 1, 1) := by decide +kernel
theorem dX12_keep_33 : decode cX12_keep 33 = .ok (.imul, 1) := by decide +kernel
theorem dX12_keep_34 : decode cX12_keep 34 = .ok (.aload_n 0, 1) := by decide +kernel
theorem dX12_keep_35 : decode cX12_keep 35 = .ok (.getfield 57, 3) := by decide +kernel
theorem dX12_keep_38 : decode cX12_keep 38 = .ok (.iload_n 1, 1) := by decide +kernel
theorem dX12_keep_39 : decode cX12_keep 39 = .ok (.iaload, 1) := by decide +kernel
theorem dX12_keep_40 : decode cX12_keep 40 = .ok (.iadd, 1) := by decide +kernel
theorem dX12_keep_41 : decode cX12_keep 41 = .ok (.if_icmp .ge 45, 3) := by decide +kernel
theorem dX12_keep_44 : decode cX12_keep 44 = .ok (.aload_n 0, 1) := by decide +kernel
theorem dX12_keep_45 : decode cX12_keep 45 = .ok (.getfield 48, 3) := by decide +kernel
theorem dX12_keep_48 : decode cX12_keep 48 = .ok (.iload_n 2, 1) := by decide +kernel
theorem dX12_keep_49 : decode cX12_keep 49 = .ok (.aload_n 0, 1) := by decide +kernel
theorem dX12_keep_50 : decode cX12_keep 50 = .ok (.getfield 60, 3) := by decide +kernel
theorem dX12_keep_53 : decode cX12_keep 53 = .ok (.iload_n 2, 1) := by decide +kernel
theorem dX12_keep_54 : decode cX12_keep 54 = .ok (.iaload, 1) := by decide +kernel
theorem dX12_keep_55 : decode cX12_keep 55 = .ok (.iastore, 1) := by decide +kernel
theorem dX12_keep_56 : decode cX12_keep 56 = .ok (.aload_n 0, 1) := by decide +kernel
theorem dX12_keep_57 : decode cX12_keep 57 = .ok (.getfield 51, 3) := by decide +kernel
theorem dX12_keep_60 : decode cX12_keep 60 = .ok (.iload_n 2, 1) := by decide +kernel
theorem dX12_keep_61 : decode cX12_keep 61 = .ok (.aload_n 0, 1) := by decide +kernel
theorem dX12_keep_62 : decode cX12_keep 62 = .ok (.getfield 63, 3) := by decide +kernel
theorem dX12_keep_65 : decode cX12_keep 65 = .ok (.iload_n 2, 1) := by decide +kernel
theorem dX12_keep_66 : decode cX12_keep 66 = .ok (.iaload, 1) := by decide +kernel
theorem dX12_keep_67 : decode cX12_keep 67 = .ok (.iastore, 1) := by decide +kernel
theorem dX12_keep_68 : decode cX12_keep 68 = .ok (.aload_n 0, 1) := by decide +kernel
theorem dX12_keep_69 : decode cX12_keep 69 = .ok (.getfield 54, 3) := by decide +kernel
theorem dX12_keep_72 : decode cX12_keep 72 = .ok (.iload_n 2, 1) := by decide +kernel
theorem dX12_keep_73 : decode cX12_keep 73 = .ok (.aload_n 0, 1) := by decide +kernel
theorem dX12_keep_74 : decode cX12_keep 74 = .ok (.getfield 66, 3) := by decide +kernel
theorem dX12_keep_77 : decode cX12_keep 77 = .ok (.iload_n 2, 1) := by decide +kernel
theorem dX12_keep_78 : decode cX12_keep 78 = .ok (.iaload, 1) := by decide +kernel
theorem dX12_keep_79 : decode cX12_keep 79 = .ok (.iastore, 1) := by decide +kernel
theorem dX12_keep_80 : decode cX12_keep 80 = .ok (.iinc 2 1, 3) := by decide +kernel
theorem dX12_keep_83 : decode cX12_keep 83 = .ok (.goto (-55), 3) := by decide +kernel
theorem dX12_keep_86 : decode cX12_keep 86 = .ok (.iinc 1 1, 3) := by decide +kernel
theorem dX12_keep_89 : decode cX12_keep 89 = .ok (.goto (-87), 3) := by decide +kernel
theorem dX12_keep_92 : decode cX12_keep 92 = .ok (.return_, 1) := by decide +kernel
theorem dX12_order_0 : decode cX12_order 0 = .ok (.aload_n 0, 1) := by decide +kernel
theorem dX12_order_1 : decode cX12_order 1 = .ok (.getfield 48, 3) := by decide +kernel
theorem dX12_order_4 : decode cX12_order 4 = .ok (.iload_n 1, 1) := by decide +kernel
theorem dX12_order_5 : decode cX12_order 5 = .ok (.iaload, 1) := by decide +kernel
theorem dX12_order_6 : decode cX12_order 6 = .ok (.aload_n 0, 1) := by decide +kernel
theorem dX12_order_7 : decode cX12_order 7 = .ok (.getfield 60, 3) := by decide +kernel
theorem dX12_order_10 : decode cX12_order 10 = .ok (.iload_n 2, 1) := by decide +kernel
theorem dX12_order_11 : decode cX12_order 11 = .ok (.iaload, 1) := by decide +kernel
theorem dX12_order_12 : decode cX12_order 12 = .ok (.if_icmp .eq 24, 3) := by decide +kernel
theorem dX12_order_15 : decode cX12_order 15 = .ok (.aload_n 0, 1) := by decide +kernel
theorem dX12_order_16 : decode cX12_order 16 = .ok (.getfield 48, 3) := by decide +kernel
theorem dX12_order_19 : decode cX12_order 19 = .ok (.iload_n 1, 1) := by decide +kernel
theorem dX12_order_20 : decode cX12_order 20 = .ok (.iaload, 1) := by decide +kernel
theorem dX12_order_21 : decode cX12_order 21 = .ok (.aload_n 0, 1) := by decide +kernel
theorem dX12_order_22 : decode cX12_order 22 = .ok (.getfield 60, 3) := by decide +kernel
theorem dX12_order_25 : decode cX12_order 25 = .ok (.iload_n 2, 1) := by decide +kernel
theorem dX12_order_26 : decode cX12_order 26 = .ok (.iaload, 1) := by decide +kernel
theorem dX12_order_27 : decode cX12_order 27 = .ok (.if_icmp .ge 7, 3) := by decide +kernel
theorem dX12_order_30 : decode cX12_order 30 = .ok (.iconst (-1), 1) := by decide +kernel
theorem dX12_order_31 : decode cX12_order 31 = .ok (.goto 4, 3) := by decide +kernel
theorem dX12_order_34 : decode cX12_order 34 = .ok (.iconst 1, 1) := by decide +kernel
theorem dX12_order_35 : decode cX12_order 35 = .ok (.ireturn, 1) := by decide +kernel
theorem dX12_order_36 : decode cX12_order 36 = .ok (.aload_n 0, 1) := by decide +kernel
theorem dX12_order_37 : decode cX12_order 37 = .ok (.getfield 54, 3) := by decide +kernel
theorem dX12_order_40 : decode cX12_order 40 = .ok (.iload_n 1, 1) := by decide +kernel
theorem dX12_order_41 : decode cX12_order 41 = .ok (.iaload, 1) := by decide +kernel
theorem dX12_order_42 : decode cX12_order 42 = .ok (.aload_n 0, 1) := by decide +kernel
theorem dX12_order_43 : decode cX12_order 43 = .ok (.getfield 66, 3) := by decide +kernel
theorem dX12_order_46 : decode cX12_order 46 = .ok (.iload_n 2, 1) := by decide +kernel
theorem dX12_order_47 : decode cX12_order 47 = .ok (.iaload, 1) := by decide +kernel
theorem dX12_order_48 : decode cX12_order 48 = .ok (.if_icmp .eq 24, 3) := by decide +kernel
theorem dX12_order_51 : decode cX12_order 51 = .ok (.aload_n 0, 1) := by decide +kernel
theorem dX12_order_52 : decode cX12_order 52 = .ok (.getfield 54, 3) := by decide +kernel
theorem dX12_order_55 : decode cX12_order 55 = .ok (.iload_n 1, 1) := by decide +kernel
theorem dX12_order_56 : decode cX12_order 56 = .ok (.iaload, 1) := by decide +kernel
theorem dX12_order_57 : decode cX12_order 57 = .ok (.aload_n 0, 1) := by decide +kernel
theorem dX12_order_58 : decode cX12_order 58 = .ok (.getfield 66, 3) := by decide +kernel
theorem dX12_order_61 : decode cX12_order 61 = .ok (.iload_n 2, 1) := by decide +kernel
theorem dX12_order_62 : decode cX12_order 62 = .ok (.iaload, 1) := by decide +kernel
theorem dX12_order_63 : decode cX12_order 63 = .ok (.if_icmp .ge 7, 3) := by decide +kernel
theorem dX12_order_66 : decode cX12_order 66 = .ok (.iconst (-1), 1) := by decide +kernel
theorem dX12_order_67 : decode cX12_order 67 = .ok (.goto 4, 3) := by decide +kernel
theorem dX12_order_70 : decode cX12_order 70 = .ok (.iconst 1, 1) := by decide +kernel
theorem dX12_order_71 : decode cX12_order 71 = .ok (.ireturn, 1) := by decide +kernel
theorem dX12_order_72 : decode cX12_order 72 = .ok (.aload_n 0, 1) := by decide +kernel
theorem dX12_order_73 : decode cX12_order 73 = .ok (.getfield 51, 3) := by decide +kernel
theorem dX12_order_76 : decode cX12_order 76 = .ok (.iload_n 1, 1) := by decide +kernel
theorem dX12_order_77 : decode cX12_order 77 = .ok (.iaload, 1) := by decide +kernel
theorem dX12_order_78 : decode cX12_order 78 = .ok (.aload_n 0, 1) := by decide +kernel
theorem dX12_order_79 : decode cX12_order 79 = .ok (.getfield 63, 3) := by decide +kernel
theorem dX12_order_82 : decode cX12_order 82 = .ok (.iload_n 2, 1) := by decide +kernel
theorem dX12_order_83 : decode cX12_order 83 = .ok (.iaload, 1) := by decide +kernel
theorem dX12_order_84 : decode cX12_order 84 = .ok (.if_icmp .eq 26, 3) := by decide +kernel
theorem dX12_order_87 : decode cX12_order 87 = .ok (.aload_n 0, 1) := by decide +kernel
theorem dX12_order_88 : decode cX12_order 88 = .ok (.getfield 51, 3) := by decide +kernel
theorem dX12_order_91 : decode cX12_order 91 = .ok (.iload_n 1, 1) := by decide +kernel
theorem dX12_order_92 : decode cX12_order 92 = .ok (.iaload, 1) := by decide +kernel
theorem dX12_order_93 : decode cX12_order 93 = .ok (.aload_n 0, 1) := by decide +kernel
theorem dX12_order_94 : decode cX12_order 94 = .ok (.getfield 63, 3) := by decide +kernel
theorem dX12_order_97 : decode cX12_order 97 = .ok (.iload_n 2, 1) := by decide +kernel
theorem dX12_order_98 : decode cX12_order 98 = .ok (.iaload, 1) := by decide +kernel
theorem dX12_order_99 : decode cX12_order 99 = .ok (.if_icmp .ge 7, 3) := by decide +kernel
theorem dX12_order_102 : decode cX12_order 102 = .ok (.iconst (-1), 1) := by decide +kernel
theorem dX12_order_103 : decode cX12_order 103 = .ok (.goto 8, 3) := by decide +kernel
theorem dX12_order_106 : decode cX12_order 106 = .ok (.iconst 1, 1) := by decide +kernel
theorem dX12_order_107 : decode cX12_order 107 = .ok (.goto 4, 3) := by decide +kernel
theorem dX12_order_110 : decode cX12_order 110 = .ok (.iconst 0, 1) := by decide +kernel
theorem dX12_order_111 : decode cX12_order 111 = .ok (.ireturn, 1) := by decide +kernel
theorem dX12_change_0 : decode cX12_change 0 = .ok (.aload_n 0, 1) := by decide +kernel
theorem dX12_change_1 : decode cX12_change 1 = .ok (.getfield 173, 3) := by decide +kernel
theorem dX12_change_4 : decode cX12_change 4 = .ok (.iconst 1, 1) := by decide +kernel
theorem dX12_change_5 : decode cX12_change 5 = .ok (.isub, 1) := by decide +kernel
theorem dX12_change_6 : decode cX12_change 6 = .ok (.istore_n 2, 1) := by decide +kernel
theorem dX12_change_7 : decode cX12_change 7 = .ok (.sipush 400, 3) := by decide +kernel
theorem dX12_change_10 : decode cX12_change 10 = .ok (.iload_n 2, 1) := by decide +kernel
theorem dX12_change_11 : decode cX12_change 11 = .ok (.imul, 1) := by decide +kernel
theorem dX12_change_12 : decode cX12_change 12 = .ok (.istore_n 3, 1) := by decide +kernel
theorem dX12_change_13 : decode cX12_change 13 = .ok (.sipush 400, 3) := by decide +kernel
theorem dX12_change_16 : decode cX12_change 16 = .ok (.iload_n 2, 1) := by decide +kernel
theorem dX12_change_17 : decode cX12_change 17 = .ok (.imul, 1) := by decide +kernel
theorem dX12_change_18 : decode cX12_change 18 = .ok (.istore 4, 2) := by decide +kernel
theorem dX12_change_20 : decode cX12_change 20 = .ok (.iload_n 3, 1) := by decide +kernel
theorem dX12_change_21 : decode cX12_change 21 = .ok (.sipush 400, 3) := by decide +kernel
theorem dX12_change_24 : decode cX12_change 24 = .ok (.iload_n 2, 1) := by decide +kernel
theorem dX12_change_25 : decode cX12_change 25 = .ok (.imul, 1) := by decide +kernel
theorem dX12_change_26 : decode cX12_change 26 = .ok (.aload_n 0, 1) := by decide +kernel
theorem dX12_change_27 : decode cX12_change 27 = .ok (.getfield 45, 3) := by decide +kernel
theorem dX12_change_30 : decode cX12_change 30 = .ok (.iload_n 2, 1) := by decide +kernel
theorem dX12_change_31 : decode cX12_change 31 = .ok (.iaload, 1) := by decide +kernel
theorem dX12_change_32 : decode cX12_change 32 = .ok (.iadd, 1) := by decide +kernel
theorem dX12_change_33 : decode cX12_change 33 = .ok (.if_icmp .lt 20, 3) := by decide +kernel
theorem dX12_change_36 : decode cX12_change 36 = .ok (.iload 4, 2) := by decide +kernel
theorem dX12_change_38 : decode cX12_change 38 = .ok (.sipush 400, 3) := by decide +kernel
theorem dX12_change_41 : decode cX12_change 41 = .ok (.iload_n 2, 1) := by decide +kernel
theorem dX12_change_42 : decode cX12_change 42 = .ok (.imul, 1) := by decide +kernel
theorem dX12_change_43 : decode cX12_change 43 = .ok (.aload_n 0, 1) := by decide +kernel
theorem dX12_change_44 : decode cX12_change 44 = .ok (.getfield 57, 3) := by decide +kernel
theorem dX12_change_47 : decode cX12_change 47 = .ok (.iload_n 2, 1) := by decide +kernel
theorem dX12_change_48 : decode cX12_change 48 = .ok (.iaload, 1) := by decide +kernel
theorem dX12_change_49 : decode cX12_change 49 = .ok (.iadd, 1) := by decide +kernel
theorem dX12_change_50 : decode cX12_change 50 = .ok (.if_icmp .ge 230, 3) := by decide +kernel
theorem dX12_change_53 : decode cX12_change 53 = .ok (.iload_n 3, 1) := by decide +kernel
theorem dX12_change_54 : decode cX12_change 54 = .ok (.sipush 400, 3) := by decide +kernel
theorem dX12_change_57 : decode cX12_change 57 = .ok (.iload_n 2, 1) := by decide +kernel
theorem dX12_change_58 : decode cX12_change 58 = .ok (.imul, 1) := by decide +kernel
theorem dX12_change_59 : decode cX12_change 59 = .ok (.aload_n 0, 1) := by decide +kernel
theorem dX12_change_60 : decode cX12_change 60 = .ok (.getfield 45, 3) := by decide +kernel
theorem dX12_change_63 : decode cX12_change 63 = .ok (.iload_n 2, 1) := by decide +kernel
theorem dX12_change_64 : decode cX12_change 64 = .ok (.iaload, 1) := by decide +kernel
theorem dX12_change_65 : decode cX12_change 65 = .ok (.iadd, 1) := by decide +kernel
theorem dX12_change_66 : decode cX12_change 66 = .ok (.if_icmp .ne 7, 3) := by decide +kernel
theorem dX12_change_69 : decode cX12_change 69 = .ok (.iconst 1, 1) := by decide +kernel
theorem dX12_change_70 : decode cX12_change 70 = .ok (.goto 31, 3) := by decide +kernel
theorem dX12_change_73 : decode cX12_change 73 = .ok (.iload 4, 2) := by decide +kernel
theorem dX12_change_75 : decode cX12_change 75 = .ok (.sipush 400, 3) := by decide +kernel
theorem dX12_change_78 : decode cX12_change 78 = .ok (.iload_n 2, 1) := by decide +kernel
theorem dX12_change_79 : decode cX12_change 79 = .ok (.imul, 1) := by decide +kernel
theorem dX12_change_80 : decode cX12_change 80 = .ok (.aload_n 0, 1) := by decide +kernel
theorem dX12_change_81 : decode cX12_change 81 = .ok (.getfield 57, 3) := by decide +kernel
theorem dX12_change_84 : decode cX12_change 84 = .ok (.iload_n 2, 1) := by decide +kernel
theorem dX12_change_85 : decode cX12_change 85 = .ok (.iaload, 1) := by decide +kernel
theorem dX12_change_86 : decode cX12_change 86 = .ok (.iadd, 1) := by decide +kernel
theorem dX12_change_87 : decode cX12_change 87 = .ok (.if_icmp .ne 7, 3) := by decide +kernel
theorem dX12_change_90 : decode cX12_change 90 = .ok (.iconst (-1), 1) := by decide +kernel
theorem dX12_change_91 : decode cX12_change 91 = .ok (.goto 10, 3) := by decide +kernel
theorem dX12_change_94 : decode cX12_change 94 = .ok (.aload_n 0, 1) := by decide +kernel
theorem dX12_change_95 : decode cX12_change 95 = .ok (.iload_n 3, 1) := by decide +kernel
theorem dX12_change_96 : decode cX12_change 96 = .ok (.iload 4, 2) := by decide +kernel
theorem dX12_change_98 : decode cX12_change 98 = .ok (.invokevirtual 180, 3) := by decide +kernel
theorem dX12_change_101 : decode cX12_change 101 = .ok (.istore 5, 2) := by decide +kernel
theorem dX12_change_103 : decode cX12_change 103 = .ok (.iload 5, 2) := by decide +kernel
theorem dX12_change_105 : decode cX12_change 105 = .ok (.ifCond .eq 144, 3) := by decide +kernel
theorem dX12_change_108 : decode cX12_change 108 = .ok (.iload 5, 2) := by decide +kernel
theorem dX12_change_110 : decode cX12_change 110 = .ok (.ifCond .ge 7, 3) := by decide +kernel
theorem dX12_change_113 : decode cX12_change 113 = .ok (.iconst 1, 1) := by decide +kernel
theorem dX12_change_114 : decode cX12_change 114 = .ok (.goto 4, 3) := by decide +kernel
theorem dX12_change_117 : decode cX12_change 117 = .ok (.iconst 0, 1) := by decide +kernel
theorem dX12_change_118 : decode cX12_change 118 = .ok (.iload_n 1, 1) := by decide +kernel
theorem dX12_change_119 : decode cX12_change 119 = .ok (.ifCond .ge 7, 3) := by decide +kernel
theorem dX12_change_122 : decode cX12_change 122 = .ok (.iconst 1, 1) := by decide +kernel
theorem dX12_change_123 : decode cX12_change 123 = .ok (.goto 4, 3) := by decide +kernel
theorem dX12_change_126 : decode cX12_change 126 = .ok (.iconst 0, 1) := by decide +kernel
theorem dX12_change_127 : decode cX12_change 127 = .ok (.if_icmp .ne 122, 3) := by decide +kernel
theorem dX12_change_130 : decode cX12_change 130 = .ok (.aload_n 0, 1) := by decide +kernel
theorem dX12_change_131 : decode cX12_change 131 = .ok (.getfield 184, 3) := by decide +kernel
theorem dX12_change_134 : decode cX12_change 134 = .ok (.sipush 4000, 3) := by decide +kernel
theorem dX12_change_137 : decode cX12_change 137 = .ok (.if_icmp .ne 5, 3) := by decide +kernel
theorem dX12_change_140 : decode cX12_change 140 = .ok (.iconst 0, 1) := by decide +kernel
theorem dX12_change_141 : decode cX12_change 141 = .ok (.ireturn, 1) := by decide +kernel
theorem dX12_change_142 : decode cX12_change 142 = .ok (.aload_n 0, 1) := by decide +kernel
theorem dX12_change_143 : decode cX12_change 143 = .ok (.getfield 69, 3) := by decide +kernel
theorem dX12_change_146 : decode cX12_change 146 = .ok (.aload_n 0, 1) := by decide +kernel
theorem dX12_change_147 : decode cX12_change 147 = .ok (.getfield 184, 3) := by decide +kernel
theorem dX12_change_150 : decode cX12_change 150 = .ok (.iload_n 1, 1) := by decide +kernel
theorem dX12_change_151 : decode cX12_change 151 = .ok (.ifCond .ge 12, 3) := by decide +kernel
theorem dX12_change_154 : decode cX12_change 154 = .ok (.aload_n 0, 1) := by decide +kernel
theorem dX12_change_155 : decode cX12_change 155 = .ok (.getfield 48, 3) := by decide +kernel
theorem dX12_change_158 : decode cX12_change 158 = .ok (.iload_n 3, 1) := by decide +kernel
theorem dX12_change_159 : decode cX12_change 159 = .ok (.iaload, 1) := by decide +kernel
theorem dX12_change_160 : decode cX12_change 160 = .ok (.goto 10, 3) := by decide +kernel
theorem dX12_change_163 : decode cX12_change 163 = .ok (.aload_n 0, 1) := by decide +kernel
theorem dX12_change_164 : decode cX12_change 164 = .ok (.getfield 60, 3) := by decide +kernel
theorem dX12_change_167 : decode cX12_change 167 = .ok (.iload 4, 2) := by decide +kernel
theorem dX12_change_169 : decode cX12_change 169 = .ok (.iaload, 1) := by decide +kernel
theorem dX12_change_170 : decode cX12_change 170 = .ok (.iastore, 1) := by decide +kernel
theorem dX12_change_171 : decode cX12_change 171 = .ok (.aload_n 0, 1) := by decide +kernel
theorem dX12_change_172 : decode cX12_change 172 = .ok (.getfield 72, 3) := by decide +kernel
theorem dX12_change_175 : decode cX12_change 175 = .ok (.aload_n 0, 1) := by decide +kernel
theorem dX12_change_176 : decode cX12_change 176 = .ok (.getfield 184, 3) := by decide +kernel
theorem dX12_change_179 : decode cX12_change 179 = .ok (.iload_n 1, 1) := by decide +kernel
theorem dX12_change_180 : decode cX12_change 180 = .ok (.ifCond .ge 12, 3) := by decide +kernel
theorem dX12_change_183 : decode cX12_change 183 = .ok (.aload_n 0, 1) := by decide +kernel
theorem dX12_change_184 : decode cX12_change 184 = .ok (.getfield 51, 3) := by decide +kernel
theorem dX12_change_187 : decode cX12_change 187 = .ok (.iload_n 3, 1) := by decide +kernel
theorem dX12_change_188 : decode cX12_change 188 = .ok (.iaload, 1) := by decide +kernel
theorem dX12_change_189 : decode cX12_change 189 = .ok (.goto 10, 3) := by decide +kernel
theorem dX12_change_192 : decode cX12_change 192 = .ok (.aload_n 0, 1) := by decide +kernel
theorem dX12_change_193 : decode cX12_change 193 = .ok (.getfield 63, 3) := by decide +kernel
theorem dX12_change_196 : decode cX12_change 196 = .ok (.iload 4, 2) := by decide +kernel
theorem dX12_change_198 : decode cX12_change 198 = .ok (.iaload, 1) := by decide +kernel
theorem dX12_change_199 : decode cX12_change 199 = .ok (.iastore, 1) := by decide +kernel
theorem dX12_change_200 : decode cX12_change 200 = .ok (.aload_n 0, 1) := by decide +kernel
theorem dX12_change_201 : decode cX12_change 201 = .ok (.getfield 75, 3) := by decide +kernel
theorem dX12_change_204 : decode cX12_change 204 = .ok (.aload_n 0, 1) := by decide +kernel
theorem dX12_change_205 : decode cX12_change 205 = .ok (.getfield 184, 3) := by decide +kernel
theorem dX12_change_208 : decode cX12_change 208 = .ok (.iload_n 1, 1) := by decide +kernel
theorem dX12_change_209 : decode cX12_change 209 = .ok (.ifCond .ge 12, 3) := by decide +kernel
theorem dX12_change_212 : decode cX12_change 212 = .ok (.aload_n 0, 1) := by decide +kernel
theorem dX12_change_213 : decode cX12_change 213 = .ok (.getfield 54, 3) := by decide +kernel
theorem dX12_change_216 : decode cX12_change 216 = .ok (.iload_n 3, 1) := by decide +kernel
theorem dX12_change_217 : decode cX12_change 217 = .ok (.iaload, 1) := by decide +kernel
theorem dX12_change_218 : decode cX12_change 218 = .ok (.goto 10, 3) := by decide +kernel
theorem dX12_change_221 : decode cX12_change 221 = .ok (.aload_n 0, 1) := by decide +kernel
theorem dX12_change_222 : decode cX12_change 222 = .ok (.getfield 66, 3) := by decide +kernel
theorem dX12_change_225 : decode cX12_change 225 = .ok (.iload 4, 2) := by decide +kernel
theorem dX12_change_227 : decode cX12_change 227 = .ok (.iaload, 1) := by decide +kernel
theorem dX12_change_228 : decode cX12_change 228 = .ok (.iastore, 1) := by decide +kernel
theorem dX12_change_229 : decode cX12_change 229 = .ok (.aload_n 0, 1) := by decide +kernel
theorem dX12_change_230 : decode cX12_change 230 = .ok (.getfield 78, 3) := by decide +kernel
theorem dX12_change_233 : decode cX12_change 233 = .ok (.aload_n 0, 1) := by decide +kernel
theorem dX12_change_234 : decode cX12_change 234 = .ok (.getfield 184, 3) := by decide +kernel
theorem dX12_change_237 : decode cX12_change 237 = .ok (.iload_n 1, 1) := by decide +kernel
theorem dX12_change_238 : decode cX12_change 238 = .ok (.iastore, 1) := by decide +kernel
theorem dX12_change_239 : decode cX12_change 239 = .ok (.aload_n 0, 1) := by decide +kernel
theorem dX12_change_240 : decode cX12_change 240 = .ok (.dup, 1) := by decide +kernel
theorem dX12_change_241 : decode cX12_change 241 = .ok (.getfield 184, 3) := by decide +kernel
theorem dX12_change_244 : decode cX12_change 244 = .ok (.iconst 1, 1) := by decide +kernel
theorem dX12_change_245 : decode cX12_change 245 = .ok (.iadd, 1) := by decide +kernel
theorem dX12_change_246 : decode cX12_change 246 = .ok (.putfield 184, 3) := by decide +kernel
theorem dX12_change_249 : decode cX12_change 249 = .ok (.iload_n 3, 1) := by decide +kernel
theorem dX12_change_250 : decode cX12_change 250 = .ok (.iload 5, 2) := by decide +kernel
theorem dX12_change_252 : decode cX12_change 252 = .ok (.ifCond .gt 7, 3) := by decide +kernel
theorem dX12_change_255 : decode cX12_change 255 = .ok (.iconst 1, 1) := by decide +kernel
theorem dX12_change_256 : decode cX12_change 256 = .ok (.goto 4, 3) := by decide +kernel
theorem dX12_change_259 : decode cX12_change 259 = .ok (.iconst 0, 1) := by decide +kernel
theorem dX12_change_260 : decode cX12_change 260 = .ok (.iadd, 1) := by decide +kernel
theorem dX12_change_261 : decode cX12_change 261 = .ok (.istore_n 3, 1) := by decide +kernel
theorem dX12_change_262 : decode cX12_change 262 = .ok (.iload 4, 2) := by decide +kernel
theorem dX12_change_264 : decode cX12_change 264 = .ok (.iload 5, 2) := by decide +kernel
theorem dX12_change_266 : decode cX12_change 266 = .ok (.ifCond .lt 7, 3) := by decide +kernel
theorem dX12_change_269 : decode cX12_change 269 = .ok (.iconst 1, 1) := by decide +kernel
theorem dX12_change_270 : decode cX12_change 270 = .ok (.goto 4, 3) := by decide +kernel
theorem dX12_change_273 : decode cX12_change 273 = .ok (.iconst 0, 1) := by decide +kernel
theorem dX12_change_274 : decode cX12_change 274 = .ok (.iadd, 1) := by decide +kernel
theorem dX12_change_275 : decode cX12_change 275 = .ok (.istore 4, 2) := by decide +kernel
theorem dX12_change_277 : decode cX12_change 277 = .ok (.goto (-257), 3) := by decide +kernel
theorem dX12_change_280 : decode cX12_change 280 = .ok (.iconst 1, 1) := by decide +kernel
theorem dX12_change_281 : decode cX12_change 281 = .ok (.ireturn, 1) := by decide +kernel
theorem dX12_readOne_0 : decode cX12_readOne 0 = .ok (.aload_n 0, 1) := by decide +kernel
theorem dX12_readOne_1 : decode cX12_readOne 1 = .ok (.getfield 187, 3) := by decide +kernel
theorem dX12_readOne_4 : decode cX12_readOne 4 = .ok (.istore_n 1, 1) := by decide +kernel
theorem dX12_readOne_5 : decode cX12_readOne 5 = .ok (.aload_n 0, 1) := by decide +kernel
theorem dX12_readOne_6 : decode cX12_readOne 6 = .ok (.getfield 22, 3) := by decide +kernel
theorem dX12_readOne_9 : decode cX12_readOne 9 = .ok (.iload_n 1, 1) := by decide +kernel
theorem dX12_readOne_10 : decode cX12_readOne 10 = .ok (.aload_n 0, 1) := by decide +kernel
theorem dX12_readOne_11 : decode cX12_readOne 11 = .ok (.getfield 26, 3) := by decide +kernel
theorem dX12_readOne_14 : decode cX12_readOne 14 = .ok (.iconst (-1), 1) := by decide +kernel
theorem dX12_readOne_15 : decode cX12_readOne 15 = .ok (.if_icmp .eq 26, 3) := by decide +kernel
theorem dX12_readOne_18 : decode cX12_readOne 18 = .ok (.aload_n 0, 1) := by decide +kernel
theorem dX12_readOne_19 : decode cX12_readOne 19 = .ok (.getfield 19, 3) := by decide +kernel
theorem dX12_readOne_22 : decode cX12_readOne 22 = .ok (.iload_n 1, 1) := by decide +kernel
theorem dX12_readOne_23 : decode cX12_readOne 23 = .ok (.iaload, 1) := by decide +kernel
theorem dX12_readOne_24 : decode cX12_readOne 24 = .ok (.aload_n 0, 1) := by decide +kernel
theorem dX12_readOne_25 : decode cX12_readOne 25 = .ok (.iload_n 1, 1) := by decide +kernel
theorem dX12_readOne_26 : decode cX12_readOne 26 = .ok (.invokevirtual 190, 3) := by decide +kernel
theorem dX12_readOne_29 : decode cX12_readOne 29 = .ok (.aload_n 0, 1) := by decide +kernel
theorem dX12_readOne_30 : decode cX12_readOne 30 = .ok (.getfield 26, 3) := by decide +kernel
theorem dX12_readOne_33 : decode cX12_readOne 33 = .ok (.isub, 1) := by decide +kernel
theorem dX12_readOne_34 : decode cX12_readOne 34 = .ok (.if_icmp .ge 7, 3) := by decide +kernel
theorem dX12_readOne_37 : decode cX12_readOne 37 = .ok (.iconst 1, 1) := by decide +kernel
theorem dX12_readOne_38 : decode cX12_readOne 38 = .ok (.goto 4, 3) := by decide +kernel
theorem dX12_readOne_41 : decode cX12_readOne 41 = .ok (.iconst 0, 1) := by decide +kernel
theorem dX12_readOne_42 : decode cX12_readOne 42 = .ok (.bastore, 1) := by decide +kernel
theorem dX12_readOne_43 : decode cX12_readOne 43 = .ok (.aload_n 0, 1) := by decide +kernel
theorem dX12_readOne_44 : decode cX12_readOne 44 = .ok (.iload_n 1, 1) := by decide +kernel
theorem dX12_readOne_45 : decode cX12_readOne 45 = .ok (.iconst 1, 1) := by decide +kernel
theorem dX12_readOne_46 : decode cX12_readOne 46 = .ok (.iadd, 1) := by decide +kernel
theorem dX12_readOne_47 : decode cX12_readOne 47 = .ok (.invokevirtual 193, 3) := by decide +kernel
theorem dX12_readOne_50 : decode cX12_readOne 50 = .ok (.ifCond .ne 5, 3) := by decide +kernel
theorem dX12_readOne_53 : decode cX12_readOne 53 = .ok (.iconst 0, 1) := by decide +kernel
theorem dX12_readOne_54 : decode cX12_readOne 54 = .ok (.ireturn, 1) := by decide +kernel
theorem dX12_readOne_55 : decode cX12_readOne 55 = .ok (.aload_n 0, 1) := by decide +kernel
theorem dX12_readOne_56 : decode cX12_readOne 56 = .ok (.getfield 184, 3) := by decide +kernel
theorem dX12_readOne_59 : decode cX12_readOne 59 = .ok (.istore_n 2, 1) := by decide +kernel
theorem dX12_readOne_60 : decode cX12_readOne 60 = .ok (.aload_n 0, 1) := by decide +kernel
theorem dX12_readOne_61 : decode cX12_readOne 61 = .ok (.iconst (-1), 1) := by decide +kernel
theorem dX12_readOne_62 : decode cX12_readOne 62 = .ok (.invokevirtual 197, 3) := by decide +kernel
theorem dX12_readOne_65 : decode cX12_readOne 65 = .ok (.ifCond .eq 11, 3) := by decide +kernel
theorem dX12_readOne_68 : decode cX12_readOne 68 = .ok (.aload_n 0, 1) := by decide +kernel
theorem dX12_readOne_69 : decode cX12_readOne 69 = .ok (.iconst 1, 1) := by decide +kernel
theorem dX12_readOne_70 : decode cX12_readOne 70 = .ok (.invokevirtual 197, 3) := by decide +kernel
theorem dX12_readOne_73 : decode cX12_readOne 73 = .ok (.ifCond .ne 10, 3) := by decide +kernel
theorem dX12_readOne_76 : decode cX12_readOne 76 = .ok (.aload_n 0, 1) := by decide +kernel
theorem dX12_readOne_77 : decode cX12_readOne 77 = .ok (.iload_n 2, 1) := by decide +kernel
theorem dX12_readOne_78 : decode cX12_readOne 78 = .ok (.putfield 184, 3) := by decide +kernel
theorem dX12_readOne_81 : decode cX12_readOne 81 = .ok (.iconst 0, 1) := by decide +kernel
theorem dX12_readOne_82 : decode cX12_readOne 82 = .ok (.ireturn, 1) := by decide +kernel
theorem dX12_readOne_83 : decode cX12_readOne 83 = .ok (.aload_n 0, 1) := by decide +kernel
theorem dX12_readOne_84 : decode cX12_readOne 84 = .ok (.invokevirtual 200, 3) := by decide +kernel
theorem dX12_readOne_87 : decode cX12_readOne 87 = .ok (.aload_n 0, 1) := by decide +kernel
theorem dX12_readOne_88 : decode cX12_readOne 88 = .ok (.dup, 1) := by decide +kernel
theorem dX12_readOne_89 : decode cX12_readOne 89 = .ok (.getfield 187, 3) := by decide +kernel
theorem dX12_readOne_92 : decode cX12_readOne 92 = .ok (.iconst 1, 1) := by decide +kernel
theorem dX12_readOne_93 : decode cX12_readOne 93 = .ok (.iadd, 1) := by decide +kernel
theorem dX12_readOne_94 : decode cX12_readOne 94 = .ok (.putfield 187, 3) := by decide +kernel
theorem dX12_readOne_97 : decode cX12_readOne 97 = .ok (.iconst 1, 1) := by decide +kernel
theorem dX12_readOne_98 : decode cX12_readOne 98 = .ok (.ireturn, 1) := by decide +kernel
theorem dX12_read_0 : decode cX12_read 0 = .ok (.aload_n 0, 1) := by decide +kernel
theorem dX12_read_1 : decode cX12_read 1 = .ok (.iconst 0, 1) := by decide +kernel
theorem dX12_read_2 : decode cX12_read 2 = .ok (.putfield 120, 3) := by decide +kernel
theorem dX12_read_5 : decode cX12_read 5 = .ok (.iload_n 1, 1) := by decide +kernel
theorem dX12_read_6 : decode cX12_read 6 = .ok (.i2l, 1) := by decide +kernel
theorem dX12_read_7 : decode cX12_read 7 = .ok (.lconst 0, 1) := by decide +kernel
theorem dX12_read_8 : decode cX12_read 8 = .ok (.ldc2_w 203, 3) := by decide +kernel
theorem dX12_read_11 : decode cX12_read 11 = .ok (.invokestatic 128, 3) := by decide +kernel
theorem dX12_read_14 : decode cX12_read 14 = .ok (.ifCond .ne 9, 3) := by decide +kernel
theorem dX12_read_17 : decode cX12_read 17 = .ok (.aload_n 0, 1) := by decide +kernel
theorem dX12_read_18 : decode cX12_read 18 = .ok (.iconst (-1), 1) := by decide +kernel
theorem dX12_read_19 : decode cX12_read 19 = .ok (.invokevirtual 140, 3) := by decide +kernel
theorem dX12_read_22 : decode cX12_read 22 = .ok (.ireturn, 1) := by decide +kernel
theorem dX12_read_23 : decode cX12_read 23 = .ok (.aload_n 0, 1) := by decide +kernel
theorem dX12_read_24 : decode cX12_read 24 = .ok (.getfield 173, 3) := by decide +kernel
theorem dX12_read_27 : decode cX12_read 27 = .ok (.ifCond .ne 10, 3) := by decide +kernel
theorem dX12_read_30 : decode cX12_read 30 = .ok (.aload_n 0, 1) := by decide +kernel
theorem dX12_read_31 : decode cX12_read 31 = .ok (.bipush (-6), 2) := by decide +kernel
theorem dX12_read_33 : decode cX12_read 33 = .ok (.invokevirtual 140, 3) := by decide +kernel
theorem dX12_read_36 : decode cX12_read 36 = .ok (.ireturn, 1) := by decide +kernel
theorem dX12_read_37 : decode cX12_read 37 = .ok (.iconst 0, 1) := by decide +kernel
theorem dX12_read_38 : decode cX12_read 38 = .ok (.istore_n 2, 1) := by decide +kernel
theorem dX12_read_39 : decode cX12_read 39 = .ok (.iconst 1, 1) := by decide +kernel
theorem dX12_read_40 : decode cX12_read 40 = .ok (.istore_n 3, 1) := by decide +kernel
theorem dX12_read_41 : decode cX12_read 41 = .ok (.iload_n 2, 1) := by decide +kernel
theorem dX12_read_42 : decode cX12_read 42 = .ok (.iload_n 1, 1) := by decide +kernel
theorem dX12_read_43 : decode cX12_read 43 = .ok (.if_icmp .ge 38, 3) := by decide +kernel
theorem dX12_read_46 : decode cX12_read 46 = .ok (.aload_n 0, 1) := by decide +kernel
theorem dX12_read_47 : decode cX12_read 47 = .ok (.getfield 187, 3) := by decide +kernel
theorem dX12_read_50 : decode cX12_read 50 = .ok (.aload_n 0, 1) := by decide +kernel
theorem dX12_read_51 : decode cX12_read 51 = .ok (.getfield 144, 3) := by decide +kernel
theorem dX12_read_54 : decode cX12_read 54 = .ok (.if_icmp .ge 27, 3) := by decide +kernel
theorem dX12_read_57 : decode cX12_read 57 = .ok (.iload_n 3, 1) := by decide +kernel
theorem dX12_read_58 : decode cX12_read 58 = .ok (.ifCond .eq 23, 3) := by decide +kernel
theorem dX12_read_61 : decode cX12_read 61 = .ok (.aload_n 0, 1) := by decide +kernel
theorem dX12_read_62 : decode cX12_read 62 = .ok (.invokevirtual 205, 3) := by decide +kernel
theorem dX12_read_65 : decode cX12_read 65 = .ok (.istore_n 3, 1) := by decide +kernel
theorem dX12_read_66 : decode cX12_read 66 = .ok (.iload_n 2, 1) := by decide +kernel
theorem dX12_read_67 : decode cX12_read 67 = .ok (.iload_n 3, 1) := by decide +kernel
theorem dX12_read_68 : decode cX12_read 68 = .ok (.ifCond .eq 7, 3) := by decide +kernel
theorem dX12_read_71 : decode cX12_read 71 = .ok (.iconst 1, 1) := by decide +kernel
theorem dX12_read_72 : decode cX12_read 72 = .ok (.goto 4, 3) := by decide +kernel
theorem dX12_read_75 : decode cX12_read 75 = .ok (.iconst 0, 1) := by decide +kernel
theorem dX12_read_76 : decode cX12_read 76 = .ok (.iadd, 1) := by decide +kernel
theorem dX12_read_77 : decode cX12_read 77 = .ok (.istore_n 2, 1) := by decide +kernel
theorem dX12_read_78 : decode cX12_read 78 = .ok (.goto (-37), 3) := by decide +kernel
theorem dX12_read_81 : decode cX12_read 81 = .ok (.aload_n 0, 1) := by decide +kernel
theorem dX12_read_82 : decode cX12_read 82 = .ok (.iload_n 3, 1) := by decide +kernel
theorem dX12_read_83 : decode cX12_read 83 = .ok (.ifCond .eq 7, 3) := by decide +kernel
theorem dX12_read_86 : decode cX12_read 86 = .ok (.iconst 0, 1) := by decide +kernel
theorem dX12_read_87 : decode cX12_read 87 = .ok (.goto 5, 3) := by decide +kernel
theorem dX12_read_90 : decode cX12_read 90 = .ok (.bipush (-5), 2) := by decide +kernel
theorem dX12_read_92 : decode cX12_read 92 = .ok (.putfield 123, 3) := by decide +kernel
theorem dX12_read_95 : decode cX12_read 95 = .ok (.iload_n 2, 1) := by decide +kernel
theorem dX12_read_96 : decode cX12_read 96 = .ok (.ireturn, 1) := by decide +kernel
theorem dX12_goTo_0 : decode cX12_goTo 0 = .ok (.aload_n 0, 1) := by decide +kernel
theorem dX12_goTo_1 : decode cX12_goTo 1 = .ok (.iload_n 1, 1) := by decide +kernel
theorem dX12_goTo_2 : decode cX12_goTo 2 = .ok (.putfield 187, 3) := by decide +kernel
theorem dX12_goTo_5 : decode cX12_goTo 5 = .ok (.aload_n 0, 1) := by decide +kernel
theorem dX12_goTo_6 : decode cX12_goTo 6 = .ok (.iconst 0, 1) := by decide +kernel
theorem dX12_goTo_7 : decode cX12_goTo 7 = .ok (.putfield 184, 3) := by decide +kernel
theorem dX12_goTo_10 : decode cX12_goTo 10 = .ok (.aload_n 0, 1) := by decide +kernel
theorem dX12_goTo_11 : decode cX12_goTo 11 = .ok (.iload_n 1, 1) := by decide +kernel
theorem dX12_goTo_12 : decode cX12_goTo 12 = .ok (.invokevirtual 193, 3) := by decide +kernel
theorem dX12_goTo_15 : decode cX12_goTo 15 = .ok (.pop, 1) := by decide +kernel
theorem dX12_goTo_16 : decode cX12_goTo 16 = .ok (.aload_n 0, 1) := by decide +kernel
theorem dX12_goTo_17 : decode cX12_goTo 17 = .ok (.invokevirtual 200, 3) := by decide +kernel
theorem dX12_goTo_20 : decode cX12_goTo 20 = .ok (.return_, 1) := by decide +kernel
theorem dX12_begin_0 : decode cX12_begin 0 = .ok (.aload_n 0, 1) := by decide +kernel
theorem dX12_begin_1 : decode cX12_begin 1 = .ok (.iconst 0, 1) := by decide +kernel
theorem dX12_begin_2 : decode cX12_begin 2 = .ok (.putfield 209, 3) := by decide +kernel
theorem dX12_begin_5 : decode cX12_begin 5 = .ok (.aload_n 0, 1) := by decide +kernel
theorem dX12_begin_6 : decode cX12_begin 6 = .ok (.iconst 0, 1) := by decide +kernel
theorem dX12_begin_7 : decode cX12_begin 7 = .ok (.putfield 212, 3) := by decide +kernel
theorem dX12_begin_10 : decode cX12_begin 10 = .ok (.aload_n 0, 1) := by decide +kernel
theorem dX12_begin_11 : decode cX12_begin 11 = .ok (.iconst 0, 1) := by decide +kernel
theorem dX12_begin_12 : decode cX12_begin 12 = .ok (.invokevirtual 215, 3) := by decide +kernel
theorem dX12_begin_15 : decode cX12_begin 15 = .ok (.return_, 1) := by decide +kernel
theorem dX12_mark_0 : decode cX12_mark 0 = .ok (.aload_n 0, 1) := by decide +kernel
theorem dX12_mark_1 : decode cX12_mark 1 = .ok (.iconst 0, 1) := by decide +kernel
theorem dX12_mark_2 : decode cX12_mark 2 = .ok (.putfield 120, 3) := by decide +kernel
theorem dX12_mark_5 : decode cX12_mark 5 = .ok (.aload_n 0, 1) := by decide +kernel
theorem dX12_mark_6 : decode cX12_mark 6 = .ok (.getfield 173, 3) := by decide +kernel
theorem dX12_mark_9 : decode cX12_mark 9 = .ok (.ifCond .ne 10, 3) := by decide +kernel
theorem dX12_mark_12 : decode cX12_mark 12 = .ok (.aload_n 0, 1) := by decide +kernel
theorem dX12_mark_13 : decode cX12_mark 13 = .ok (.bipush (-6), 2) := by decide +kernel
theorem dX12_mark_15 : decode cX12_mark 15 = .ok (.invokevirtual 140, 3) := by decide +kernel
theorem dX12_mark_18 : decode cX12_mark 18 = .ok (.ireturn, 1) := by decide +kernel
theorem dX12_mark_19 : decode cX12_mark 19 = .ok (.aload_n 0, 1) := by decide +kernel
theorem dX12_mark_20 : decode cX12_mark 20 = .ok (.getfield 212, 3) := by decide +kernel
theorem dX12_mark_23 : decode cX12_mark 23 = .ok (.aload_n 0, 1) := by decide +kernel
theorem dX12_mark_24 : decode cX12_mark 24 = .ok (.getfield 184, 3) := by decide +kernel
theorem dX12_mark_27 : decode cX12_mark 27 = .ok (.iadd, 1) := by decide +kernel
theorem dX12_mark_28 : decode cX12_mark 28 = .ok (.sipush 4000, 3) := by decide +kernel
theorem dX12_mark_31 : decode cX12_mark 31 = .ok (.if_icmp .le 10, 3) := by decide +kernel
theorem dX12_mark_34 : decode cX12_mark 34 = .ok (.aload_n 0, 1) := by decide +kernel
theorem dX12_mark_35 : decode cX12_mark 35 = .ok (.bipush (-5), 2) := by decide +kernel
theorem dX12_mark_37 : decode cX12_mark 37 = .ok (.invokevirtual 140, 3) := by decide +kernel
theorem dX12_mark_40 : decode cX12_mark 40 = .ok (.ireturn, 1) := by decide +kernel
theorem dX12_mark_41 : decode cX12_mark 41 = .ok (.iconst 0, 1) := by decide +kernel
theorem dX12_mark_42 : decode cX12_mark 42 = .ok (.istore_n 1, 1) := by decide +kernel
theorem dX12_mark_43 : decode cX12_mark 43 = .ok (.iload_n 1, 1) := by decide +kernel
theorem dX12_mark_44 : decode cX12_mark 44 = .ok (.aload_n 0, 1) := by decide +kernel
theorem dX12_mark_45 : decode cX12_mark 45 = .ok (.getfield 184, 3) := by decide +kernel
theorem dX12_mark_48 : decode cX12_mark 48 = .ok (.if_icmp .ge 79, 3) := by decide +kernel
theorem dX12_mark_51 : decode cX12_mark 51 = .ok (.aload_n 0, 1) := by decide +kernel
theorem dX12_mark_52 : decode cX12_mark 52 = .ok (.getfield 81, 3) := by decide +kernel
theorem dX12_mark_55 : decode cX12_mark 55 = .ok (.aload_n 0, 1) := by decide +kernel
theorem dX12_mark_56 : decode cX12_mark 56 = .ok (.getfield 212, 3) := by decide +kernel
theorem dX12_mark_59 : decode cX12_mark 59 = .ok (.aload_n 0, 1) := by decide +kernel
theorem dX12_mark_60 : decode cX12_mark 60 = .ok (.getfield 69, 3) := by decide +kernel
theorem dX12_mark_63 : decode cX12_mark 63 = .ok (.iload_n 1, 1) := by decide +kernel
theorem dX12_mark_64 : decode cX12_mark 64 = .ok (.iaload, 1) := by decide +kernel
theorem dX12_mark_65 : decode cX12_mark 65 = .ok (.iastore, 1) := by decide +kernel
theorem dX12_mark_66 : decode cX12_mark 66 = .ok (.aload_n 0, 1) := by decide +kernel
theorem dX12_mark_67 : decode cX12_mark 67 = .ok (.getfield 84, 3) := by decide +kernel
theorem dX12_mark_70 : decode cX12_mark 70 = .ok (.aload_n 0, 1) := by decide +kernel
theorem dX12_mark_71 : decode cX12_mark 71 = .ok (.getfield 212, 3) := by decide +kernel
theorem dX12_mark_74 : decode cX12_mark 74 = .ok (.aload_n 0, 1) := by decide +kernel
theorem dX12_mark_75 : decode cX12_mark 75 = .ok (.getfield 72, 3) := by decide +kernel
theorem dX12_mark_78 : decode cX12_mark 78 = .ok (.iload_n 1, 1) := by decide +kernel
theorem dX12_mark_79 : decode cX12_mark 79 = .ok (.iaload, 1) := by decide +kernel
theorem dX12_mark_80 : decode cX12_mark 80 = .ok (.iastore, 1) := by decide +kernel
theorem dX12_mark_81 : decode cX12_mark 81 = .ok (.aload_n 0, 1) := by decide +kernel
theorem dX12_mark_82 : decode cX12_mark 82 = .ok (.getfield 87, 3) := by decide +kernel
theorem dX12_mark_85 : decode cX12_mark 85 = .ok (.aload_n 0, 1) := by decide +kernel
theorem dX12_mark_86 : decode cX12_mark 86 = .ok (.getfield 212, 3) := by decide +kernel
theorem dX12_mark_89 : decode cX12_mark 89 = .ok (.aload_n 0, 1) := by decide +kernel
theorem dX12_mark_90 : decode cX12_mark 90 = .ok (.getfield 75, 3) := by decide +kernel
theorem dX12_mark_93 : decode cX12_mark 93 = .ok (.iload_n 1, 1) := by decide +kernel
theorem dX12_mark_94 : decode cX12_mark 94 = .ok (.iaload, 1) := by decide +kernel
theorem dX12_mark_95 : decode cX12_mark 95 = .ok (.iastore, 1) := by decide +kernel
theorem dX12_mark_96 : decode cX12_mark 96 = .ok (.aload_n 0, 1) := by decide +kernel
theorem dX12_mark_97 : decode cX12_mark 97 = .ok (.getfield 90, 3) := by decide +kernel
theorem dX12_mark_100 : decode cX12_mark 100 = .ok (.aload_n 0, 1) := by decide +kernel
theorem dX12_mark_101 : decode cX12_mark 101 = .ok (.getfield 212, 3) := by decide +kernel
theorem dX12_mark_104 : decode cX12_mark 104 = .ok (.aload_n 0, 1) := by decide +kernel
theorem dX12_mark_105 : decode cX12_mark 105 = .ok (.getfield 78, 3) := by decide +kernel
theorem dX12_mark_108 : decode cX12_mark 108 = .ok (.iload_n 1, 1) := by decide +kernel
theorem dX12_mark_109 : decode cX12_mark 109 = .ok (.iaload, 1) := by decide +kernel
theorem dX12_mark_110 : decode cX12_mark 110 = .ok (.iastore, 1) := by decide +kernel
theorem dX12_mark_111 : decode cX12_mark 111 = .ok (.aload_n 0, 1) := by decide +kernel
theorem dX12_mark_112 : decode cX12_mark 112 = .ok (.dup, 1) := by decide +kernel
theorem dX12_mark_113 : decode cX12_mark 113 = .ok (.getfield 212, 3) := by decide +kernel
theorem dX12_mark_116 : decode cX12_mark 116 = .ok (.iconst 1, 1) := by decide +kernel
theorem dX12_mark_117 : decode cX12_mark 117 = .ok (.iadd, 1) := by decide +kernel
theorem dX12_mark_118 : decode cX12_mark 118 = .ok (.putfield 212, 3) := by decide +kernel
theorem dX12_mark_121 : decode cX12_mark 121 = .ok (.iinc 1 1, 3) := by decide +kernel
theorem dX12_mark_124 : decode cX12_mark 124 = .ok (.goto (-81), 3) := by decide +kernel
theorem dX12_mark_127 : decode cX12_mark 127 = .ok (.aload_n 0, 1) := by decide +kernel
theorem dX12_mark_128 : decode cX12_mark 128 = .ok (.iconst 0, 1) := by decide +kernel
theorem dX12_mark_129 : decode cX12_mark 129 = .ok (.putfield 184, 3) := by decide +kernel
theorem dX12_mark_132 : decode cX12_mark 132 = .ok (.aload_n 0, 1) := by decide +kernel
theorem dX12_mark_133 : decode cX12_mark 133 = .ok (.aload_n 0, 1) := by decide +kernel
theorem dX12_mark_134 : decode cX12_mark 134 = .ok (.getfield 187, 3) := by decide +kernel
theorem dX12_mark_137 : decode cX12_mark 137 = .ok (.putfield 209, 3) := by decide +kernel
theorem dX12_mark_140 : decode cX12_mark 140 = .ok (.aload_n 0, 1) := by decide +kernel
theorem dX12_mark_141 : decode cX12_mark 141 = .ok (.aload_n 0, 1) := by decide +kernel
theorem dX12_mark_142 : decode cX12_mark 142 = .ok (.getfield 212, 3) := by decide +kernel
theorem dX12_mark_145 : decode cX12_mark 145 = .ok (.invokevirtual 140, 3) := by decide +kernel
theorem dX12_mark_148 : decode cX12_mark 148 = .ok (.ireturn, 1) := by decide +kernel
theorem dX12_fall_0 : decode cX12_fall 0 = .ok (.aload_n 0, 1) := by decide +kernel
theorem dX12_fall_1 : decode cX12_fall 1 = .ok (.iconst 0, 1) := by decide +kernel
theorem dX12_fall_2 : decode cX12_fall 2 = .ok (.putfield 120, 3) := by decide +kernel
theorem dX12_fall_5 : decode cX12_fall 5 = .ok (.aload_n 0, 1) := by decide +kernel
theorem dX12_fall_6 : decode cX12_fall 6 = .ok (.getfield 173, 3) := by decide +kernel
theorem dX12_fall_9 : decode cX12_fall 9 = .ok (.ifCond .ne 10, 3) := by decide +kernel
theorem dX12_fall_12 : decode cX12_fall 12 = .ok (.aload_n 0, 1) := by decide +kernel
theorem dX12_fall_13 : decode cX12_fall 13 = .ok (.bipush (-6), 2) := by decide +kernel
theorem dX12_fall_15 : decode cX12_fall 15 = .ok (.invokevirtual 140, 3) := by decide +kernel
theorem dX12_fall_18 : decode cX12_fall 18 = .ok (.ireturn, 1) := by decide +kernel
theorem dX12_fall_19 : decode cX12_fall 19 = .ok (.aload_n 0, 1) := by decide +kernel
theorem dX12_fall_20 : decode cX12_fall 20 = .ok (.aload_n 0, 1) := by decide +kernel
end
section
theorem dX12_fall_21 : decode cX12_fall 21 = .ok (.getfield 209, 3) := by decide +kernel
theorem dX12_fall_24 : decode cX12_fall 24 = .ok (.invokevirtual 215, 3) := by decide +kernel
theorem dX12_fall_27 : decode cX12_fall 27 = .ok (.aload_n 0, 1) := by decide +kernel
theorem dX12_fall_28 : decode cX12_fall 28 = .ok (.aload_n 0, 1) := by decide +kernel
theorem dX12_fall_29 : decode cX12_fall 29 = .ok (.getfield 187, 3) := by decide +kernel
theorem dX12_fall_32 : decode cX12_fall 32 = .ok (.invokevirtual 140, 3) := by decide +kernel
theorem dX12_fall_35 : decode cX12_fall 35 = .ok (.ireturn, 1) := by decide +kernel
theorem dX12_late_0 : decode cX12_late 0 = .ok (.aload_n 0, 1) := by decide +kernel
theorem dX12_late_1 : decode cX12_late 1 = .ok (.iconst 0, 1) := by decide +kernel
theorem dX12_late_2 : decode cX12_late 2 = .ok (.putfield 120, 3) := by decide +kernel
theorem dX12_late_5 : decode cX12_late 5 = .ok (.iload_n 1, 1) := by decide +kernel
theorem dX12_late_6 : decode cX12_late 6 = .ok (.i2l, 1) := by decide +kernel
theorem dX12_late_7 : decode cX12_late 7 = .ok (.ldc2_w 218, 3) := by decide +kernel
theorem dX12_late_10 : decode cX12_late 10 = .ok (.ldc2_w 138, 3) := by decide +kernel
theorem dX12_late_13 : decode cX12_late 13 = .ok (.invokestatic 128, 3) := by decide +kernel
theorem dX12_late_16 : decode cX12_late 16 = .ok (.ifCond .ne 11, 3) := by decide +kernel
theorem dX12_late_19 : decode cX12_late 19 = .ok (.aload_n 0, 1) := by decide +kernel
theorem dX12_late_20 : decode cX12_late 20 = .ok (.iconst (-1), 1) := by decide +kernel
theorem dX12_late_21 : decode cX12_late 21 = .ok (.putfield 123, 3) := by decide +kernel
theorem dX12_late_24 : decode cX12_late 24 = .ok (.bipush (-5), 2) := by decide +kernel
theorem dX12_late_26 : decode cX12_late 26 = .ok (.ireturn, 1) := by decide +kernel
theorem dX12_late_27 : decode cX12_late 27 = .ok (.aload_n 0, 1) := by decide +kernel
theorem dX12_late_28 : decode cX12_late 28 = .ok (.getfield 26, 3) := by decide +kernel
theorem dX12_late_31 : decode cX12_late 31 = .ok (.istore_n 2, 1) := by decide +kernel
theorem dX12_late_32 : decode cX12_late 32 = .ok (.aload_n 0, 1) := by decide +kernel
theorem dX12_late_33 : decode cX12_late 33 = .ok (.iload_n 1, 1) := by decide +kernel
theorem dX12_late_34 : decode cX12_late 34 = .ok (.putfield 26, 3) := by decide +kernel
theorem dX12_late_37 : decode cX12_late 37 = .ok (.aload_n 0, 1) := by decide +kernel
theorem dX12_late_38 : decode cX12_late 38 = .ok (.invokevirtual 220, 3) := by decide +kernel
theorem dX12_late_41 : decode cX12_late 41 = .ok (.aload_n 0, 1) := by decide +kernel
theorem dX12_late_42 : decode cX12_late 42 = .ok (.iconst 0, 1) := by decide +kernel
theorem dX12_late_43 : decode cX12_late 43 = .ok (.putfield 123, 3) := by decide +kernel
theorem dX12_late_46 : decode cX12_late 46 = .ok (.iload_n 2, 1) := by decide +kernel
theorem dX12_late_47 : decode cX12_late 47 = .ok (.ireturn, 1) := by decide +kernel
theorem dX12_four_0 : decode cX12_four 0 = .ok (.bipush 24, 2) := by decide +kernel
theorem dX12_four_2 : decode cX12_four 2 = .ok (.istore_n 2, 1) := by decide +kernel
theorem dX12_four_3 : decode cX12_four 3 = .ok (.iload_n 2, 1) := by decide +kernel
theorem dX12_four_4 : decode cX12_four 4 = .ok (.ifCond .lt 35, 3) := by decide +kernel
theorem dX12_four_7 : decode cX12_four 7 = .ok (.aload_n 0, 1) := by decide +kernel
theorem dX12_four_8 : decode cX12_four 8 = .ok (.getfield 111, 3) := by decide +kernel
theorem dX12_four_11 : decode cX12_four 11 = .ok (.aload_n 0, 1) := by decide +kernel
theorem dX12_four_12 : decode cX12_four 12 = .ok (.getfield 223, 3) := by decide +kernel
theorem dX12_four_15 : decode cX12_four 15 = .ok (.iload_n 1, 1) := by decide +kernel
theorem dX12_four_16 : decode cX12_four 16 = .ok (.iload_n 2, 1) := by decide +kernel
theorem dX12_four_17 : decode cX12_four 17 = .ok (.ishr, 1) := by decide +kernel
theorem dX12_four_18 : decode cX12_four 18 = .ok (.sipush 255, 3) := by decide +kernel
theorem dX12_four_21 : decode cX12_four 21 = .ok (.iand, 1) := by decide +kernel
theorem dX12_four_22 : decode cX12_four 22 = .ok (.iastore, 1) := by decide +kernel
theorem dX12_four_23 : decode cX12_four 23 = .ok (.aload_n 0, 1) := by decide +kernel
theorem dX12_four_24 : decode cX12_four 24 = .ok (.dup, 1) := by decide +kernel
theorem dX12_four_25 : decode cX12_four 25 = .ok (.getfield 223, 3) := by decide +kernel
theorem dX12_four_28 : decode cX12_four 28 = .ok (.iconst 1, 1) := by decide +kernel
theorem dX12_four_29 : decode cX12_four 29 = .ok (.iadd, 1) := by decide +kernel
theorem dX12_four_30 : decode cX12_four 30 = .ok (.putfield 223, 3) := by decide +kernel
theorem dX12_four_33 : decode cX12_four 33 = .ok (.iinc 2 (-8), 3) := by decide +kernel
theorem dX12_four_36 : decode cX12_four 36 = .ok (.goto (-33), 3) := by decide +kernel
theorem dX12_four_39 : decode cX12_four 39 = .ok (.return_, 1) := by decide +kernel
theorem dX12_feed_0 : decode cX12_feed 0 = .ok (.aload_n 0, 1) := by decide +kernel
theorem dX12_feed_1 : decode cX12_feed 1 = .ok (.iconst 0, 1) := by decide +kernel
theorem dX12_feed_2 : decode cX12_feed 2 = .ok (.putfield 120, 3) := by decide +kernel
theorem dX12_feed_5 : decode cX12_feed 5 = .ok (.aload_n 0, 1) := by decide +kernel
theorem dX12_feed_6 : decode cX12_feed 6 = .ok (.getfield 223, 3) := by decide +kernel
theorem dX12_feed_9 : decode cX12_feed 9 = .ok (.bipush 20, 2) := by decide +kernel
theorem dX12_feed_11 : decode cX12_feed 11 = .ok (.iadd, 1) := by decide +kernel
theorem dX12_feed_12 : decode cX12_feed 12 = .ok (.sipush 300, 3) := by decide +kernel
theorem dX12_feed_15 : decode cX12_feed 15 = .ok (.if_icmp .le 5, 3) := by decide +kernel
theorem dX12_feed_18 : decode cX12_feed 18 = .ok (.iconst (-1), 1) := by decide +kernel
theorem dX12_feed_19 : decode cX12_feed 19 = .ok (.ireturn, 1) := by decide +kernel
theorem dX12_feed_20 : decode cX12_feed 20 = .ok (.aload_n 0, 1) := by decide +kernel
theorem dX12_feed_21 : decode cX12_feed 21 = .ok (.iload_n 1, 1) := by decide +kernel
theorem dX12_feed_22 : decode cX12_feed 22 = .ok (.invokevirtual 226, 3) := by decide +kernel
theorem dX12_feed_25 : decode cX12_feed 25 = .ok (.aload_n 0, 1) := by decide +kernel
theorem dX12_feed_26 : decode cX12_feed 26 = .ok (.iload_n 2, 1) := by decide +kernel
theorem dX12_feed_27 : decode cX12_feed 27 = .ok (.invokevirtual 226, 3) := by decide +kernel
theorem dX12_feed_30 : decode cX12_feed 30 = .ok (.aload_n 0, 1) := by decide +kernel
theorem dX12_feed_31 : decode cX12_feed 31 = .ok (.iload_n 3, 1) := by decide +kernel
theorem dX12_feed_32 : decode cX12_feed 32 = .ok (.invokevirtual 226, 3) := by decide +kernel
theorem dX12_feed_35 : decode cX12_feed 35 = .ok (.aload_n 0, 1) := by decide +kernel
theorem dX12_feed_36 : decode cX12_feed 36 = .ok (.iload 4, 2) := by decide +kernel
theorem dX12_feed_38 : decode cX12_feed 38 = .ok (.invokevirtual 226, 3) := by decide +kernel
theorem dX12_feed_41 : decode cX12_feed 41 = .ok (.aload_n 0, 1) := by decide +kernel
theorem dX12_feed_42 : decode cX12_feed 42 = .ok (.iload 5, 2) := by decide +kernel
theorem dX12_feed_44 : decode cX12_feed 44 = .ok (.invokevirtual 226, 3) := by decide +kernel
theorem dX12_feed_47 : decode cX12_feed 47 = .ok (.aload_n 0, 1) := by decide +kernel
theorem dX12_feed_48 : decode cX12_feed 48 = .ok (.getfield 223, 3) := by decide +kernel
theorem dX12_feed_51 : decode cX12_feed 51 = .ok (.ireturn, 1) := by decide +kernel
theorem dX12_end_0 : decode cX12_end 0 = .ok (.aload_n 0, 1) := by decide +kernel
theorem dX12_end_1 : decode cX12_end 1 = .ok (.iconst 0, 1) := by decide +kernel
theorem dX12_end_2 : decode cX12_end 2 = .ok (.putfield 120, 3) := by decide +kernel
theorem dX12_end_5 : decode cX12_end 5 = .ok (.iload_n 1, 1) := by decide +kernel
theorem dX12_end_6 : decode cX12_end 6 = .ok (.ifCond .lt 11, 3) := by decide +kernel
theorem dX12_end_9 : decode cX12_end 9 = .ok (.iload_n 1, 1) := by decide +kernel
theorem dX12_end_10 : decode cX12_end 10 = .ok (.aload_n 0, 1) := by decide +kernel
theorem dX12_end_11 : decode cX12_end 11 = .ok (.getfield 223, 3) := by decide +kernel
theorem dX12_end_14 : decode cX12_end 14 = .ok (.if_icmp .le 5, 3) := by decide +kernel
theorem dX12_end_17 : decode cX12_end 17 = .ok (.iconst (-1), 1) := by decide +kernel
theorem dX12_end_18 : decode cX12_end 18 = .ok (.ireturn, 1) := by decide +kernel
theorem dX12_end_19 : decode cX12_end 19 = .ok (.aload_n 0, 1) := by decide +kernel
theorem dX12_end_20 : decode cX12_end 20 = .ok (.iload_n 1, 1) := by decide +kernel
theorem dX12_end_21 : decode cX12_end 21 = .ok (.putfield 223, 3) := by decide +kernel
theorem dX12_end_24 : decode cX12_end 24 = .ok (.iload_n 1, 1) := by decide +kernel
theorem dX12_end_25 : decode cX12_end 25 = .ok (.ireturn, 1) := by decide +kernel
theorem dX12_isSmall_0 : decode cX12_isSmall 0 = .ok (.iload_n 0, 1) := by decide +kernel
theorem dX12_isSmall_1 : decode cX12_isSmall 1 = .ok (.bipush 97, 2) := by decide +kernel
theorem dX12_isSmall_3 : decode cX12_isSmall 3 = .ok (.if_icmp .lt 13, 3) := by decide +kernel
theorem dX12_isSmall_6 : decode cX12_isSmall 6 = .ok (.iload_n 0, 1) := by decide +kernel
theorem dX12_isSmall_7 : decode cX12_isSmall 7 = .ok (.bipush 122, 2) := by decide +kernel
theorem dX12_isSmall_9 : decode cX12_isSmall 9 = .ok (.if_icmp .gt 7, 3) := by decide +kernel
theorem dX12_isSmall_12 : decode cX12_isSmall 12 = .ok (.iconst 1, 1) := by decide +kernel
theorem dX12_isSmall_13 : decode cX12_isSmall 13 = .ok (.goto 4, 3) := by decide +kernel
theorem dX12_isSmall_16 : decode cX12_isSmall 16 = .ok (.iconst 0, 1) := by decide +kernel
theorem dX12_isSmall_17 : decode cX12_isSmall 17 = .ok (.ireturn, 1) := by decide +kernel
theorem dX12_isDigit_0 : decode cX12_isDigit 0 = .ok (.iload_n 0, 1) := by decide +kernel
theorem dX12_isDigit_1 : decode cX12_isDigit 1 = .ok (.bipush 48, 2) := by decide +kernel
theorem dX12_isDigit_3 : decode cX12_isDigit 3 = .ok (.if_icmp .lt 13, 3) := by decide +kernel
theorem dX12_isDigit_6 : decode cX12_isDigit 6 = .ok (.iload_n 0, 1) := by decide +kernel
theorem dX12_isDigit_7 : decode cX12_isDigit 7 = .ok (.bipush 57, 2) := by decide +kernel
theorem dX12_isDigit_9 : decode cX12_isDigit 9 = .ok (.if_icmp .gt 7, 3) := by decide +kernel
theorem dX12_isDigit_12 : decode cX12_isDigit 12 = .ok (.iconst 1, 1) := by decide +kernel
theorem dX12_isDigit_13 : decode cX12_isDigit 13 = .ok (.goto 4, 3) := by decide +kernel
theorem dX12_isDigit_16 : decode cX12_isDigit 16 = .ok (.iconst 0, 1) := by decide +kernel
theorem dX12_isDigit_17 : decode cX12_isDigit 17 = .ok (.ireturn, 1) := by decide +kernel
theorem dX12_next_0 : decode cX12_next 0 = .ok (.aload_n 0, 1) := by decide +kernel
theorem dX12_next_1 : decode cX12_next 1 = .ok (.aload_n 0, 1) := by decide +kernel
theorem dX12_next_2 : decode cX12_next 2 = .ok (.getfield 229, 3) := by decide +kernel
theorem dX12_next_5 : decode cX12_next 5 = .ok (.putfield 232, 3) := by decide +kernel
theorem dX12_next_8 : decode cX12_next 8 = .ok (.aload_n 0, 1) := by decide +kernel
theorem dX12_next_9 : decode cX12_next 9 = .ok (.getfield 232, 3) := by decide +kernel
theorem dX12_next_12 : decode cX12_next 12 = .ok (.aload_n 0, 1) := by decide +kernel
theorem dX12_next_13 : decode cX12_next 13 = .ok (.getfield 223, 3) := by decide +kernel
theorem dX12_next_16 : decode cX12_next 16 = .ok (.if_icmp .ge 30, 3) := by decide +kernel
theorem dX12_next_19 : decode cX12_next 19 = .ok (.aload_n 0, 1) := by decide +kernel
theorem dX12_next_20 : decode cX12_next 20 = .ok (.getfield 111, 3) := by decide +kernel
theorem dX12_next_23 : decode cX12_next 23 = .ok (.aload_n 0, 1) := by decide +kernel
theorem dX12_next_24 : decode cX12_next 24 = .ok (.getfield 232, 3) := by decide +kernel
theorem dX12_next_27 : decode cX12_next 27 = .ok (.iaload, 1) := by decide +kernel
theorem dX12_next_28 : decode cX12_next 28 = .ok (.bipush 32, 2) := by decide +kernel
theorem dX12_next_30 : decode cX12_next 30 = .ok (.if_icmp .ne 16, 3) := by decide +kernel
theorem dX12_next_33 : decode cX12_next 33 = .ok (.aload_n 0, 1) := by decide +kernel
theorem dX12_next_34 : decode cX12_next 34 = .ok (.dup, 1) := by decide +kernel
theorem dX12_next_35 : decode cX12_next 35 = .ok (.getfield 232, 3) := by decide +kernel
theorem dX12_next_38 : decode cX12_next 38 = .ok (.iconst 1, 1) := by decide +kernel
theorem dX12_next_39 : decode cX12_next 39 = .ok (.iadd, 1) := by decide +kernel
theorem dX12_next_40 : decode cX12_next 40 = .ok (.putfield 232, 3) := by decide +kernel
theorem dX12_next_43 : decode cX12_next 43 = .ok (.goto (-35), 3) := by decide +kernel
theorem dX12_next_46 : decode cX12_next 46 = .ok (.aload_n 0, 1) := by decide +kernel
theorem dX12_next_47 : decode cX12_next 47 = .ok (.aload_n 0, 1) := by decide +kernel
theorem dX12_next_48 : decode cX12_next 48 = .ok (.getfield 232, 3) := by decide +kernel
theorem dX12_next_51 : decode cX12_next 51 = .ok (.putfield 229, 3) := by decide +kernel
theorem dX12_next_54 : decode cX12_next 54 = .ok (.aload_n 0, 1) := by decide +kernel
theorem dX12_next_55 : decode cX12_next 55 = .ok (.lconst 0, 1) := by decide +kernel
theorem dX12_next_56 : decode cX12_next 56 = .ok (.putfield 235, 3) := by decide +kernel
theorem dX12_next_59 : decode cX12_next 59 = .ok (.aload_n 0, 1) := by decide +kernel
theorem dX12_next_60 : decode cX12_next 60 = .ok (.aload_n 0, 1) := by decide +kernel
theorem dX12_next_61 : decode cX12_next 61 = .ok (.getfield 232, 3) := by decide +kernel
theorem dX12_next_64 : decode cX12_next 64 = .ok (.aload_n 0, 1) := by decide +kernel
theorem dX12_next_65 : decode cX12_next 65 = .ok (.getfield 223, 3) := by decide +kernel
theorem dX12_next_68 : decode cX12_next 68 = .ok (.if_icmp .ne 7, 3) := by decide +kernel
theorem dX12_next_71 : decode cX12_next 71 = .ok (.iconst 0, 1) := by decide +kernel
theorem dX12_next_72 : decode cX12_next 72 = .ok (.goto 42, 3) := by decide +kernel
theorem dX12_next_75 : decode cX12_next 75 = .ok (.aload_n 0, 1) := by decide +kernel
theorem dX12_next_76 : decode cX12_next 76 = .ok (.getfield 111, 3) := by decide +kernel
theorem dX12_next_79 : decode cX12_next 79 = .ok (.aload_n 0, 1) := by decide +kernel
theorem dX12_next_80 : decode cX12_next 80 = .ok (.getfield 232, 3) := by decide +kernel
theorem dX12_next_83 : decode cX12_next 83 = .ok (.iaload, 1) := by decide +kernel
theorem dX12_next_84 : decode cX12_next 84 = .ok (.invokestatic 239, 3) := by decide +kernel
theorem dX12_next_87 : decode cX12_next 87 = .ok (.ifCond .eq 7, 3) := by decide +kernel
theorem dX12_next_90 : decode cX12_next 90 = .ok (.iconst 1, 1) := by decide +kernel
theorem dX12_next_91 : decode cX12_next 91 = .ok (.goto 23, 3) := by decide +kernel
theorem dX12_next_94 : decode cX12_next 94 = .ok (.aload_n 0, 1) := by decide +kernel
theorem dX12_next_95 : decode cX12_next 95 = .ok (.getfield 111, 3) := by decide +kernel
theorem dX12_next_98 : decode cX12_next 98 = .ok (.aload_n 0, 1) := by decide +kernel
theorem dX12_next_99 : decode cX12_next 99 = .ok (.getfield 232, 3) := by decide +kernel
theorem dX12_next_102 : decode cX12_next 102 = .ok (.iaload, 1) := by decide +kernel
theorem dX12_next_103 : decode cX12_next 103 = .ok (.invokestatic 242, 3) := by decide +kernel
theorem dX12_next_106 : decode cX12_next 106 = .ok (.ifCond .eq 7, 3) := by decide +kernel
theorem dX12_next_109 : decode cX12_next 109 = .ok (.iconst 2, 1) := by decide +kernel
theorem dX12_next_110 : decode cX12_next 110 = .ok (.goto 4, 3) := by decide +kernel
theorem dX12_next_113 : decode cX12_next 113 = .ok (.iconst 3, 1) := by decide +kernel
theorem dX12_next_114 : decode cX12_next 114 = .ok (.putfield 245, 3) := by decide +kernel
theorem dX12_next_117 : decode cX12_next 117 = .ok (.aload_n 0, 1) := by decide +kernel
theorem dX12_next_118 : decode cX12_next 118 = .ok (.getfield 245, 3) := by decide +kernel
theorem dX12_next_121 : decode cX12_next 121 = .ok (.iconst 3, 1) := by decide +kernel
theorem dX12_next_122 : decode cX12_next 122 = .ok (.if_icmp .ne 27, 3) := by decide +kernel
theorem dX12_next_125 : decode cX12_next 125 = .ok (.aload_n 0, 1) := by decide +kernel
theorem dX12_next_126 : decode cX12_next 126 = .ok (.aload_n 0, 1) := by decide +kernel
theorem dX12_next_127 : decode cX12_next 127 = .ok (.getfield 111, 3) := by decide +kernel
theorem dX12_next_130 : decode cX12_next 130 = .ok (.aload_n 0, 1) := by decide +kernel
theorem dX12_next_131 : decode cX12_next 131 = .ok (.getfield 232, 3) := by decide +kernel
theorem dX12_next_134 : decode cX12_next 134 = .ok (.iaload, 1) := by decide +kernel
theorem dX12_next_135 : decode cX12_next 135 = .ok (.i2l, 1) := by decide +kernel
theorem dX12_next_136 : decode cX12_next 136 = .ok (.putfield 235, 3) := by decide +kernel
theorem dX12_next_139 : decode cX12_next 139 = .ok (.aload_n 0, 1) := by decide +kernel
theorem dX12_next_140 : decode cX12_next 140 = .ok (.dup, 1) := by decide +kernel
theorem dX12_next_141 : decode cX12_next 141 = .ok (.getfield 229, 3) := by decide +kernel
theorem dX12_next_144 : decode cX12_next 144 = .ok (.iconst 1, 1) := by decide +kernel
theorem dX12_next_145 : decode cX12_next 145 = .ok (.iadd, 1) := by decide +kernel
theorem dX12_next_146 : decode cX12_next 146 = .ok (.putfield 229, 3) := by decide +kernel
theorem dX12_next_149 : decode cX12_next 149 = .ok (.aload_n 0, 1) := by decide +kernel
theorem dX12_next_150 : decode cX12_next 150 = .ok (.getfield 245, 3) := by decide +kernel
theorem dX12_next_153 : decode cX12_next 153 = .ok (.iconst 1, 1) := by decide +kernel
theorem dX12_next_154 : decode cX12_next 154 = .ok (.if_icmp .ne 89, 3) := by decide +kernel
theorem dX12_next_157 : decode cX12_next 157 = .ok (.aload_n 0, 1) := by decide +kernel
theorem dX12_next_158 : decode cX12_next 158 = .ok (.getfield 229, 3) := by decide +kernel
theorem dX12_next_161 : decode cX12_next 161 = .ok (.aload_n 0, 1) := by decide +kernel
theorem dX12_next_162 : decode cX12_next 162 = .ok (.getfield 223, 3) := by decide +kernel
theorem dX12_next_165 : decode cX12_next 165 = .ok (.if_icmp .ge 78, 3) := by decide +kernel
theorem dX12_next_168 : decode cX12_next 168 = .ok (.aload_n 0, 1) := by decide +kernel
theorem dX12_next_169 : decode cX12_next 169 = .ok (.getfield 111, 3) := by decide +kernel
theorem dX12_next_172 : decode cX12_next 172 = .ok (.aload_n 0, 1) := by decide +kernel
theorem dX12_next_173 : decode cX12_next 173 = .ok (.getfield 229, 3) := by decide +kernel
theorem dX12_next_176 : decode cX12_next 176 = .ok (.iaload, 1) := by decide +kernel
theorem dX12_next_177 : decode cX12_next 177 = .ok (.invokestatic 239, 3) := by decide +kernel
theorem dX12_next_180 : decode cX12_next 180 = .ok (.ifCond .eq 63, 3) := by decide +kernel
theorem dX12_next_183 : decode cX12_next 183 = .ok (.aload_n 0, 1) := by decide +kernel
theorem dX12_next_184 : decode cX12_next 184 = .ok (.aload_n 0, 1) := by decide +kernel
theorem dX12_next_185 : decode cX12_next 185 = .ok (.getfield 229, 3) := by decide +kernel
theorem dX12_next_188 : decode cX12_next 188 = .ok (.aload_n 0, 1) := by decide +kernel
theorem dX12_next_189 : decode cX12_next 189 = .ok (.getfield 232, 3) := by decide +kernel
theorem dX12_next_192 : decode cX12_next 192 = .ok (.isub, 1) := by decide +kernel
theorem dX12_next_193 : decode cX12_next 193 = .ok (.bipush 7, 2) := by decide +kernel
theorem dX12_next_195 : decode cX12_next 195 = .ok (.if_icmp .ge 29, 3) := by decide +kernel
theorem dX12_next_198 : decode cX12_next 198 = .ok (.aload_n 0, 1) := by decide +kernel
theorem dX12_next_199 : decode cX12_next 199 = .ok (.getfield 235, 3) := by decide +kernel
theorem dX12_next_202 : decode cX12_next 202 = .ok (.ldc2_w 248, 3) := by decide +kernel
theorem dX12_next_205 : decode cX12_next 205 = .ok (.lmul, 1) := by decide +kernel
theorem dX12_next_206 : decode cX12_next 206 = .ok (.aload_n 0, 1) := by decide +kernel
theorem dX12_next_207 : decode cX12_next 207 = .ok (.getfield 111, 3) := by decide +kernel
theorem dX12_next_210 : decode cX12_next 210 = .ok (.aload_n 0, 1) := by decide +kernel
theorem dX12_next_211 : decode cX12_next 211 = .ok (.getfield 229, 3) := by decide +kernel
theorem dX12_next_214 : decode cX12_next 214 = .ok (.iaload, 1) := by decide +kernel
theorem dX12_next_215 : decode cX12_next 215 = .ok (.i2l, 1) := by decide +kernel
theorem dX12_next_216 : decode cX12_next 216 = .ok (.ladd, 1) := by decide +kernel
theorem dX12_next_217 : decode cX12_next 217 = .ok (.ldc2_w 250, 3) := by decide +kernel
theorem dX12_next_220 : decode cX12_next 220 = .ok (.lsub, 1) := by decide +kernel
theorem dX12_next_221 : decode cX12_next 221 = .ok (.goto 6, 3) := by decide +kernel
theorem dX12_next_224 : decode cX12_next 224 = .ok (.ldc2_w 218, 3) := by decide +kernel
theorem dX12_next_227 : decode cX12_next 227 = .ok (.putfield 235, 3) := by decide +kernel
theorem dX12_next_230 : decode cX12_next 230 = .ok (.aload_n 0, 1) := by decide +kernel
theorem dX12_next_231 : decode cX12_next 231 = .ok (.dup, 1) := by decide +kernel
theorem dX12_next_232 : decode cX12_next 232 = .ok (.getfield 229, 3) := by decide +kernel
theorem dX12_next_235 : decode cX12_next 235 = .ok (.iconst 1, 1) := by decide +kernel
theorem dX12_next_236 : decode cX12_next 236 = .ok (.iadd, 1) := by decide +kernel
theorem dX12_next_237 : decode cX12_next 237 = .ok (.putfield 229, 3) := by decide +kernel
theorem dX12_next_240 : decode cX12_next 240 = .ok (.goto (-91), 3) := by decide +kernel
theorem dX12_next_243 : decode cX12_next 243 = .ok (.aload_n 0, 1) := by decide +kernel
theorem dX12_next_244 : decode cX12_next 244 = .ok (.getfield 245, 3) := by decide +kernel
theorem dX12_next_247 : decode cX12_next 247 = .ok (.iconst 2, 1) := by decide +kernel
theorem dX12_next_248 : decode cX12_next 248 = .ok (.if_icmp .ne 87, 3) := by decide +kernel
theorem dX12_next_251 : decode cX12_next 251 = .ok (.aload_n 0, 1) := by decide +kernel
theorem dX12_next_252 : decode cX12_next 252 = .ok (.getfield 229, 3) := by decide +kernel
theorem dX12_next_255 : decode cX12_next 255 = .ok (.aload_n 0, 1) := by decide +kernel
theorem dX12_next_256 : decode cX12_next 256 = .ok (.getfield 223, 3) := by decide +kernel
theorem dX12_next_259 : decode cX12_next 259 = .ok (.if_icmp .ge 76, 3) := by decide +kernel
theorem dX12_next_262 : decode cX12_next 262 = .ok (.aload_n 0, 1) := by decide +kernel
theorem dX12_next_263 : decode cX12_next 263 = .ok (.getfield 111, 3) := by decide +kernel
theorem dX12_next_266 : decode cX12_next 266 = .ok (.aload_n 0, 1) := by decide +kernel
theorem dX12_next_267 : decode cX12_next 267 = .ok (.getfield 229, 3) := by decide +kernel
theorem dX12_next_270 : decode cX12_next 270 = .ok (.iaload, 1) := by decide +kernel
theorem dX12_next_271 : decode cX12_next 271 = .ok (.invokestatic 242, 3) := by decide +kernel
theorem dX12_next_274 : decode cX12_next 274 = .ok (.ifCond .eq 61, 3) := by decide +kernel
theorem dX12_next_277 : decode cX12_next 277 = .ok (.aload_n 0, 1) := by decide +kernel
theorem dX12_next_278 : decode cX12_next 278 = .ok (.aload_n 0, 1) := by decide +kernel
theorem dX12_next_279 : decode cX12_next 279 = .ok (.getfield 235, 3) := by decide +kernel
theorem dX12_next_282 : decode cX12_next 282 = .ok (.ldc2_w 136, 3) := by decide +kernel
theorem dX12_next_285 : decode cX12_next 285 = .ok (.lcmp, 1) := by decide +kernel
theorem dX12_next_286 : decode cX12_next 286 = .ok (.ifCond .le 10, 3) := by decide +kernel
theorem dX12_next_289 : decode cX12_next 289 = .ok (.aload_n 0, 1) := by decide +kernel
theorem dX12_next_290 : decode cX12_next 290 = .ok (.getfield 235, 3) := by decide +kernel
theorem dX12_next_293 : decode cX12_next 293 = .ok (.goto 26, 3) := by decide +kernel
theorem dX12_next_296 : decode cX12_next 296 = .ok (.aload_n 0, 1) := by decide +kernel
theorem dX12_next_297 : decode cX12_next 297 = .ok (.getfield 235, 3) := by decide +kernel
theorem dX12_next_300 : decode cX12_next 300 = .ok (.ldc2_w 252, 3) := by decide +kernel
theorem dX12_next_303 : decode cX12_next 303 = .ok (.lmul, 1) := by decide +kernel
theorem dX12_next_304 : decode cX12_next 304 = .ok (.aload_n 0, 1) := by decide +kernel
theorem dX12_next_305 : decode cX12_next 305 = .ok (.getfield 111, 3) := by decide +kernel
theorem dX12_next_308 : decode cX12_next 308 = .ok (.aload_n 0, 1) := by decide +kernel
theorem dX12_next_309 : decode cX12_next 309 = .ok (.getfield 229, 3) := by decide +kernel
theorem dX12_next_312 : decode cX12_next 312 = .ok (.iaload, 1) := by decide +kernel
theorem dX12_next_313 : decode cX12_next 313 = .ok (.i2l, 1) := by decide +kernel
theorem dX12_next_314 : decode cX12_next 314 = .ok (.ladd, 1) := by decide +kernel
theorem dX12_next_315 : decode cX12_next 315 = .ok (.ldc2_w 254, 3) := by decide +kernel
theorem dX12_next_318 : decode cX12_next 318 = .ok (.lsub, 1) := by decide +kernel
theorem dX12_next_319 : decode cX12_next 319 = .ok (.putfield 235, 3) := by decide +kernel
theorem dX12_next_322 : decode cX12_next 322 = .ok (.aload_n 0, 1) := by decide +kernel
theorem dX12_next_323 : decode cX12_next 323 = .ok (.dup, 1) := by decide +kernel
theorem dX12_next_324 : decode cX12_next 324 = .ok (.getfield 229, 3) := by decide +kernel
theorem dX12_next_327 : decode cX12_next 327 = .ok (.iconst 1, 1) := by decide +kernel
theorem dX12_next_328 : decode cX12_next 328 = .ok (.iadd, 1) := by decide +kernel
theorem dX12_next_329 : decode cX12_next 329 = .ok (.putfield 229, 3) := by decide +kernel
theorem dX12_next_332 : decode cX12_next 332 = .ok (.goto (-89), 3) := by decide +kernel
theorem dX12_next_335 : decode cX12_next 335 = .ok (.return_, 1) := by decide +kernel
theorem dX12_isWord_0 : decode cX12_isWord 0 = .ok (.iload_n 1, 1) := by decide +kernel
theorem dX12_isWord_1 : decode cX12_isWord 1 = .ok (.i2l, 1) := by decide +kernel
theorem dX12_isWord_2 : decode cX12_isWord 2 = .ok (.ldc2_w 250, 3) := by decide +kernel
theorem dX12_isWord_5 : decode cX12_isWord 5 = .ok (.lsub, 1) := by decide +kernel
theorem dX12_isWord_6 : decode cX12_isWord 6 = .ok (.ldc2_w 248, 3) := by decide +kernel
theorem dX12_isWord_9 : decode cX12_isWord 9 = .ok (.lmul, 1) := by decide +kernel
theorem dX12_isWord_10 : decode cX12_isWord 10 = .ok (.iload_n 2, 1) := by decide +kernel
theorem dX12_isWord_11 : decode cX12_isWord 11 = .ok (.i2l, 1) := by decide +kernel
theorem dX12_isWord_12 : decode cX12_isWord 12 = .ok (.ladd, 1) := by decide +kernel
theorem dX12_isWord_13 : decode cX12_isWord 13 = .ok (.ldc2_w 250, 3) := by decide +kernel
theorem dX12_isWord_16 : decode cX12_isWord 16 = .ok (.lsub, 1) := by decide +kernel
theorem dX12_isWord_17 : decode cX12_isWord 17 = .ok (.lstore 7, 2) := by decide +kernel
theorem dX12_isWord_19 : decode cX12_isWord 19 = .ok (.iload_n 3, 1) := by decide +kernel
theorem dX12_isWord_20 : decode cX12_isWord 20 = .ok (.ifCond .ne 8, 3) := by decide +kernel
theorem dX12_isWord_23 : decode cX12_isWord 23 = .ok (.lload 7, 2) := by decide +kernel
theorem dX12_isWord_25 : decode cX12_isWord 25 = .ok (.goto 16, 3) := by decide +kernel
theorem dX12_isWord_28 : decode cX12_isWord 28 = .ok (.lload 7, 2) := by decide +kernel
theorem dX12_isWord_30 : decode cX12_isWord 30 = .ok (.ldc2_w 248, 3) := by decide +kernel
theorem dX12_isWord_33 : decode cX12_isWord 33 = .ok (.lmul, 1) := by decide +kernel
theorem dX12_isWord_34 : decode cX12_isWord 34 = .ok (.iload_n 3, 1) := by decide +kernel
theorem dX12_isWord_35 : decode cX12_isWord 35 = .ok (.i2l, 1) := by decide +kernel
theorem dX12_isWord_36 : decode cX12_isWord 36 = .ok (.ladd, 1) := by decide +kernel
theorem dX12_isWord_37 : decode cX12_isWord 37 = .ok (.ldc2_w 250, 3) := by decide +kernel
theorem dX12_isWord_40 : decode cX12_isWord 40 = .ok (.lsub, 1) := by decide +kernel
theorem dX12_isWord_41 : decode cX12_isWord 41 = .ok (.lstore 7, 2) := by decide +kernel
theorem dX12_isWord_43 : decode cX12_isWord 43 = .ok (.iload 4, 2) := by decide +kernel
theorem dX12_isWord_45 : decode cX12_isWord 45 = .ok (.ifCond .ne 8, 3) := by decide +kernel
theorem dX12_isWord_48 : decode cX12_isWord 48 = .ok (.lload 7, 2) := by decide +kernel
theorem dX12_isWord_50 : decode cX12_isWord 50 = .ok (.goto 17, 3) := by decide +kernel
theorem dX12_isWord_53 : decode cX12_isWord 53 = .ok (.lload 7, 2) := by decide +kernel
theorem dX12_isWord_55 : decode cX12_isWord 55 = .ok (.ldc2_w 248, 3) := by decide +kernel
theorem dX12_isWord_58 : decode cX12_isWord 58 = .ok (.lmul, 1) := by decide +kernel
theorem dX12_isWord_59 : decode cX12_isWord 59 = .ok (.iload 4, 2) := by decide +kernel
theorem dX12_isWord_61 : decode cX12_isWord 61 = .ok (.i2l, 1) := by decide +kernel
theorem dX12_isWord_62 : decode cX12_isWord 62 = .ok (.ladd, 1) := by decide +kernel
theorem dX12_isWord_63 : decode cX12_isWord 63 = .ok (.ldc2_w 250, 3) := by decide +kernel
theorem dX12_isWord_66 : decode cX12_isWord 66 = .ok (.lsub, 1) := by decide +kernel
theorem dX12_isWord_67 : decode cX12_isWord 67 = .ok (.lstore 7, 2) := by decide +kernel
theorem dX12_isWord_69 : decode cX12_isWord 69 = .ok (.iload 5, 2) := by decide +kernel
theorem dX12_isWord_71 : decode cX12_isWord 71 = .ok (.ifCond .ne 8, 3) := by decide +kernel
theorem dX12_isWord_74 : decode cX12_isWord 74 = .ok (.lload 7, 2) := by decide +kernel
theorem dX12_isWord_76 : decode cX12_isWord 76 = .ok (.goto 17, 3) := by decide +kernel
theorem dX12_isWord_79 : decode cX12_isWord 79 = .ok (.lload 7, 2) := by decide +kernel
theorem dX12_isWord_81 : decode cX12_isWord 81 = .ok (.ldc2_w 248, 3) := by decide +kernel
theorem dX12_isWord_84 : decode cX12_isWord 84 = .ok (.lmul, 1) := by decide +kernel
theorem dX12_isWord_85 : decode cX12_isWord 85 = .ok (.iload 5, 2) := by decide +kernel
theorem dX12_isWord_87 : decode cX12_isWord 87 = .ok (.i2l, 1) := by decide +kernel
theorem dX12_isWord_88 : decode cX12_isWord 88 = .ok (.ladd, 1) := by decide +kernel
theorem dX12_isWord_89 : decode cX12_isWord 89 = .ok (.ldc2_w 250, 3) := by decide +kernel
theorem dX12_isWord_92 : decode cX12_isWord 92 = .ok (.lsub, 1) := by decide +kernel
theorem dX12_isWord_93 : decode cX12_isWord 93 = .ok (.lstore 7, 2) := by decide +kernel
theorem dX12_isWord_95 : decode cX12_isWord 95 = .ok (.iload 6, 2) := by decide +kernel
theorem dX12_isWord_97 : decode cX12_isWord 97 = .ok (.ifCond .ne 8, 3) := by decide +kernel
theorem dX12_isWord_100 : decode cX12_isWord 100 = .ok (.lload 7, 2) := by decide +kernel
theorem dX12_isWord_102 : decode cX12_isWord 102 = .ok (.goto 17, 3) := by decide +kernel
theorem dX12_isWord_105 : decode cX12_isWord 105 = .ok (.lload 7, 2) := by decide +kernel
theorem dX12_isWord_107 : decode cX12_isWord 107 = .ok (.ldc2_w 248, 3) := by decide +kernel
theorem dX12_isWord_110 : decode cX12_isWord 110 = .ok (.lmul, 1) := by decide +kernel
theorem dX12_isWord_111 : decode cX12_isWord 111 = .ok (.iload 6, 2) := by decide +kernel
theorem dX12_isWord_113 : decode cX12_isWord 113 = .ok (.i2l, 1) := by decide +kernel
theorem dX12_isWord_114 : decode cX12_isWord 114 = .ok (.ladd, 1) := by decide +kernel
theorem dX12_isWord_115 : decode cX12_isWord 115 = .ok (.ldc2_w 250, 3) := by decide +kernel
theorem dX12_isWord_118 : decode cX12_isWord 118 = .ok (.lsub, 1) := by decide +kernel
theorem dX12_isWord_119 : decode cX12_isWord 119 = .ok (.lstore 7, 2) := by decide +kernel
theorem dX12_isWord_121 : decode cX12_isWord 121 = .ok (.aload_n 0, 1) := by decide +kernel
theorem dX12_isWord_122 : decode cX12_isWord 122 = .ok (.getfield 245, 3) := by decide +kernel
theorem dX12_isWord_125 : decode cX12_isWord 125 = .ok (.iconst 1, 1) := by decide +kernel
theorem dX12_isWord_126 : decode cX12_isWord 126 = .ok (.if_icmp .ne 17, 3) := by decide +kernel
theorem dX12_isWord_129 : decode cX12_isWord 129 = .ok (.aload_n 0, 1) := by decide +kernel
theorem dX12_isWord_130 : decode cX12_isWord 130 = .ok (.getfield 235, 3) := by decide +kernel
theorem dX12_isWord_133 : decode cX12_isWord 133 = .ok (.lload 7, 2) := by decide +kernel
theorem dX12_isWord_135 : decode cX12_isWord 135 = .ok (.lcmp, 1) := by decide +kernel
theorem dX12_isWord_136 : decode cX12_isWord 136 = .ok (.ifCond .ne 7, 3) := by decide +kernel
theorem dX12_isWord_139 : decode cX12_isWord 139 = .ok (.iconst 1, 1) := by decide +kernel
theorem dX12_isWord_140 : decode cX12_isWord 140 = .ok (.goto 4, 3) := by decide +kernel
theorem dX12_isWord_143 : decode cX12_isWord 143 = .ok (.iconst 0, 1) := by decide +kernel
theorem dX12_isWord_144 : decode cX12_isWord 144 = .ok (.ireturn, 1) := by decide +kernel
theorem dX12_isSign_0 : decode cX12_isSign 0 = .ok (.aload_n 0, 1) := by decide +kernel
theorem dX12_isSign_1 : decode cX12_isSign 1 = .ok (.getfield 245, 3) := by decide +kernel
theorem dX12_isSign_4 : decode cX12_isSign 4 = .ok (.iconst 3, 1) := by decide +kernel
theorem dX12_isSign_5 : decode cX12_isSign 5 = .ok (.if_icmp .ne 17, 3) := by decide +kernel
theorem dX12_isSign_8 : decode cX12_isSign 8 = .ok (.aload_n 0, 1) := by decide +kernel
theorem dX12_isSign_9 : decode cX12_isSign 9 = .ok (.getfield 235, 3) := by decide +kernel
theorem dX12_isSign_12 : decode cX12_isSign 12 = .ok (.iload_n 1, 1) := by decide +kernel
theorem dX12_isSign_13 : decode cX12_isSign 13 = .ok (.i2l, 1) := by decide +kernel
theorem dX12_isSign_14 : decode cX12_isSign 14 = .ok (.lcmp, 1) := by decide +kernel
theorem dX12_isSign_15 : decode cX12_isSign 15 = .ok (.ifCond .ne 7, 3) := by decide +kernel
theorem dX12_isSign_18 : decode cX12_isSign 18 = .ok (.iconst 1, 1) := by decide +kernel
theorem dX12_isSign_19 : decode cX12_isSign 19 = .ok (.goto 4, 3) := by decide +kernel
theorem dX12_isSign_22 : decode cX12_isSign 22 = .ok (.iconst 0, 1) := by decide +kernel
theorem dX12_isSign_23 : decode cX12_isSign 23 = .ok (.ireturn, 1) := by decide +kernel
theorem dX12_must_0 : decode cX12_must 0 = .ok (.aload_n 0, 1) := by decide +kernel
theorem dX12_must_1 : decode cX12_must 1 = .ok (.getfield 256, 3) := by decide +kernel
theorem dX12_must_4 : decode cX12_must 4 = .ok (.ifCond .ne 20, 3) := by decide +kernel
theorem dX12_must_7 : decode cX12_must 7 = .ok (.iload_n 1, 1) := by decide +kernel
theorem dX12_must_8 : decode cX12_must 8 = .ok (.ifCond .ne 16, 3) := by decide +kernel
theorem dX12_must_11 : decode cX12_must 11 = .ok (.aload_n 0, 1) := by decide +kernel
theorem dX12_must_12 : decode cX12_must 12 = .ok (.iconst 1, 1) := by decide +kernel
theorem dX12_must_13 : decode cX12_must 13 = .ok (.putfield 256, 3) := by decide +kernel
theorem dX12_must_16 : decode cX12_must 16 = .ok (.aload_n 0, 1) := by decide +kernel
theorem dX12_must_17 : decode cX12_must 17 = .ok (.aload_n 0, 1) := by decide +kernel
theorem dX12_must_18 : decode cX12_must 18 = .ok (.getfield 232, 3) := by decide +kernel
theorem dX12_must_21 : decode cX12_must 21 = .ok (.putfield 114, 3) := by decide +kernel
theorem dX12_must_24 : decode cX12_must 24 = .ok (.aload_n 0, 1) := by decide +kernel
theorem dX12_must_25 : decode cX12_must 25 = .ok (.getfield 256, 3) := by decide +kernel
theorem dX12_must_28 : decode cX12_must 28 = .ok (.ifCond .ne 7, 3) := by decide +kernel
theorem dX12_must_31 : decode cX12_must 31 = .ok (.aload_n 0, 1) := by decide +kernel
theorem dX12_must_32 : decode cX12_must 32 = .ok (.invokevirtual 259, 3) := by decide +kernel
theorem dX12_must_35 : decode cX12_must 35 = .ok (.return_, 1) := by decide +kernel
theorem dX12_number_0 : decode cX12_number 0 = .ok (.aload_n 0, 1) := by decide +kernel
theorem dX12_number_1 : decode cX12_number 1 = .ok (.getfield 235, 3) := by decide +kernel
theorem dX12_number_4 : decode cX12_number 4 = .ok (.l2i, 1) := by decide +kernel
theorem dX12_number_5 : decode cX12_number 5 = .ok (.istore 5, 2) := by decide +kernel
theorem dX12_number_7 : decode cX12_number 7 = .ok (.aload_n 0, 1) := by decide +kernel
theorem dX12_number_8 : decode cX12_number 8 = .ok (.aload_n 0, 1) := by decide +kernel
theorem dX12_number_9 : decode cX12_number 9 = .ok (.getfield 245, 3) := by decide +kernel
theorem dX12_number_12 : decode cX12_number 12 = .ok (.iconst 2, 1) := by decide +kernel
theorem dX12_number_13 : decode cX12_number 13 = .ok (.if_icmp .ne 19, 3) := by decide +kernel
theorem dX12_number_16 : decode cX12_number 16 = .ok (.aload_n 0, 1) := by decide +kernel
theorem dX12_number_17 : decode cX12_number 17 = .ok (.getfield 235, 3) := by decide +kernel
theorem dX12_number_20 : decode cX12_number 20 = .ok (.lload_n 1, 1) := by decide +kernel
theorem dX12_number_21 : decode cX12_number 21 = .ok (.lload_n 3, 1) := by decide +kernel
theorem dX12_number_22 : decode cX12_number 22 = .ok (.invokestatic 128, 3) := by decide +kernel
theorem dX12_number_25 : decode cX12_number 25 = .ok (.ifCond .eq 7, 3) := by decide +kernel
theorem dX12_number_28 : decode cX12_number 28 = .ok (.iconst 1, 1) := by decide +kernel
theorem dX12_number_29 : decode cX12_number 29 = .ok (.goto 4, 3) := by decide +kernel
theorem dX12_number_32 : decode cX12_number 32 = .ok (.iconst 0, 1) := by decide +kernel
theorem dX12_number_33 : decode cX12_number 33 = .ok (.invokevirtual 262, 3) := by decide +kernel
theorem dX12_number_36 : decode cX12_number 36 = .ok (.iload 5, 2) := by decide +kernel
theorem dX12_number_38 : decode cX12_number 38 = .ok (.ireturn, 1) := by decide +kernel
theorem dX12_signed_0 : decode cX12_signed 0 = .ok (.aload_n 0, 1) := by decide +kernel
theorem dX12_signed_1 : decode cX12_signed 1 = .ok (.getfield 256, 3) := by decide +kernel
theorem dX12_signed_4 : decode cX12_signed 4 = .ok (.ifCond .ne 16, 3) := by decide +kernel
theorem dX12_signed_7 : decode cX12_signed 7 = .ok (.aload_n 0, 1) := by decide +kernel
theorem dX12_signed_8 : decode cX12_signed 8 = .ok (.bipush 45, 2) := by decide +kernel
theorem dX12_signed_10 : decode cX12_signed 10 = .ok (.invokevirtual 266, 3) := by decide +kernel
theorem dX12_signed_13 : decode cX12_signed 13 = .ok (.ifCond .eq 7, 3) := by decide +kernel
theorem dX12_signed_16 : decode cX12_signed 16 = .ok (.iconst 1, 1) := by decide +kernel
theorem dX12_signed_17 : decode cX12_signed 17 = .ok (.goto 4, 3) := by decide +kernel
theorem dX12_signed_20 : decode cX12_signed 20 = .ok (.iconst 0, 1) := by decide +kernel
theorem dX12_signed_21 : decode cX12_signed 21 = .ok (.istore_n 1, 1) := by decide +kernel
theorem dX12_signed_22 : decode cX12_signed 22 = .ok (.iload_n 1, 1) := by decide +kernel
theorem dX12_signed_23 : decode cX12_signed 23 = .ok (.ifCond .eq 7, 3) := by decide +kernel
theorem dX12_signed_26 : decode cX12_signed 26 = .ok (.aload_n 0, 1) := by decide +kernel
theorem dX12_signed_27 : decode cX12_signed 27 = .ok (.invokevirtual 259, 3) := by decide +kernel
theorem dX12_signed_30 : decode cX12_signed 30 = .ok (.aload_n 0, 1) := by decide +kernel
theorem dX12_signed_31 : decode cX12_signed 31 = .ok (.lconst 0, 1) := by decide +kernel
theorem dX12_signed_32 : decode cX12_signed 32 = .ok (.ldc2_w 136, 3) := by decide +kernel
theorem dX12_signed_35 : decode cX12_signed 35 = .ok (.invokevirtual 269, 3) := by decide +kernel
theorem dX12_signed_38 : decode cX12_signed 38 = .ok (.istore_n 2, 1) := by decide +kernel
theorem dX12_signed_39 : decode cX12_signed 39 = .ok (.iload_n 1, 1) := by decide +kernel
theorem dX12_signed_40 : decode cX12_signed 40 = .ok (.ifCond .eq 8, 3) := by decide +kernel
theorem dX12_signed_43 : decode cX12_signed 43 = .ok (.iload_n 2, 1) := by decide +kernel
theorem dX12_signed_44 : decode cX12_signed 44 = .ok (.ineg, 1) := by decide +kernel
theorem dX12_signed_45 : decode cX12_signed 45 = .ok (.goto 4, 3) := by decide +kernel
theorem dX12_signed_48 : decode cX12_signed 48 = .ok (.iload_n 2, 1) := by decide +kernel
theorem dX12_signed_49 : decode cX12_signed 49 = .ok (.ireturn, 1) := by decide +kernel
theorem dX12_isName_0 : decode cX12_isName 0 = .ok (.aload_n 0, 1) := by decide +kernel
theorem dX12_isName_1 : decode cX12_isName 1 = .ok (.getfield 245, 3) := by decide +kernel
theorem dX12_isName_4 : decode cX12_isName 4 = .ok (.iconst 1, 1) := by decide +kernel
theorem dX12_isName_5 : decode cX12_isName 5 = .ok (.if_icmp .ne 20, 3) := by decide +kernel
theorem dX12_isName_8 : decode cX12_isName 8 = .ok (.aload_n 0, 1) := by decide +kernel
theorem dX12_isName_9 : decode cX12_isName 9 = .ok (.getfield 229, 3) := by decide +kernel
theorem dX12_isName_12 : decode cX12_isName 12 = .ok (.aload_n 0, 1) := by decide +kernel
theorem dX12_isName_13 : decode cX12_isName 13 = .ok (.getfield 232, 3) := by decide +kernel
theorem dX12_isName_16 : decode cX12_isName 16 = .ok (.isub, 1) := by decide +kernel
theorem dX12_isName_17 : decode cX12_isName 17 = .ok (.iconst 1, 1) := by decide +kernel
theorem dX12_isName_18 : decode cX12_isName 18 = .ok (.if_icmp .ne 7, 3) := by decide +kernel
theorem dX12_isName_21 : decode cX12_isName 21 = .ok (.iconst 1, 1) := by decide +kernel
theorem dX12_isName_22 : decode cX12_isName 22 = .ok (.goto 4, 3) := by decide +kernel
theorem dX12_isName_25 : decode cX12_isName 25 = .ok (.iconst 0, 1) := by decide +kernel
theorem dX12_isName_26 : decode cX12_isName 26 = .ok (.ireturn, 1) := by decide +kernel
theorem dX12_name_0 : decode cX12_name 0 = .ok (.aload_n 0, 1) := by decide +kernel
theorem dX12_name_1 : decode cX12_name 1 = .ok (.invokevirtual 273, 3) := by decide +kernel
theorem dX12_name_4 : decode cX12_name 4 = .ok (.ifCond .eq 23, 3) := by decide +kernel
theorem dX12_name_7 : decode cX12_name 7 = .ok (.aload_n 0, 1) := by decide +kernel
theorem dX12_name_8 : decode cX12_name 8 = .ok (.getfield 108, 3) := by decide +kernel
theorem dX12_name_11 : decode cX12_name 11 = .ok (.aload_n 0, 1) := by decide +kernel
theorem dX12_name_12 : decode cX12_name 12 = .ok (.getfield 111, 3) := by decide +kernel
theorem dX12_name_15 : decode cX12_name 15 = .ok (.aload_n 0, 1) := by decide +kernel
theorem dX12_name_16 : decode cX12_name 16 = .ok (.getfield 232, 3) := by decide +kernel
theorem dX12_name_19 : decode cX12_name 19 = .ok (.iaload, 1) := by decide +kernel
theorem dX12_name_20 : decode cX12_name 20 = .ok (.bipush 97, 2) := by decide +kernel
theorem dX12_name_22 : decode cX12_name 22 = .ok (.isub, 1) := by decide +kernel
theorem dX12_name_23 : decode cX12_name 23 = .ok (.iaload, 1) := by decide +kernel
theorem dX12_name_24 : decode cX12_name 24 = .ok (.goto 4, 3) := by decide +kernel
theorem dX12_name_27 : decode cX12_name 27 = .ok (.iconst (-1), 1) := by decide +kernel
theorem dX12_name_28 : decode cX12_name 28 = .ok (.istore_n 1, 1) := by decide +kernel
theorem dX12_name_29 : decode cX12_name 29 = .ok (.aload_n 0, 1) := by decide +kernel
theorem dX12_name_30 : decode cX12_name 30 = .ok (.iload_n 1, 1) := by decide +kernel
theorem dX12_name_31 : decode cX12_name 31 = .ok (.iconst (-1), 1) := by decide +kernel
theorem dX12_name_32 : decode cX12_name 32 = .ok (.if_icmp .eq 7, 3) := by decide +kernel
theorem dX12_name_35 : decode cX12_name 35 = .ok (.iconst 1, 1) := by decide +kernel
theorem dX12_name_36 : decode cX12_name 36 = .ok (.goto 4, 3) := by decide +kernel
theorem dX12_name_39 : decode cX12_name 39 = .ok (.iconst 0, 1) := by decide +kernel
theorem dX12_name_40 : decode cX12_name 40 = .ok (.invokevirtual 262, 3) := by decide +kernel
theorem dX12_name_43 : decode cX12_name 43 = .ok (.iload_n 1, 1) := by decide +kernel
theorem dX12_name_44 : decode cX12_name 44 = .ok (.ireturn, 1) := by decide +kernel
theorem dX12_kindAt_0 : decode cX12_kindAt 0 = .ok (.aload_n 0, 1) := by decide +kernel
theorem dX12_kindAt_1 : decode cX12_kindAt 1 = .ok (.bipush 115, 2) := by decide +kernel
theorem dX12_kindAt_3 : decode cX12_kindAt 3 = .ok (.bipush 111, 2) := by decide +kernel
theorem dX12_kindAt_5 : decode cX12_kindAt 5 = .ok (.bipush 117, 2) := by decide +kernel
theorem dX12_kindAt_7 : decode cX12_kindAt 7 = .ok (.bipush 114, 2) := by decide +kernel
theorem dX12_kindAt_9 : decode cX12_kindAt 9 = .ok (.bipush 99, 2) := by decide +kernel
theorem dX12_kindAt_11 : decode cX12_kindAt 11 = .ok (.bipush 101, 2) := by decide +kernel
theorem dX12_kindAt_13 : decode cX12_kindAt 13 = .ok (.invokevirtual 276, 3) := by decide +kernel
theorem dX12_kindAt_16 : decode cX12_kindAt 16 = .ok (.ifCond .ne 38, 3) := by decide +kernel
theorem dX12_kindAt_19 : decode cX12_kindAt 19 = .ok (.aload_n 0, 1) := by decide +kernel
theorem dX12_kindAt_20 : decode cX12_kindAt 20 = .ok (.bipush 119, 2) := by decide +kernel
theorem dX12_kindAt_22 : decode cX12_kindAt 22 = .ok (.bipush 104, 2) := by decide +kernel
theorem dX12_kindAt_24 : decode cX12_kindAt 24 = .ok (.bipush 101, 2) := by decide +kernel
theorem dX12_kindAt_26 : decode cX12_kindAt 26 = .ok (.bipush 114, 2) := by decide +kernel
theorem dX12_kindAt_28 : decode cX12_kindAt 28 = .ok (.bipush 101, 2) := by decide +kernel
theorem dX12_kindAt_30 : decode cX12_kindAt 30 = .ok (.iconst 0, 1) := by decide +kernel
theorem dX12_kindAt_31 : decode cX12_kindAt 31 = .ok (.invokevirtual 276, 3) := by decide +kernel
theorem dX12_kindAt_34 : decode cX12_kindAt 34 = .ok (.ifCond .ne 20, 3) := by decide +kernel
theorem dX12_kindAt_37 : decode cX12_kindAt 37 = .ok (.aload_n 0, 1) := by decide +kernel
theorem dX12_kindAt_38 : decode cX12_kindAt 38 = .ok (.bipush 112, 2) := by decide +kernel
theorem dX12_kindAt_40 : decode cX12_kindAt 40 = .ok (.bipush 108, 2) := by decide +kernel
theorem dX12_kindAt_42 : decode cX12_kindAt 42 = .ok (.bipush 117, 2) := by decide +kernel
theorem dX12_kindAt_44 : decode cX12_kindAt 44 = .ok (.bipush 115, 2) := by decide +kernel
theorem dX12_kindAt_46 : decode cX12_kindAt 46 = .ok (.iconst 0, 1) := by decide +kernel
theorem dX12_kindAt_47 : decode cX12_kindAt 47 = .ok (.iconst 0, 1) := by decide +kernel
theorem dX12_kindAt_48 : decode cX12_kindAt 48 = .ok (.invokevirtual 276, 3) := by decide +kernel
theorem dX12_kindAt_51 : decode cX12_kindAt 51 = .ok (.ifCond .eq 50, 3) := by decide +kernel
theorem dX12_kindAt_54 : decode cX12_kindAt 54 = .ok (.aload_n 0, 1) := by decide +kernel
theorem dX12_kindAt_55 : decode cX12_kindAt 55 = .ok (.bipush 115, 2) := by decide +kernel
theorem dX12_kindAt_57 : decode cX12_kindAt 57 = .ok (.bipush 111, 2) := by decide +kernel
theorem dX12_kindAt_59 : decode cX12_kindAt 59 = .ok (.bipush 117, 2) := by decide +kernel
theorem dX12_kindAt_61 : decode cX12_kindAt 61 = .ok (.bipush 114, 2) := by decide +kernel
theorem dX12_kindAt_63 : decode cX12_kindAt 63 = .ok (.bipush 99, 2) := by decide +kernel
theorem dX12_kindAt_65 : decode cX12_kindAt 65 = .ok (.bipush 101, 2) := by decide +kernel
theorem dX12_kindAt_67 : decode cX12_kindAt 67 = .ok (.invokevirtual 276, 3) := by decide +kernel
theorem dX12_kindAt_70 : decode cX12_kindAt 70 = .ok (.ifCond .eq 7, 3) := by decide +kernel
theorem dX12_kindAt_73 : decode cX12_kindAt 73 = .ok (.iconst 0, 1) := by decide +kernel
theorem dX12_kindAt_74 : decode cX12_kindAt 74 = .ok (.goto 26, 3) := by decide +kernel
theorem dX12_kindAt_77 : decode cX12_kindAt 77 = .ok (.aload_n 0, 1) := by decide +kernel
theorem dX12_kindAt_78 : decode cX12_kindAt 78 = .ok (.bipush 119, 2) := by decide +kernel
theorem dX12_kindAt_80 : decode cX12_kindAt 80 = .ok (.bipush 104, 2) := by decide +kernel
theorem dX12_kindAt_82 : decode cX12_kindAt 82 = .ok (.bipush 101, 2) := by decide +kernel
theorem dX12_kindAt_84 : decode cX12_kindAt 84 = .ok (.bipush 114, 2) := by decide +kernel
theorem dX12_kindAt_86 : decode cX12_kindAt 86 = .ok (.bipush 101, 2) := by decide +kernel
theorem dX12_kindAt_88 : decode cX12_kindAt 88 = .ok (.iconst 0, 1) := by decide +kernel
theorem dX12_kindAt_89 : decode cX12_kindAt 89 = .ok (.invokevirtual 276, 3) := by decide +kernel
theorem dX12_kindAt_92 : decode cX12_kindAt 92 = .ok (.ifCond .eq 7, 3) := by decide +kernel
theorem dX12_kindAt_95 : decode cX12_kindAt 95 = .ok (.iconst 1, 1) := by decide +kernel
theorem dX12_kindAt_96 : decode cX12_kindAt 96 = .ok (.goto 4, 3) := by decide +kernel
theorem dX12_kindAt_99 : decode cX12_kindAt 99 = .ok (.iconst 2, 1) := by decide +kernel
theorem dX12_kindAt_100 : decode cX12_kindAt 100 = .ok (.ireturn, 1) := by decide +kernel
theorem dX12_kindAt_101 : decode cX12_kindAt 101 = .ok (.aload_n 0, 1) := by decide +kernel
theorem dX12_kindAt_102 : decode cX12_kindAt 102 = .ok (.bipush 116, 2) := by decide +kernel
theorem dX12_kindAt_104 : decode cX12_kindAt 104 = .ok (.bipush 105, 2) := by decide +kernel
theorem dX12_kindAt_106 : decode cX12_kindAt 106 = .ok (.bipush 109, 2) := by decide +kernel
theorem dX12_kindAt_108 : decode cX12_kindAt 108 = .ok (.bipush 101, 2) := by decide +kernel
theorem dX12_kindAt_110 : decode cX12_kindAt 110 = .ok (.bipush 115, 2) := by decide +kernel
theorem dX12_kindAt_112 : decode cX12_kindAt 112 = .ok (.iconst 0, 1) := by decide +kernel
theorem dX12_kindAt_113 : decode cX12_kindAt 113 = .ok (.invokevirtual 276, 3) := by decide +kernel
theorem dX12_kindAt_116 : decode cX12_kindAt 116 = .ok (.ifCond .ne 40, 3) := by decide +kernel
theorem dX12_kindAt_119 : decode cX12_kindAt 119 = .ok (.aload_n 0, 1) := by decide +kernel
theorem dX12_kindAt_120 : decode cX12_kindAt 120 = .ok (.bipush 114, 2) := by decide +kernel
theorem dX12_kindAt_122 : decode cX12_kindAt 122 = .ok (.bipush 101, 2) := by decide +kernel
theorem dX12_kindAt_124 : decode cX12_kindAt 124 = .ok (.bipush 107, 2) := by decide +kernel
theorem dX12_kindAt_126 : decode cX12_kindAt 126 = .ok (.bipush 101, 2) := by decide +kernel
theorem dX12_kindAt_128 : decode cX12_kindAt 128 = .ok (.bipush 121, 2) := by decide +kernel
theorem dX12_kindAt_130 : decode cX12_kindAt 130 = .ok (.iconst 0, 1) := by decide +kernel
theorem dX12_kindAt_131 : decode cX12_kindAt 131 = .ok (.invokevirtual 276, 3) := by decide +kernel
theorem dX12_kindAt_134 : decode cX12_kindAt 134 = .ok (.ifCond .ne 22, 3) := by decide +kernel
theorem dX12_kindAt_137 : decode cX12_kindAt 137 = .ok (.aload_n 0, 1) := by decide +kernel
theorem dX12_kindAt_138 : decode cX12_kindAt 138 = .ok (.bipush 119, 2) := by decide +kernel
theorem dX12_kindAt_140 : decode cX12_kindAt 140 = .ok (.bipush 105, 2) := by decide +kernel
theorem dX12_kindAt_142 : decode cX12_kindAt 142 = .ok (.bipush 110, 2) := by decide +kernel
theorem dX12_kindAt_144 : decode cX12_kindAt 144 = .ok (.bipush 100, 2) := by decide +kernel
theorem dX12_kindAt_146 : decode cX12_kindAt 146 = .ok (.bipush 111, 2) := by decide +kernel
theorem dX12_kindAt_148 : decode cX12_kindAt 148 = .ok (.bipush 119, 2) := by decide +kernel
theorem dX12_kindAt_150 : decode cX12_kindAt 150 = .ok (.invokevirtual 276, 3) := by decide +kernel
theorem dX12_kindAt_153 : decode cX12_kindAt 153 = .ok (.ifCond .eq 49, 3) := by decide +kernel
theorem dX12_kindAt_156 : decode cX12_kindAt 156 = .ok (.aload_n 0, 1) := by decide +kernel
theorem dX12_kindAt_157 : decode cX12_kindAt 157 = .ok (.bipush 116, 2) := by decide +kernel
theorem dX12_kindAt_159 : decode cX12_kindAt 159 = .ok (.bipush 105, 2) := by decide +kernel
theorem dX12_kindAt_161 : decode cX12_kindAt 161 = .ok (.bipush 109, 2) := by decide +kernel
theorem dX12_kindAt_163 : decode cX12_kindAt 163 = .ok (.bipush 101, 2) := by decide +kernel
theorem dX12_kindAt_165 : decode cX12_kindAt 165 = .ok (.bipush 115, 2) := by decide +kernel
theorem dX12_kindAt_167 : decode cX12_kindAt 167 = .ok (.iconst 0, 1) := by decide +kernel
theorem dX12_kindAt_168 : decode cX12_kindAt 168 = .ok (.invokevirtual 276, 3) := by decide +kernel
theorem dX12_kindAt_171 : decode cX12_kindAt 171 = .ok (.ifCond .eq 7, 3) := by decide +kernel
theorem dX12_kindAt_174 : decode cX12_kindAt 174 = .ok (.iconst 3, 1) := by decide +kernel
theorem dX12_kindAt_175 : decode cX12_kindAt 175 = .ok (.goto 26, 3) := by decide +kernel
theorem dX12_kindAt_178 : decode cX12_kindAt 178 = .ok (.aload_n 0, 1) := by decide +kernel
theorem dX12_kindAt_179 : decode cX12_kindAt 179 = .ok (.bipush 114, 2) := by decide +kernel
theorem dX12_kindAt_181 : decode cX12_kindAt 181 = .ok (.bipush 101, 2) := by decide +kernel
theorem dX12_kindAt_183 : decode cX12_kindAt 183 = .ok (.bipush 107, 2) := by decide +kernel
theorem dX12_kindAt_185 : decode cX12_kindAt 185 = .ok (.bipush 101, 2) := by decide +kernel
theorem dX12_kindAt_187 : decode cX12_kindAt 187 = .ok (.bipush 121, 2) := by decide +kernel
theorem dX12_kindAt_189 : decode cX12_kindAt 189 = .ok (.iconst 0, 1) := by decide +kernel
theorem dX12_kindAt_190 : decode cX12_kindAt 190 = .ok (.invokevirtual 276, 3) := by decide +kernel
theorem dX12_kindAt_193 : decode cX12_kindAt 193 = .ok (.ifCond .eq 7, 3) := by decide +kernel
theorem dX12_kindAt_196 : decode cX12_kindAt 196 = .ok (.iconst 4, 1) := by decide +kernel
theorem dX12_kindAt_197 : decode cX12_kindAt 197 = .ok (.goto 4, 3) := by decide +kernel
theorem dX12_kindAt_200 : decode cX12_kindAt 200 = .ok (.iconst 5, 1) := by decide +kernel
theorem dX12_kindAt_201 : decode cX12_kindAt 201 = .ok (.ireturn, 1) := by decide +kernel
theorem dX12_kindAt_202 : decode cX12_kindAt 202 = .ok (.aload_n 0, 1) := by decide +kernel
theorem dX12_kindAt_203 : decode cX12_kindAt 203 = .ok (.bipush 101, 2) := by decide +kernel
theorem dX12_kindAt_205 : decode cX12_kindAt 205 = .ok (.bipush 118, 2) := by decide +kernel
theorem dX12_kindAt_207 : decode cX12_kindAt 207 = .ok (.bipush 101, 2) := by decide +kernel
theorem dX12_kindAt_209 : decode cX12_kindAt 209 = .ok (.bipush 114, 2) := by decide +kernel
theorem dX12_kindAt_211 : decode cX12_kindAt 211 = .ok (.iconst 0, 1) := by decide +kernel
theorem dX12_kindAt_212 : decode cX12_kindAt 212 = .ok (.iconst 0, 1) := by decide +kernel
theorem dX12_kindAt_213 : decode cX12_kindAt 213 = .ok (.invokevirtual 276, 3) := by decide +kernel
theorem dX12_kindAt_216 : decode cX12_kindAt 216 = .ok (.ifCond .ne 37, 3) := by decide +kernel
theorem dX12_kindAt_219 : decode cX12_kindAt 219 = .ok (.aload_n 0, 1) := by decide +kernel
theorem dX12_kindAt_220 : decode cX12_kindAt 220 = .ok (.bipush 115, 2) := by decide +kernel
theorem dX12_kindAt_222 : decode cX12_kindAt 222 = .ok (.bipush 117, 2) := by decide +kernel
theorem dX12_kindAt_224 : decode cX12_kindAt 224 = .ok (.bipush 109, 2) := by decide +kernel
theorem dX12_kindAt_226 : decode cX12_kindAt 226 = .ok (.iconst 0, 1) := by decide +kernel
theorem dX12_kindAt_227 : decode cX12_kindAt 227 = .ok (.iconst 0, 1) := by decide +kernel
theorem dX12_kindAt_228 : decode cX12_kindAt 228 = .ok (.iconst 0, 1) := by decide +kernel
theorem dX12_kindAt_229 : decode cX12_kindAt 229 = .ok (.invokevirtual 276, 3) := by decide +kernel
theorem dX12_kindAt_232 : decode cX12_kindAt 232 = .ok (.ifCond .ne 21, 3) := by decide +kernel
theorem dX12_kindAt_235 : decode cX12_kindAt 235 = .ok (.aload_n 0, 1) := by decide +kernel
theorem dX12_kindAt_236 : decode cX12_kindAt 236 = .ok (.bipush 99, 2) := by decide +kernel
theorem dX12_kindAt_238 : decode cX12_kindAt 238 = .ok (.bipush 111, 2) := by decide +kernel
theorem dX12_kindAt_240 : decode cX12_kindAt 240 = .ok (.bipush 117, 2) := by decide +kernel
theorem dX12_kindAt_242 : decode cX12_kindAt 242 = .ok (.bipush 110, 2) := by decide +kernel
theorem dX12_kindAt_244 : decode cX12_kindAt 244 = .ok (.bipush 116, 2) := by decide +kernel
theorem dX12_kindAt_246 : decode cX12_kindAt 246 = .ok (.iconst 0, 1) := by decide +kernel
theorem dX12_kindAt_247 : decode cX12_kindAt 247 = .ok (.invokevirtual 276, 3) := by decide +kernel
theorem dX12_kindAt_250 : decode cX12_kindAt 250 = .ok (.ifCond .eq 49, 3) := by decide +kernel
theorem dX12_kindAt_253 : decode cX12_kindAt 253 = .ok (.aload_n 0, 1) := by decide +kernel
theorem dX12_kindAt_254 : decode cX12_kindAt 254 = .ok (.bipush 101, 2) := by decide +kernel
theorem dX12_kindAt_256 : decode cX12_kindAt 256 = .ok (.bipush 118, 2) := by decide +kernel
theorem dX12_kindAt_258 : decode cX12_kindAt 258 = .ok (.bipush 101, 2) := by decide +kernel
theorem dX12_kindAt_260 : decode cX12_kindAt 260 = .ok (.bipush 114, 2) := by decide +kernel
theorem dX12_kindAt_262 : decode cX12_kindAt 262 = .ok (.iconst 0, 1) := by decide +kernel
theorem dX12_kindAt_263 : decode cX12_kindAt 263 = .ok (.iconst 0, 1) := by decide +kernel
theorem dX12_kindAt_264 : decode cX12_kindAt 264 = .ok (.invokevirtual 276, 3) := by decide +kernel
theorem dX12_kindAt_267 : decode cX12_kindAt 267 = .ok (.ifCond .eq 8, 3) := by decide +kernel
theorem dX12_kindAt_270 : decode cX12_kindAt 270 = .ok (.bipush 6, 2) := by decide +kernel
theorem dX12_kindAt_272 : decode cX12_kindAt 272 = .ok (.goto 26, 3) := by decide +kernel
theorem dX12_kindAt_275 : decode cX12_kindAt 275 = .ok (.aload_n 0, 1) := by decide +kernel
theorem dX12_kindAt_276 : decode cX12_kindAt 276 = .ok (.bipush 115, 2) := by decide +kernel
theorem dX12_kindAt_278 : decode cX12_kindAt 278 = .ok (.bipush 117, 2) := by decide +kernel
theorem dX12_kindAt_280 : decode cX12_kindAt 280 = .ok (.bipush 109, 2) := by decide +kernel
theorem dX12_kindAt_282 : decode cX12_kindAt 282 = .ok (.iconst 0, 1) := by decide +kernel
theorem dX12_kindAt_283 : decode cX12_kindAt 283 = .ok (.iconst 0, 1) := by decide +kernel
theorem dX12_kindAt_284 : decode cX12_kindAt 284 = .ok (.iconst 0, 1) := by decide +kernel
theorem dX12_kindAt_285 : decode cX12_kindAt 285 = .ok (.invokevirtual 276, 3) := by decide +kernel
theorem dX12_kindAt_288 : decode cX12_kindAt 288 = .ok (.ifCond .eq 8, 3) := by decide +kernel
theorem dX12_kindAt_291 : decode cX12_kindAt 291 = .ok (.bipush 7, 2) := by decide +kernel
theorem dX12_kindAt_293 : decode cX12_kindAt 293 = .ok (.goto 5, 3) := by decide +kernel
theorem dX12_kindAt_296 : decode cX12_kindAt 296 = .ok (.bipush 8, 2) := by decide +kernel
theorem dX12_kindAt_298 : decode cX12_kindAt 298 = .ok (.ireturn, 1) := by decide +kernel
theorem dX12_kindAt_299 : decode cX12_kindAt 299 = .ok (.aload_n 0, 1) := by decide +kernel
theorem dX12_kindAt_300 : decode cX12_kindAt 300 = .ok (.bipush 109, 2) := by decide +kernel
theorem dX12_kindAt_302 : decode cX12_kindAt 302 = .ok (.bipush 97, 2) := by decide +kernel
theorem dX12_kindAt_304 : decode cX12_kindAt 304 = .ok (.bipush 120, 2) := by decide +kernel
theorem dX12_kindAt_306 : decode cX12_kindAt 306 = .ok (.iconst 0, 1) := by decide +kernel
theorem dX12_kindAt_307 : decode cX12_kindAt 307 = .ok (.iconst 0, 1) := by decide +kernel
theorem dX12_kindAt_308 : decode cX12_kindAt 308 = .ok (.iconst 0, 1) := by decide +kernel
theorem dX12_kindAt_309 : decode cX12_kindAt 309 = .ok (.invokevirtual 276, 3) := by decide +kernel
theorem dX12_kindAt_312 : decode cX12_kindAt 312 = .ok (.ifCond .ne 20, 3) := by decide +kernel
theorem dX12_kindAt_315 : decode cX12_kindAt 315 = .ok (.aload_n 0, 1) := by decide +kernel
theorem dX12_kindAt_316 : decode cX12_kindAt 316 = .ok (.bipush 108, 2) := by decide +kernel
theorem dX12_kindAt_318 : decode cX12_kindAt 318 = .ok (.bipush 97, 2) := by decide +kernel
theorem dX12_kindAt_320 : decode cX12_kindAt 320 = .ok (.bipush 115, 2) := by decide +kernel
theorem dX12_kindAt_322 : decode cX12_kindAt 322 = .ok (.bipush 116, 2) := by decide +kernel
theorem dX12_kindAt_324 : decode cX12_kindAt 324 = .ok (.iconst 0, 1) := by decide +kernel
theorem dX12_kindAt_325 : decode cX12_kindAt 325 = .ok (.iconst 0, 1) := by decide +kernel
theorem dX12_kindAt_326 : decode cX12_kindAt 326 = .ok (.invokevirtual 276, 3) := by decide +kernel
theorem dX12_kindAt_329 : decode cX12_kindAt 329 = .ok (.ifCond .eq 27, 3) := by decide +kernel
theorem dX12_kindAt_332 : decode cX12_kindAt 332 = .ok (.aload_n 0, 1) := by decide +kernel
theorem dX12_kindAt_333 : decode cX12_kindAt 333 = .ok (.bipush 109, 2) := by decide +kernel
theorem dX12_kindAt_335 : decode cX12_kindAt 335 = .ok (.bipush 97, 2) := by decide +kernel
theorem dX12_kindAt_337 : decode cX12_kindAt 337 = .ok (.bipush 120, 2) := by decide +kernel
theorem dX12_kindAt_339 : decode cX12_kindAt 339 = .ok (.iconst 0, 1) := by decide +kernel
theorem dX12_kindAt_340 : decode cX12_kindAt 340 = .ok (.iconst 0, 1) := by decide +kernel
theorem dX12_kindAt_341 : decode cX12_kindAt 341 = .ok (.iconst 0, 1) := by decide +kernel
theorem dX12_kindAt_342 : decode cX12_kindAt 342 = .ok (.invokevirtual 276, 3) := by decide +kernel
theorem dX12_kindAt_345 : decode cX12_kindAt 345 = .ok (.ifCond .eq 8, 3) := by decide +kernel
theorem dX12_kindAt_348 : decode cX12_kindAt 348 = .ok (.bipush 9, 2) := by decide +kernel
theorem dX12_kindAt_350 : decode cX12_kindAt 350 = .ok (.goto 5, 3) := by decide +kernel
theorem dX12_kindAt_353 : decode cX12_kindAt 353 = .ok (.bipush 10, 2) := by decide +kernel
theorem dX12_kindAt_355 : decode cX12_kindAt 355 = .ok (.ireturn, 1) := by decide +kernel
theorem dX12_kindAt_356 : decode cX12_kindAt 356 = .ok (.aload_n 0, 1) := by decide +kernel
theorem dX12_kindAt_357 : decode cX12_kindAt 357 = .ok (.bipush 106, 2) := by decide +kernel
theorem dX12_kindAt_359 : decode cX12_kindAt 359 = .ok (.bipush 111, 2) := by decide +kernel
theorem dX12_kindAt_361 : decode cX12_kindAt 361 = .ok (.bipush 105, 2) := by decide +kernel
theorem dX12_kindAt_363 : decode cX12_kindAt 363 = .ok (.bipush 110, 2) := by decide +kernel
theorem dX12_kindAt_365 : decode cX12_kindAt 365 = .ok (.iconst 0, 1) := by decide +kernel
theorem dX12_kindAt_366 : decode cX12_kindAt 366 = .ok (.iconst 0, 1) := by decide +kernel
theorem dX12_kindAt_367 : decode cX12_kindAt 367 = .ok (.invokevirtual 276, 3) := by decide +kernel
theorem dX12_kindAt_370 : decode cX12_kindAt 370 = .ok (.ifCond .eq 8, 3) := by decide +kernel
theorem dX12_kindAt_373 : decode cX12_kindAt 373 = .ok (.bipush 11, 2) := by decide +kernel
theorem dX12_kindAt_375 : decode cX12_kindAt 375 = .ok (.goto 26, 3) := by decide +kernel
theorem dX12_kindAt_378 : decode cX12_kindAt 378 = .ok (.aload_n 0, 1) := by decide +kernel
theorem dX12_kindAt_379 : decode cX12_kindAt 379 = .ok (.bipush 108, 2) := by decide +kernel
theorem dX12_kindAt_381 : decode cX12_kindAt 381 = .ok (.bipush 101, 2) := by decide +kernel
theorem dX12_kindAt_383 : decode cX12_kindAt 383 = .ok (.bipush 115, 2) := by decide +kernel
theorem dX12_kindAt_385 : decode cX12_kindAt 385 = .ok (.bipush 115, 2) := by decide +kernel
theorem dX12_kindAt_387 : decode cX12_kindAt 387 = .ok (.iconst 0, 1) := by decide +kernel
theorem dX12_kindAt_388 : decode cX12_kindAt 388 = .ok (.iconst 0, 1) := by decide +kernel
theorem dX12_kindAt_389 : decode cX12_kindAt 389 = .ok (.invokevirtual 276, 3) := by decide +kernel
theorem dX12_kindAt_392 : decode cX12_kindAt 392 = .ok (.ifCond .eq 8, 3) := by decide +kernel
theorem dX12_kindAt_395 : decode cX12_kindAt 395 = .ok (.bipush 12, 2) := by decide +kernel
theorem dX12_kindAt_397 : decode cX12_kindAt 397 = .ok (.goto 4, 3) := by decide +kernel
theorem dX12_kindAt_400 : decode cX12_kindAt 400 = .ok (.iconst (-1), 1) := by decide +kernel
theorem dX12_kindAt_401 : decode cX12_kindAt 401 = .ok (.ireturn, 1) := by decide +kernel
theorem dX12_readTable_0 : decode cX12_readTable 0 = .ok (.aload_n 0, 1) := by decide +kernel
theorem dX12_readTable_1 : decode cX12_readTable 1 = .ok (.invokevirtual 273, 3) := by decide +kernel
theorem dX12_readTable_4 : decode cX12_readTable 4 = .ok (.ifCond .eq 18, 3) := by decide +kernel
theorem dX12_readTable_7 : decode cX12_readTable 7 = .ok (.aload_n 0, 1) := by decide +kernel
theorem dX12_readTable_8 : decode cX12_readTable 8 = .ok (.getfield 111, 3) := by decide +kernel
theorem dX12_readTable_11 : decode cX12_readTable 11 = .ok (.aload_n 0, 1) := by decide +kernel
theorem dX12_readTable_12 : decode cX12_readTable 12 = .ok (.getfield 232, 3) := by decide +kernel
theorem dX12_readTable_15 : decode cX12_readTable 15 = .ok (.iaload, 1) := by decide +kernel
theorem dX12_readTable_16 : decode cX12_readTable 16 = .ok (.bipush 97, 2) := by decide +kernel
theorem dX12_readTable_18 : decode cX12_readTable 18 = .ok (.isub, 1) := by decide +kernel
theorem dX12_readTable_19 : decode cX12_readTable 19 = .ok (.goto 4, 3) := by decide +kernel
theorem dX12_readTable_22 : decode cX12_readTable 22 = .ok (.iconst (-1), 1) := by decide +kernel
theorem dX12_readTable_23 : decode cX12_readTable 23 = .ok (.istore_n 1, 1) := by decide +kernel
theorem dX12_readTable_24 : decode cX12_readTable 24 = .ok (.aload_n 0, 1) := by decide +kernel
theorem dX12_readTable_25 : decode cX12_readTable 25 = .ok (.iload_n 1, 1) := by decide +kernel
theorem dX12_readTable_26 : decode cX12_readTable 26 = .ok (.iconst (-1), 1) := by decide +kernel
theorem dX12_readTable_27 : decode cX12_readTable 27 = .ok (.if_icmp .eq 26, 3) := by decide +kernel
theorem dX12_readTable_30 : decode cX12_readTable 30 = .ok (.aload_n 0, 1) := by decide +kernel
theorem dX12_readTable_31 : decode cX12_readTable 31 = .ok (.getfield 108, 3) := by decide +kernel
theorem dX12_readTable_34 : decode cX12_readTable 34 = .ok (.iload_n 1, 1) := by decide +kernel
theorem dX12_readTable_35 : decode cX12_readTable 35 = .ok (.iaload, 1) := by decide +kernel
theorem dX12_readTable_36 : decode cX12_readTable 36 = .ok (.iconst (-1), 1) := by decide +kernel
theorem dX12_readTable_37 : decode cX12_readTable 37 = .ok (.if_icmp .ne 16, 3) := by decide +kernel
theorem dX12_readTable_40 : decode cX12_readTable 40 = .ok (.aload_n 0, 1) := by decide +kernel
theorem dX12_readTable_41 : decode cX12_readTable 41 = .ok (.getfield 280, 3) := by decide +kernel
theorem dX12_readTable_44 : decode cX12_readTable 44 = .ok (.bipush 12, 2) := by decide +kernel
theorem dX12_readTable_46 : decode cX12_readTable 46 = .ok (.if_icmp .ge 7, 3) := by decide +kernel
theorem dX12_readTable_49 : decode cX12_readTable 49 = .ok (.iconst 1, 1) := by decide +kernel
theorem dX12_readTable_50 : decode cX12_readTable 50 = .ok (.goto 4, 3) := by decide +kernel
theorem dX12_readTable_53 : decode cX12_readTable 53 = .ok (.iconst 0, 1) := by decide +kernel
theorem dX12_readTable_54 : decode cX12_readTable 54 = .ok (.invokevirtual 262, 3) := by decide +kernel
theorem dX12_readTable_57 : decode cX12_readTable 57 = .ok (.aload_n 0, 1) := by decide +kernel
theorem dX12_readTable_58 : decode cX12_readTable 58 = .ok (.aload_n 0, 1) := by decide +kernel
theorem dX12_readTable_59 : decode cX12_readTable 59 = .ok (.bipush 61, 2) := by decide +kernel
theorem dX12_readTable_61 : decode cX12_readTable 61 = .ok (.invokevirtual 266, 3) := by decide +kernel
theorem dX12_readTable_64 : decode cX12_readTable 64 = .ok (.invokevirtual 262, 3) := by decide +kernel
theorem dX12_readTable_67 : decode cX12_readTable 67 = .ok (.aload_n 0, 1) := by decide +kernel
theorem dX12_readTable_68 : decode cX12_readTable 68 = .ok (.invokevirtual 283, 3) := by decide +kernel
theorem dX12_readTable_71 : decode cX12_readTable 71 = .ok (.istore_n 2, 1) := by decide +kernel
theorem dX12_readTable_72 : decode cX12_readTable 72 = .ok (.aload_n 0, 1) := by decide +kernel
theorem dX12_readTable_73 : decode cX12_readTable 73 = .ok (.iload_n 2, 1) := by decide +kernel
theorem dX12_readTable_74 : decode cX12_readTable 74 = .ok (.iconst (-1), 1) := by decide +kernel
theorem dX12_readTable_75 : decode cX12_readTable 75 = .ok (.if_icmp .eq 7, 3) := by decide +kernel
theorem dX12_readTable_78 : decode cX12_readTable 78 = .ok (.iconst 1, 1) := by decide +kernel
theorem dX12_readTable_79 : decode cX12_readTable 79 = .ok (.goto 4, 3) := by decide +kernel
theorem dX12_readTable_82 : decode cX12_readTable 82 = .ok (.iconst 0, 1) := by decide +kernel
theorem dX12_readTable_83 : decode cX12_readTable 83 = .ok (.invokevirtual 262, 3) := by decide +kernel
theorem dX12_readTable_86 : decode cX12_readTable 86 = .ok (.iload_n 2, 1) := by decide +kernel
theorem dX12_readTable_87 : decode cX12_readTable 87 = .ok (.ifCond .ne 14, 3) := by decide +kernel
theorem dX12_readTable_90 : decode cX12_readTable 90 = .ok (.aload_n 0, 1) := by decide +kernel
theorem dX12_readTable_91 : decode cX12_readTable 91 = .ok (.lconst 0, 1) := by decide +kernel
theorem dX12_readTable_92 : decode cX12_readTable 92 = .ok (.ldc2_w 126, 3) := by decide +kernel
theorem dX12_readTable_95 : decode cX12_readTable 95 = .ok (.invokevirtual 269, 3) := by decide +kernel
theorem dX12_readTable_98 : decode cX12_readTable 98 = .ok (.goto 7, 3) := by decide +kernel
theorem dX12_readTable_101 : decode cX12_readTable 101 = .ok (.aload_n 0, 1) := by decide +kernel
theorem dX12_readTable_102 : decode cX12_readTable 102 = .ok (.invokevirtual 287, 3) := by decide +kernel
theorem dX12_readTable_105 : decode cX12_readTable 105 = .ok (.istore_n 3, 1) := by decide +kernel
theorem dX12_readTable_106 : decode cX12_readTable 106 = .ok (.iconst 0, 1) := by decide +kernel
theorem dX12_readTable_107 : decode cX12_readTable 107 = .ok (.istore 4, 2) := by decide +kernel
theorem dX12_readTable_109 : decode cX12_readTable 109 = .ok (.iconst 0, 1) := by decide +kernel
theorem dX12_readTable_110 : decode cX12_readTable 110 = .ok (.istore 5, 2) := by decide +kernel
theorem dX12_readTable_112 : decode cX12_readTable 112 = .ok (.iconst 0, 1) := by decide +kernel
theorem dX12_readTable_113 : decode cX12_readTable 113 = .ok (.istore 6, 2) := by decide +kernel
theorem dX12_readTable_115 : decode cX12_readTable 115 = .ok (.iload_n 2, 1) := by decide +kernel
theorem dX12_readTable_116 : decode cX12_readTable 116 = .ok (.iconst 1, 1) := by decide +kernel
theorem dX12_readTable_117 : decode cX12_readTable 117 = .ok (.if_icmp .ne 132, 3) := by decide +kernel
theorem dX12_readTable_120 : decode cX12_readTable 120 = .ok (.aload_n 0, 1) := by decide +kernel
theorem dX12_readTable_121 : decode cX12_readTable 121 = .ok (.bipush 107, 2) := by decide +kernel
theorem dX12_readTable_123 : decode cX12_readTable 123 = .ok (.bipush 101, 2) := by decide +kernel
theorem dX12_readTable_125 : decode cX12_readTable 125 = .ok (.bipush 121, 2) := by decide +kernel
theorem dX12_readTable_127 : decode cX12_readTable 127 = .ok (.iconst 0, 1) := by decide +kernel
theorem dX12_readTable_128 : decode cX12_readTable 128 = .ok (.iconst 0, 1) := by decide +kernel
theorem dX12_readTable_129 : decode cX12_readTable 129 = .ok (.iconst 0, 1) := by decide +kernel
theorem dX12_readTable_130 : decode cX12_readTable 130 = .ok (.invokevirtual 276, 3) := by decide +kernel
theorem dX12_readTable_133 : decode cX12_readTable 133 = .ok (.ifCond .eq 7, 3) := by decide +kernel
theorem dX12_readTable_136 : decode cX12_readTable 136 = .ok (.iconst 0, 1) := by decide +kernel
theorem dX12_readTable_137 : decode cX12_readTable 137 = .ok (.goto 26, 3) := by decide +kernel
theorem dX12_readTable_140 : decode cX12_readTable 140 = .ok (.aload_n 0, 1) := by decide +kernel
theorem dX12_readTable_141 : decode cX12_readTable 141 = .ok (.bipush 118, 2) := by decide +kernel
theorem dX12_readTable_143 : decode cX12_readTable 143 = .ok (.bipush 97, 2) := by decide +kernel
theorem dX12_readTable_145 : decode cX12_readTable 145 = .ok (.bipush 108, 2) := by decide +kernel
theorem dX12_readTable_147 : decode cX12_readTable 147 = .ok (.bipush 117, 2) := by decide +kernel
theorem dX12_readTable_149 : decode cX12_readTable 149 = .ok (.bipush 101, 2) := by decide +kernel
theorem dX12_readTable_151 : decode cX12_readTable 151 = .ok (.iconst 0, 1) := by decide +kernel
theorem dX12_readTable_152 : decode cX12_readTable 152 = .ok (.invokevirtual 276, 3) := by decide +kernel
theorem dX12_readTable_155 : decode cX12_readTable 155 = .ok (.ifCond .eq 7, 3) := by decide +kernel
theorem dX12_readTable_158 : decode cX12_readTable 158 = .ok (.iconst 1, 1) := by decide +kernel
theorem dX12_readTable_159 : decode cX12_readTable 159 = .ok (.goto 4, 3) := by decide +kernel
theorem dX12_readTable_162 : decode cX12_readTable 162 = .ok (.iconst 2, 1) := by decide +kernel
theorem dX12_readTable_163 : decode cX12_readTable 163 = .ok (.istore 5, 2) := by decide +kernel
theorem dX12_readTable_165 : decode cX12_readTable 165 = .ok (.aload_n 0, 1) := by decide +kernel
theorem dX12_readTable_166 : decode cX12_readTable 166 = .ok (.iload 5, 2) := by decide +kernel
theorem dX12_readTable_168 : decode cX12_readTable 168 = .ok (.iconst 2, 1) := by decide +kernel
theorem dX12_readTable_169 : decode cX12_readTable 169 = .ok (.if_icmp .lt 20, 3) := by decide +kernel
theorem dX12_readTable_172 : decode cX12_readTable 172 = .ok (.aload_n 0, 1) := by decide +kernel
theorem dX12_readTable_173 : decode cX12_readTable 173 = .ok (.bipush 116, 2) := by decide +kernel
theorem dX12_readTable_175 : decode cX12_readTable 175 = .ok (.bipush 105, 2) := by decide +kernel
theorem dX12_readTable_177 : decode cX12_readTable 177 = .ok (.bipush 109, 2) := by decide +kernel
theorem dX12_readTable_179 : decode cX12_readTable 179 = .ok (.bipush 101, 2) := by decide +kernel
theorem dX12_readTable_181 : decode cX12_readTable 181 = .ok (.iconst 0, 1) := by decide +kernel
theorem dX12_readTable_182 : decode cX12_readTable 182 = .ok (.iconst 0, 1) := by decide +kernel
theorem dX12_readTable_183 : decode cX12_readTable 183 = .ok (.invokevirtual 276, 3) := by decide +kernel
theorem dX12_readTable_186 : decode cX12_readTable 186 = .ok (.ifCond .eq 7, 3) := by decide +kernel
theorem dX12_readTable_189 : decode cX12_readTable 189 = .ok (.iconst 1, 1) := by decide +kernel
theorem dX12_readTable_190 : decode cX12_readTable 190 = .ok (.goto 4, 3) := by decide +kernel
theorem dX12_readTable_193 : decode cX12_readTable 193 = .ok (.iconst 0, 1) := by decide +kernel
theorem dX12_readTable_194 : decode cX12_readTable 194 = .ok (.invokevirtual 262, 3) := by decide +kernel
theorem dX12_readTable_197 : decode cX12_readTable 197 = .ok (.aload_n 0, 1) := by decide +kernel
theorem dX12_readTable_198 : decode cX12_readTable 198 = .ok (.getfield 235, 3) := by decide +kernel
theorem dX12_readTable_201 : decode cX12_readTable 201 = .ok (.l2i, 1) := by decide +kernel
theorem dX12_readTable_202 : decode cX12_readTable 202 = .ok (.istore 6, 2) := by decide +kernel
theorem dX12_readTable_204 : decode cX12_readTable 204 = .ok (.aload_n 0, 1) := by decide +kernel
theorem dX12_readTable_205 : decode cX12_readTable 205 = .ok (.aload_n 0, 1) := by decide +kernel
theorem dX12_readTable_206 : decode cX12_readTable 206 = .ok (.bipush 60, 2) := by decide +kernel
theorem dX12_readTable_208 : decode cX12_readTable 208 = .ok (.invokevirtual 266, 3) := by decide +kernel
theorem dX12_readTable_211 : decode cX12_readTable 211 = .ok (.ifCond .ne 21, 3) := by decide +kernel
theorem dX12_readTable_214 : decode cX12_readTable 214 = .ok (.aload_n 0, 1) := by decide +kernel
theorem dX12_readTable_215 : decode cX12_readTable 215 = .ok (.bipush 62, 2) := by decide +kernel
theorem dX12_readTable_217 : decode cX12_readTable 217 = .ok (.invokevirtual 266, 3) := by decide +kernel
theorem dX12_readTable_220 : decode cX12_readTable 220 = .ok (.ifCond .ne 12, 3) := by decide +kernel
theorem dX12_readTable_223 : decode cX12_readTable 223 = .ok (.aload_n 0, 1) := by decide +kernel
theorem dX12_readTable_224 : decode cX12_readTable 224 = .ok (.bipush 61, 2) := by decide +kernel
theorem dX12_readTable_226 : decode cX12_readTable 226 = .ok (.invokevirtual 266, 3) := by decide +kernel
theorem dX12_readTable_229 : decode cX12_readTable 229 = .ok (.ifCond .eq 7, 3) := by decide +kernel
theorem dX12_readTable_232 : decode cX12_readTable 232 = .ok (.iconst 1, 1) := by decide +kernel
theorem dX12_readTable_233 : decode cX12_readTable 233 = .ok (.goto 4, 3) := by decide +kernel
theorem dX12_readTable_236 : decode cX12_readTable 236 = .ok (.iconst 0, 1) := by decide +kernel
theorem dX12_readTable_237 : decode cX12_readTable 237 = .ok (.invokevirtual 262, 3) := by decide +kernel
theorem dX12_readTable_240 : decode cX12_readTable 240 = .ok (.aload_n 0, 1) := by decide +kernel
theorem dX12_readTable_241 : decode cX12_readTable 241 = .ok (.invokevirtual 290, 3) := by decide +kernel
theorem dX12_readTable_244 : decode cX12_readTable 244 = .ok (.istore 4, 2) := by decide +kernel
theorem dX12_readTable_246 : decode cX12_readTable 246 = .ok (.goto 79, 3) := by decide +kernel
theorem dX12_readTable_249 : decode cX12_readTable 249 = .ok (.iload_n 2, 1) := by decide +kernel
theorem dX12_readTable_250 : decode cX12_readTable 250 = .ok (.iconst 2, 1) := by decide +kernel
theorem dX12_readTable_251 : decode cX12_readTable 251 = .ok (.if_icmp .eq 8, 3) := by decide +kernel
theorem dX12_readTable_254 : decode cX12_readTable 254 = .ok (.iload_n 2, 1) := by decide +kernel
theorem dX12_readTable_255 : decode cX12_readTable 255 = .ok (.iconst 3, 1) := by decide +kernel
theorem dX12_readTable_256 : decode cX12_readTable 256 = .ok (.if_icmp .ne 12, 3) := by decide +kernel
theorem dX12_readTable_259 : decode cX12_readTable 259 = .ok (.aload_n 0, 1) := by decide +kernel
theorem dX12_readTable_260 : decode cX12_readTable 260 = .ok (.invokevirtual 290, 3) := by decide +kernel
theorem dX12_readTable_263 : decode cX12_readTable 263 = .ok (.istore 4, 2) := by decide +kernel
theorem dX12_readTable_265 : decode cX12_readTable 265 = .ok (.goto 60, 3) := by decide +kernel
theorem dX12_readTable_268 : decode cX12_readTable 268 = .ok (.iload_n 2, 1) := by decide +kernel
theorem dX12_readTable_269 : decode cX12_readTable 269 = .ok (.iconst 4, 1) := by decide +kernel
theorem dX12_readTable_270 : decode cX12_readTable 270 = .ok (.if_icmp .eq 8, 3) := by decide +kernel
theorem dX12_readTable_273 : decode cX12_readTable 273 = .ok (.iload_n 2, 1) := by decide +kernel
theorem dX12_readTable_274 : decode cX12_readTable 274 = .ok (.iconst 5, 1) := by decide +kernel
theorem dX12_readTable_275 : decode cX12_readTable 275 = .ok (.if_icmp .ne 32, 3) := by decide +kernel
theorem dX12_readTable_278 : decode cX12_readTable 278 = .ok (.iload_n 2, 1) := by decide +kernel
theorem dX12_readTable_279 : decode cX12_readTable 279 = .ok (.iconst 4, 1) := by decide +kernel
theorem dX12_readTable_280 : decode cX12_readTable 280 = .ok (.if_icmp .ne 14, 3) := by decide +kernel
theorem dX12_readTable_283 : decode cX12_readTable 283 = .ok (.aload_n 0, 1) := by decide +kernel
theorem dX12_readTable_284 : decode cX12_readTable 284 = .ok (.lconst 0, 1) := by decide +kernel
theorem dX12_readTable_285 : decode cX12_readTable 285 = .ok (.ldc2_w 132, 3) := by decide +kernel
theorem dX12_readTable_288 : decode cX12_readTable 288 = .ok (.invokevirtual 269, 3) := by decide +kernel
theorem dX12_readTable_291 : decode cX12_readTable 291 = .ok (.goto 11, 3) := by decide +kernel
theorem dX12_readTable_294 : decode cX12_readTable 294 = .ok (.aload_n 0, 1) := by decide +kernel
theorem dX12_readTable_295 : decode cX12_readTable 295 = .ok (.lconst 1, 1) := by decide +kernel
theorem dX12_readTable_296 : decode cX12_readTable 296 = .ok (.ldc2_w 136, 3) := by decide +kernel
theorem dX12_readTable_299 : decode cX12_readTable 299 = .ok (.invokevirtual 269, 3) := by decide +kernel
theorem dX12_readTable_302 : decode cX12_readTable 302 = .ok (.istore 4, 2) := by decide +kernel
theorem dX12_readTable_304 : decode cX12_readTable 304 = .ok (.goto 21, 3) := by decide +kernel
theorem dX12_readTable_307 : decode cX12_readTable 307 = .ok (.iload_n 2, 1) := by decide +kernel
theorem dX12_readTable_308 : decode cX12_readTable 308 = .ok (.bipush 11, 2) := by decide +kernel
theorem dX12_readTable_310 : decode cX12_readTable 310 = .ok (.if_icmp .eq 9, 3) := by decide +kernel
theorem dX12_readTable_313 : decode cX12_readTable 313 = .ok (.iload_n 2, 1) := by decide +kernel
theorem dX12_readTable_314 : decode cX12_readTable 314 = .ok (.bipush 12, 2) := by decide +kernel
theorem dX12_readTable_316 : decode cX12_readTable 316 = .ok (.if_icmp .ne 9, 3) := by decide +kernel
theorem dX12_readTable_319 : decode cX12_readTable 319 = .ok (.aload_n 0, 1) := by decide +kernel
theorem dX12_readTable_320 : decode cX12_readTable 320 = .ok (.invokevirtual 287, 3) := by decide +kernel
theorem dX12_readTable_323 : decode cX12_readTable 323 = .ok (.istore 4, 2) := by decide +kernel
theorem dX12_readTable_325 : decode cX12_readTable 325 = .ok (.aload_n 0, 1) := by decide +kernel
theorem dX12_readTable_326 : decode cX12_readTable 326 = .ok (.getfield 256, 3) := by decide +kernel
theorem dX12_readTable_329 : decode cX12_readTable 329 = .ok (.ifCond .eq 4, 3) := by decide +kernel
theorem dX12_readTable_332 : decode cX12_readTable 332 = .ok (.return_, 1) := by decide +kernel
theorem dX12_readTable_333 : decode cX12_readTable 333 = .ok (.aload_n 0, 1) := by decide +kernel
theorem dX12_readTable_334 : decode cX12_readTable 334 = .ok (.getfield 93, 3) := by decide +kernel
theorem dX12_readTable_337 : decode cX12_readTable 337 = .ok (.aload_n 0, 1) := by decide +kernel
theorem dX12_readTable_338 : decode cX12_readTable 338 = .ok (.getfield 280, 3) := by decide +kernel
theorem dX12_readTable_341 : decode cX12_readTable 341 = .ok (.iload_n 2, 1) := by decide +kernel
theorem dX12_readTable_342 : decode cX12_readTable 342 = .ok (.iastore, 1) := by decide +kernel
theorem dX12_readTable_343 : decode cX12_readTable 343 = .ok (.aload_n 0, 1) := by decide +kernel
theorem dX12_readTable_344 : decode cX12_readTable 344 = .ok (.getfield 96, 3) := by decide +kernel
theorem dX12_readTable_347 : decode cX12_readTable 347 = .ok (.aload_n 0, 1) := by decide +kernel
theorem dX12_readTable_348 : decode cX12_readTable 348 = .ok (.getfield 280, 3) := by decide +kernel
theorem dX12_readTable_351 : decode cX12_readTable 351 = .ok (.iload_n 3, 1) := by decide +kernel
theorem dX12_readTable_352 : decode cX12_readTable 352 = .ok (.iastore, 1) := by decide +kernel
theorem dX12_readTable_353 : decode cX12_readTable 353 = .ok (.aload_n 0, 1) := by decide +kernel
theorem dX12_readTable_354 : decode cX12_readTable 354 = .ok (.getfield 99, 3) := by decide +kernel
theorem dX12_readTable_357 : decode cX12_readTable 357 = .ok (.aload_n 0, 1) := by decide +kernel
theorem dX12_readTable_358 : decode cX12_readTable 358 = .ok (.getfield 280, 3) := by decide +kernel
theorem dX12_readTable_361 : decode cX12_readTable 361 = .ok (.iload 4, 2) := by decide +kernel
theorem dX12_readTable_363 : decode cX12_readTable 363 = .ok (.iastore, 1) := by decide +kernel
theorem dX12_readTable_364 : decode cX12_readTable 364 = .ok (.aload_n 0, 1) := by decide +kernel
theorem dX12_readTable_365 : decode cX12_readTable 365 = .ok (.getfield 102, 3) := by decide +kernel
theorem dX12_readTable_368 : decode cX12_readTable 368 = .ok (.aload_n 0, 1) := by decide +kernel
theorem dX12_readTable_369 : decode cX12_readTable 369 = .ok (.getfield 280, 3) := by decide +kernel
theorem dX12_readTable_372 : decode cX12_readTable 372 = .ok (.iload 5, 2) := by decide +kernel
theorem dX12_readTable_374 : decode cX12_readTable 374 = .ok (.iastore, 1) := by decide +kernel
theorem dX12_readTable_375 : decode cX12_readTable 375 = .ok (.aload_n 0, 1) := by decide +kernel
theorem dX12_readTable_376 : decode cX12_readTable 376 = .ok (.getfield 105, 3) := by decide +kernel
theorem dX12_readTable_379 : decode cX12_readTable 379 = .ok (.aload_n 0, 1) := by decide +kernel
theorem dX12_readTable_380 : decode cX12_readTable 380 = .ok (.getfield 280, 3) := by decide +kernel
theorem dX12_readTable_383 : decode cX12_readTable 383 = .ok (.iload 6, 2) := by decide +kernel
theorem dX12_readTable_385 : decode cX12_readTable 385 = .ok (.iastore, 1) := by decide +kernel
theorem dX12_readTable_386 : decode cX12_readTable 386 = .ok (.aload_n 0, 1) := by decide +kernel
theorem dX12_readTable_387 : decode cX12_readTable 387 = .ok (.getfield 108, 3) := by decide +kernel
theorem dX12_readTable_390 : decode cX12_readTable 390 = .ok (.iload_n 1, 1) := by decide +kernel
theorem dX12_readTable_391 : decode cX12_readTable 391 = .ok (.aload_n 0, 1) := by decide +kernel
theorem dX12_readTable_392 : decode cX12_readTable 392 = .ok (.getfield 280, 3) := by decide +kernel
theorem dX12_readTable_395 : decode cX12_readTable 395 = .ok (.iastore, 1) := by decide +kernel
theorem dX12_readTable_396 : decode cX12_readTable 396 = .ok (.aload_n 0, 1) := by decide +kernel
theorem dX12_readTable_397 : decode cX12_readTable 397 = .ok (.dup, 1) := by decide +kernel
theorem dX12_readTable_398 : decode cX12_readTable 398 = .ok (.getfield 280, 3) := by decide +kernel
theorem dX12_readTable_401 : decode cX12_readTable 401 = .ok (.iconst 1, 1) := by decide +kernel
theorem dX12_readTable_402 : decode cX12_readTable 402 = .ok (.iadd, 1) := by decide +kernel
theorem dX12_readTable_403 : decode cX12_readTable 403 = .ok (.putfield 280, 3) := by decide +kernel
theorem dX12_readTable_406 : decode cX12_readTable 406 = .ok (.return_, 1) := by decide +kernel
theorem dX12_tables_0 : decode cX12_tables 0 = .ok (.aload_n 0, 1) := by decide +kernel
theorem dX12_tables_1 : decode cX12_tables 1 = .ok (.iconst 0, 1) := by decide +kernel
theorem dX12_tables_2 : decode cX12_tables 2 = .ok (.putfield 120, 3) := by decide +kernel
theorem dX12_tables_5 : decode cX12_tables 5 = .ok (.aload_n 0, 1) := by decide +kernel
theorem dX12_tables_6 : decode cX12_tables 6 = .ok (.iconst 0, 1) := by decide +kernel
theorem dX12_tables_7 : decode cX12_tables 7 = .ok (.putfield 229, 3) := by decide +kernel
theorem dX12_tables_10 : decode cX12_tables 10 = .ok (.aload_n 0, 1) := by decide +kernel
theorem dX12_tables_11 : decode cX12_tables 11 = .ok (.iconst 0, 1) := by decide +kernel
theorem dX12_tables_12 : decode cX12_tables 12 = .ok (.putfield 256, 3) := by decide +kernel
theorem dX12_tables_15 : decode cX12_tables 15 = .ok (.aload_n 0, 1) := by decide +kernel
theorem dX12_tables_16 : decode cX12_tables 16 = .ok (.iconst (-1), 1) := by decide +kernel
theorem dX12_tables_17 : decode cX12_tables 17 = .ok (.putfield 114, 3) := by decide +kernel
theorem dX12_tables_20 : decode cX12_tables 20 = .ok (.aload_n 0, 1) := by decide +kernel
theorem dX12_tables_21 : decode cX12_tables 21 = .ok (.iconst 0, 1) := by decide +kernel
theorem dX12_tables_22 : decode cX12_tables 22 = .ok (.putfield 280, 3) := by decide +kernel
theorem dX12_tables_25 : decode cX12_tables 25 = .ok (.iconst 0, 1) := by decide +kernel
theorem dX12_tables_26 : decode cX12_tables 26 = .ok (.istore_n 1, 1) := by decide +kernel
theorem dX12_tables_27 : decode cX12_tables 27 = .ok (.iload_n 1, 1) := by decide +kernel
theorem dX12_tables_28 : decode cX12_tables 28 = .ok (.bipush 26, 2) := by decide +kernel
theorem dX12_tables_30 : decode cX12_tables 30 = .ok (.if_icmp .ge 16, 3) := by decide +kernel
theorem dX12_tables_33 : decode cX12_tables 33 = .ok (.aload_n 0, 1) := by decide +kernel
theorem dX12_tables_34 : decode cX12_tables 34 = .ok (.getfield 108, 3) := by decide +kernel
theorem dX12_tables_37 : decode cX12_tables 37 = .ok (.iload_n 1, 1) := by decide +kernel
theorem dX12_tables_38 : decode cX12_tables 38 = .ok (.iconst (-1), 1) := by decide +kernel
theorem dX12_tables_39 : decode cX12_tables 39 = .ok (.iastore, 1) := by decide +kernel
theorem dX12_tables_40 : decode cX12_tables 40 = .ok (.iinc 1 1, 3) := by decide +kernel
theorem dX12_tables_43 : decode cX12_tables 43 = .ok (.goto (-16), 3) := by decide +kernel
theorem dX12_tables_46 : decode cX12_tables 46 = .ok (.aload_n 0, 1) := by decide +kernel
theorem dX12_tables_47 : decode cX12_tables 47 = .ok (.invokevirtual 259, 3) := by decide +kernel
theorem dX12_tables_50 : decode cX12_tables 50 = .ok (.aload_n 0, 1) := by decide +kernel
theorem dX12_tables_51 : decode cX12_tables 51 = .ok (.invokevirtual 293, 3) := by decide +kernel
theorem dX12_tables_54 : decode cX12_tables 54 = .ok (.aload_n 0, 1) := by decide +kernel
theorem dX12_tables_55 : decode cX12_tables 55 = .ok (.getfield 256, 3) := by decide +kernel
theorem dX12_tables_58 : decode cX12_tables 58 = .ok (.ifCond .ne 23, 3) := by decide +kernel
theorem dX12_tables_61 : decode cX12_tables 61 = .ok (.aload_n 0, 1) := by decide +kernel
theorem dX12_tables_62 : decode cX12_tables 62 = .ok (.bipush 59, 2) := by decide +kernel
theorem dX12_tables_64 : decode cX12_tables 64 = .ok (.invokevirtual 266, 3) := by decide +kernel
theorem dX12_tables_67 : decode cX12_tables 67 = .ok (.ifCond .eq 14, 3) := by decide +kernel
theorem dX12_tables_70 : decode cX12_tables 70 = .ok (.aload_n 0, 1) := by decide +kernel
theorem dX12_tables_71 : decode cX12_tables 71 = .ok (.invokevirtual 259, 3) := by decide +kernel
theorem dX12_tables_74 : decode cX12_tables 74 = .ok (.aload_n 0, 1) := by decide +kernel
theorem dX12_tables_75 : decode cX12_tables 75 = .ok (.invokevirtual 293, 3) := by decide +kernel
theorem dX12_tables_78 : decode cX12_tables 78 = .ok (.goto (-24), 3) := by decide +kernel
theorem dX12_tables_81 : decode cX12_tables 81 = .ok (.aload_n 0, 1) := by decide +kernel
theorem dX12_tables_82 : decode cX12_tables 82 = .ok (.getfield 256, 3) := by decide +kernel
theorem dX12_tables_85 : decode cX12_tables 85 = .ok (.ifCond .ne 15, 3) := by decide +kernel
theorem dX12_tables_88 : decode cX12_tables 88 = .ok (.aload_n 0, 1) := by decide +kernel
theorem dX12_tables_89 : decode cX12_tables 89 = .ok (.getfield 245, 3) := by decide +kernel
theorem dX12_tables_92 : decode cX12_tables 92 = .ok (.ifCond .eq 8, 3) := by decide +kernel
theorem dX12_tables_95 : decode cX12_tables 95 = .ok (.aload_n 0, 1) := by decide +kernel
theorem dX12_tables_96 : decode cX12_tables 96 = .ok (.iconst 0, 1) := by decide +kernel
theorem dX12_tables_97 : decode cX12_tables 97 = .ok (.invokevirtual 262, 3) := by decide +kernel
theorem dX12_tables_100 : decode cX12_tables 100 = .ok (.aload_n 0, 1) := by decide +kernel
theorem dX12_tables_101 : decode cX12_tables 101 = .ok (.iconst 0, 1) := by decide +kernel
theorem dX12_tables_102 : decode cX12_tables 102 = .ok (.putfield 223, 3) := by decide +kernel
theorem dX12_tables_105 : decode cX12_tables 105 = .ok (.aload_n 0, 1) := by decide +kernel
theorem dX12_tables_106 : decode cX12_tables 106 = .ok (.getfield 256, 3) := by decide +kernel
theorem dX12_tables_109 : decode cX12_tables 109 = .ok (.ifCond .eq 10, 3) := by decide +kernel
theorem dX12_tables_112 : decode cX12_tables 112 = .ok (.aload_n 0, 1) := by decide +kernel
theorem dX12_tables_113 : decode cX12_tables 113 = .ok (.bipush (-6), 2) := by decide +kernel
theorem dX12_tables_115 : decode cX12_tables 115 = .ok (.invokevirtual 140, 3) := by decide +kernel
theorem dX12_tables_118 : decode cX12_tables 118 = .ok (.ireturn, 1) := by decide +kernel
theorem dX12_tables_119 : decode cX12_tables 119 = .ok (.aload_n 0, 1) := by decide +kernel
theorem dX12_tables_120 : decode cX12_tables 120 = .ok (.aload_n 0, 1) := by decide +kernel
theorem dX12_tables_121 : decode cX12_tables 121 = .ok (.getfield 280, 3) := by decide +kernel
theorem dX12_tables_124 : decode cX12_tables 124 = .ok (.putfield 173, 3) := by decide +kernel
theorem dX12_tables_127 : decode cX12_tables 127 = .ok (.iconst 0, 1) := by decide +kernel
theorem dX12_tables_128 : decode cX12_tables 128 = .ok (.istore_n 1, 1) := by decide +kernel
theorem dX12_tables_129 : decode cX12_tables 129 = .ok (.iload_n 1, 1) := by decide +kernel
theorem dX12_tables_130 : decode cX12_tables 130 = .ok (.aload_n 0, 1) := by decide +kernel
theorem dX12_tables_131 : decode cX12_tables 131 = .ok (.getfield 173, 3) := by decide +kernel
theorem dX12_tables_134 : decode cX12_tables 134 = .ok (.if_icmp .ge 69, 3) := by decide +kernel
theorem dX12_tables_137 : decode cX12_tables 137 = .ok (.aload_n 0, 1) := by decide +kernel
theorem dX12_tables_138 : decode cX12_tables 138 = .ok (.getfield 30, 3) := by decide +kernel
theorem dX12_tables_141 : decode cX12_tables 141 = .ok (.iload_n 1, 1) := by decide +kernel
theorem dX12_tables_142 : decode cX12_tables 142 = .ok (.aload_n 0, 1) := by decide +kernel
theorem dX12_tables_143 : decode cX12_tables 143 = .ok (.getfield 93, 3) := by decide +kernel
theorem dX12_tables_146 : decode cX12_tables 146 = .ok (.iload_n 1, 1) := by decide +kernel
theorem dX12_tables_147 : decode cX12_tables 147 = .ok (.iaload, 1) := by decide +kernel
theorem dX12_tables_148 : decode cX12_tables 148 = .ok (.iastore, 1) := by decide +kernel
theorem dX12_tables_149 : decode cX12_tables 149 = .ok (.aload_n 0, 1) := by decide +kernel
theorem dX12_tables_150 : decode cX12_tables 150 = .ok (.getfield 33, 3) := by decide +kernel
theorem dX12_tables_153 : decode cX12_tables 153 = .ok (.iload_n 1, 1) := by decide +kernel
theorem dX12_tables_154 : decode cX12_tables 154 = .ok (.aload_n 0, 1) := by decide +kernel
theorem dX12_tables_155 : decode cX12_tables 155 = .ok (.getfield 96, 3) := by decide +kernel
theorem dX12_tables_158 : decode cX12_tables 158 = .ok (.iload_n 1, 1) := by decide +kernel
theorem dX12_tables_159 : decode cX12_tables 159 = .ok (.iaload, 1) := by decide +kernel
theorem dX12_tables_160 : decode cX12_tables 160 = .ok (.iastore, 1) := by decide +kernel
theorem dX12_tables_161 : decode cX12_tables 161 = .ok (.aload_n 0, 1) := by decide +kernel
theorem dX12_tables_162 : decode cX12_tables 162 = .ok (.getfield 36, 3) := by decide +kernel
theorem dX12_tables_165 : decode cX12_tables 165 = .ok (.iload_n 1, 1) := by decide +kernel
theorem dX12_tables_166 : decode cX12_tables 166 = .ok (.aload_n 0, 1) := by decide +kernel
theorem dX12_tables_167 : decode cX12_tables 167 = .ok (.getfield 99, 3) := by decide +kernel
theorem dX12_tables_170 : decode cX12_tables 170 = .ok (.iload_n 1, 1) := by decide +kernel
theorem dX12_tables_171 : decode cX12_tables 171 = .ok (.iaload, 1) := by decide +kernel
theorem dX12_tables_172 : decode cX12_tables 172 = .ok (.iastore, 1) := by decide +kernel
theorem dX12_tables_173 : decode cX12_tables 173 = .ok (.aload_n 0, 1) := by decide +kernel
theorem dX12_tables_174 : decode cX12_tables 174 = .ok (.getfield 39, 3) := by decide +kernel
theorem dX12_tables_177 : decode cX12_tables 177 = .ok (.iload_n 1, 1) := by decide +kernel
theorem dX12_tables_178 : decode cX12_tables 178 = .ok (.aload_n 0, 1) := by decide +kernel
theorem dX12_tables_179 : decode cX12_tables 179 = .ok (.getfield 102, 3) := by decide +kernel
theorem dX12_tables_182 : decode cX12_tables 182 = .ok (.iload_n 1, 1) := by decide +kernel
theorem dX12_tables_183 : decode cX12_tables 183 = .ok (.iaload, 1) := by decide +kernel
theorem dX12_tables_184 : decode cX12_tables 184 = .ok (.iastore, 1) := by decide +kernel
theorem dX12_tables_185 : decode cX12_tables 185 = .ok (.aload_n 0, 1) := by decide +kernel
theorem dX12_tables_186 : decode cX12_tables 186 = .ok (.getfield 42, 3) := by decide +kernel
theorem dX12_tables_189 : decode cX12_tables 189 = .ok (.iload_n 1, 1) := by decide +kernel
theorem dX12_tables_190 : decode cX12_tables 190 = .ok (.aload_n 0, 1) := by decide +kernel
theorem dX12_tables_191 : decode cX12_tables 191 = .ok (.getfield 105, 3) := by decide +kernel
theorem dX12_tables_194 : decode cX12_tables 194 = .ok (.iload_n 1, 1) := by decide +kernel
theorem dX12_tables_195 : decode cX12_tables 195 = .ok (.iaload, 1) := by decide +kernel
theorem dX12_tables_196 : decode cX12_tables 196 = .ok (.iastore, 1) := by decide +kernel
theorem dX12_tables_197 : decode cX12_tables 197 = .ok (.iinc 1 1, 3) := by decide +kernel
theorem dX12_tables_200 : decode cX12_tables 200 = .ok (.goto (-71), 3) := by decide +kernel
theorem dX12_tables_203 : decode cX12_tables 203 = .ok (.aload_n 0, 1) := by decide +kernel
theorem dX12_tables_204 : decode cX12_tables 204 = .ok (.invokevirtual 220, 3) := by decide +kernel
theorem dX12_tables_207 : decode cX12_tables 207 = .ok (.aload_n 0, 1) := by decide +kernel
theorem dX12_tables_208 : decode cX12_tables 208 = .ok (.aload_n 0, 1) := by decide +kernel
theorem dX12_tables_209 : decode cX12_tables 209 = .ok (.getfield 173, 3) := by decide +kernel
theorem dX12_tables_212 : decode cX12_tables 212 = .ok (.invokevirtual 140, 3) := by decide +kernel
theorem dX12_tables_215 : decode cX12_tables 215 = .ok (.ireturn, 1) := by decide +kernel
theorem dX12_fault_0 : decode cX12_fault 0 = .ok (.aload_n 0, 1) := by decide +kernel
theorem dX12_fault_1 : decode cX12_fault 1 = .ok (.iconst 0, 1) := by decide +kernel
theorem dX12_fault_2 : decode cX12_fault 2 = .ok (.putfield 120, 3) := by decide +kernel
theorem dX12_fault_5 : decode cX12_fault 5 = .ok (.aload_n 0, 1) := by decide +kernel
theorem dX12_fault_6 : decode cX12_fault 6 = .ok (.getfield 114, 3) := by decide +kernel
theorem dX12_fault_9 : decode cX12_fault 9 = .ok (.ireturn, 1) := by decide +kernel
theorem dX12_isTable_0 : decode cX12_isTable 0 = .ok (.iload_n 1, 1) := by decide +kernel
theorem dX12_isTable_1 : decode cX12_isTable 1 = .ok (.i2l, 1) := by decide +kernel
theorem dX12_isTable_2 : decode cX12_isTable 2 = .ok (.lconst 0, 1) := by decide +kernel
theorem dX12_isTable_3 : decode cX12_isTable 3 = .ok (.aload_n 0, 1) := by decide +kernel
theorem dX12_isTable_4 : decode cX12_isTable 4 = .ok (.getfield 173, 3) := by decide +kernel
theorem dX12_isTable_7 : decode cX12_isTable 7 = .ok (.i2l, 1) := by decide +kernel
theorem dX12_isTable_8 : decode cX12_isTable 8 = .ok (.lconst 1, 1) := by decide +kernel
theorem dX12_isTable_9 : decode cX12_isTable 9 = .ok (.lsub, 1) := by decide +kernel
theorem dX12_isTable_10 : decode cX12_isTable 10 = .ok (.invokestatic 128, 3) := by decide +kernel
theorem dX12_isTable_13 : decode cX12_isTable 13 = .ok (.ireturn, 1) := by decide +kernel
theorem dX12_rows_0 : decode cX12_rows 0 = .ok (.aload_n 0, 1) := by decide +kernel
theorem dX12_rows_1 : decode cX12_rows 1 = .ok (.iconst 0, 1) := by decide +kernel
theorem dX12_rows_2 : decode cX12_rows 2 = .ok (.putfield 120, 3) := by decide +kernel
theorem dX12_rows_5 : decode cX12_rows 5 = .ok (.aload_n 0, 1) := by decide +kernel
theorem dX12_rows_6 : decode cX12_rows 6 = .ok (.iload_n 1, 1) := by decide +kernel
theorem dX12_rows_7 : decode cX12_rows 7 = .ok (.invokevirtual 296, 3) := by decide +kernel
theorem dX12_rows_10 : decode cX12_rows 10 = .ok (.ifCond .eq 12, 3) := by decide +kernel
theorem dX12_rows_13 : decode cX12_rows 13 = .ok (.aload_n 0, 1) := by decide +kernel
theorem dX12_rows_14 : decode cX12_rows 14 = .ok (.getfield 45, 3) := by decide +kernel
theorem dX12_rows_17 : decode cX12_rows 17 = .ok (.iload_n 1, 1) := by decide +kernel
theorem dX12_rows_18 : decode cX12_rows 18 = .ok (.iaload, 1) := by decide +kernel
theorem dX12_rows_19 : decode cX12_rows 19 = .ok (.goto 4, 3) := by decide +kernel
theorem dX12_rows_22 : decode cX12_rows 22 = .ok (.iconst (-1), 1) := by decide +kernel
theorem dX12_rows_23 : decode cX12_rows 23 = .ok (.ireturn, 1) := by decide +kernel
theorem dX12_row_0 : decode cX12_row 0 = .ok (.aload_n 0, 1) := by decide +kernel
theorem dX12_row_1 : decode cX12_row 1 = .ok (.iconst 0, 1) := by decide +kernel
theorem dX12_row_2 : decode cX12_row 2 = .ok (.putfield 120, 3) := by decide +kernel
theorem dX12_row_5 : decode cX12_row 5 = .ok (.aload_n 0, 1) := by decide +kernel
theorem dX12_row_6 : decode cX12_row 6 = .ok (.iload_n 1, 1) := by decide +kernel
theorem dX12_row_7 : decode cX12_row 7 = .ok (.invokevirtual 296, 3) := by decide +kernel
theorem dX12_row_10 : decode cX12_row 10 = .ok (.ifCond .eq 21, 3) := by decide +kernel
theorem dX12_row_13 : decode cX12_row 13 = .ok (.iload_n 2, 1) := by decide +kernel
theorem dX12_row_14 : decode cX12_row 14 = .ok (.i2l, 1) := by decide +kernel
theorem dX12_row_15 : decode cX12_row 15 = .ok (.lconst 0, 1) := by decide +kernel
theorem dX12_row_16 : decode cX12_row 16 = .ok (.aload_n 0, 1) := by decide +kernel
theorem dX12_row_17 : decode cX12_row 17 = .ok (.getfield 45, 3) := by decide +kernel
theorem dX12_row_20 : decode cX12_row 20 = .ok (.iload_n 1, 1) := by decide +kernel
theorem dX12_row_21 : decode cX12_row 21 = .ok (.iaload, 1) := by decide +kernel
theorem dX12_row_22 : decode cX12_row 22 = .ok (.i2l, 1) := by decide +kernel
theorem dX12_row_23 : decode cX12_row 23 = .ok (.lconst 1, 1) := by decide +kernel
theorem dX12_row_24 : decode cX12_row 24 = .ok (.lsub, 1) := by decide +kernel
theorem dX12_row_25 : decode cX12_row 25 = .ok (.invokestatic 128, 3) := by decide +kernel
theorem dX12_row_28 : decode cX12_row 28 = .ok (.ifCond .ne 7, 3) := by decide +kernel
theorem dX12_row_31 : decode cX12_row 31 = .ok (.ldc_w 299, 3) := by decide +kernel
theorem dX12_row_34 : decode cX12_row 34 = .ok (.ireturn, 1) := by decide +kernel
theorem dX12_row_35 : decode cX12_row 35 = .ok (.sipush 400, 3) := by decide +kernel
theorem dX12_row_38 : decode cX12_row 38 = .ok (.iload_n 1, 1) := by decide +kernel
theorem dX12_row_39 : decode cX12_row 39 = .ok (.imul, 1) := by decide +kernel
theorem dX12_row_40 : decode cX12_row 40 = .ok (.iload_n 2, 1) := by decide +kernel
theorem dX12_row_41 : decode cX12_row 41 = .ok (.iadd, 1) := by decide +kernel
theorem dX12_row_42 : decode cX12_row 42 = .ok (.istore 4, 2) := by decide +kernel
theorem dX12_row_44 : decode cX12_row 44 = .ok (.iload_n 3, 1) := by decide +kernel
theorem dX12_row_45 : decode cX12_row 45 = .ok (.ifCond .ne 13, 3) := by decide +kernel
theorem dX12_row_48 : decode cX12_row 48 = .ok (.aload_n 0, 1) := by decide +kernel
theorem dX12_row_49 : decode cX12_row 49 = .ok (.getfield 48, 3) := by decide +kernel
theorem dX12_row_52 : decode cX12_row 52 = .ok (.iload 4, 2) := by decide +kernel
theorem dX12_row_54 : decode cX12_row 54 = .ok (.iaload, 1) := by decide +kernel
theorem dX12_row_55 : decode cX12_row 55 = .ok (.goto 36, 3) := by decide +kernel
theorem dX12_row_58 : decode cX12_row 58 = .ok (.iload_n 3, 1) := by decide +kernel
theorem dX12_row_59 : decode cX12_row 59 = .ok (.iconst 1, 1) := by decide +kernel
theorem dX12_row_60 : decode cX12_row 60 = .ok (.if_icmp .ne 13, 3) := by decide +kernel
theorem dX12_row_63 : decode cX12_row 63 = .ok (.aload_n 0, 1) := by decide +kernel
theorem dX12_row_64 : decode cX12_row 64 = .ok (.getfield 51, 3) := by decide +kernel
theorem dX12_row_67 : decode cX12_row 67 = .ok (.iload 4, 2) := by decide +kernel
theorem dX12_row_69 : decode cX12_row 69 = .ok (.iaload, 1) := by decide +kernel
theorem dX12_row_70 : decode cX12_row 70 = .ok (.goto 21, 3) := by decide +kernel
theorem dX12_row_73 : decode cX12_row 73 = .ok (.iload_n 3, 1) := by decide +kernel
theorem dX12_row_74 : decode cX12_row 74 = .ok (.iconst 2, 1) := by decide +kernel
theorem dX12_row_75 : decode cX12_row 75 = .ok (.if_icmp .ne 13, 3) := by decide +kernel
theorem dX12_row_78 : decode cX12_row 78 = .ok (.aload_n 0, 1) := by decide +kernel
theorem dX12_row_79 : decode cX12_row 79 = .ok (.getfield 54, 3) := by decide +kernel
theorem dX12_row_82 : decode cX12_row 82 = .ok (.iload 4, 2) := by decide +kernel
theorem dX12_row_84 : decode cX12_row 84 = .ok (.iaload, 1) := by decide +kernel
theorem dX12_row_85 : decode cX12_row 85 = .ok (.goto 6, 3) := by decide +kernel
theorem dX12_row_88 : decode cX12_row 88 = .ok (.ldc_w 299, 3) := by decide +kernel
theorem dX12_row_91 : decode cX12_row 91 = .ok (.ireturn, 1) := by decide +kernel
theorem dX12_out_0 : decode cX12_out 0 = .ok (.aload_n 0, 1) := by decide +kernel
theorem dX12_out_1 : decode cX12_out 1 = .ok (.iconst 0, 1) := by decide +kernel
theorem dX12_out_2 : decode cX12_out 2 = .ok (.putfield 120, 3) := by decide +kernel
theorem dX12_out_5 : decode cX12_out 5 = .ok (.iload_n 1, 1) := by decide +kernel
theorem dX12_out_6 : decode cX12_out 6 = .ok (.iconst (-1), 1) := by decide +kernel
theorem dX12_out_7 : decode cX12_out 7 = .ok (.if_icmp .ne 18, 3) := by decide +kernel
theorem dX12_out_10 : decode cX12_out 10 = .ok (.iload_n 2, 1) := by decide +kernel
theorem dX12_out_11 : decode cX12_out 11 = .ok (.ifCond .ne 10, 3) := by decide +kernel
theorem dX12_out_14 : decode cX12_out 14 = .ok (.aload_n 0, 1) := by decide +kernel
theorem dX12_out_15 : decode cX12_out 15 = .ok (.getfield 212, 3) := by decide +kernel
theorem dX12_out_18 : decode cX12_out 18 = .ok (.goto 6, 3) := by decide +kernel
theorem dX12_out_21 : decode cX12_out 21 = .ok (.ldc_w 299, 3) := by decide +kernel
theorem dX12_out_24 : decode cX12_out 24 = .ok (.ireturn, 1) := by decide +kernel
theorem dX12_out_25 : decode cX12_out 25 = .ok (.iload_n 1, 1) := by decide +kernel
theorem dX12_out_26 : decode cX12_out 26 = .ok (.i2l, 1) := by decide +kernel
theorem dX12_out_27 : decode cX12_out 27 = .ok (.lconst 0, 1) := by decide +kernel
theorem dX12_out_28 : decode cX12_out 28 = .ok (.aload_n 0, 1) := by decide +kernel
theorem dX12_out_29 : decode cX12_out 29 = .ok (.getfield 212, 3) := by decide +kernel
theorem dX12_out_32 : decode cX12_out 32 = .ok (.i2l, 1) := by decide +kernel
theorem dX12_out_33 : decode cX12_out 33 = .ok (.lconst 1, 1) := by decide +kernel
theorem dX12_out_34 : decode cX12_out 34 = .ok (.lsub, 1) := by decide +kernel
theorem dX12_out_35 : decode cX12_out 35 = .ok (.invokestatic 128, 3) := by decide +kernel
theorem dX12_out_38 : decode cX12_out 38 = .ok (.ifCond .ne 7, 3) := by decide +kernel
theorem dX12_out_41 : decode cX12_out 41 = .ok (.ldc_w 299, 3) := by decide +kernel
theorem dX12_out_44 : decode cX12_out 44 = .ok (.ireturn, 1) := by decide +kernel
theorem dX12_out_45 : decode cX12_out 45 = .ok (.iload_n 2, 1) := by decide +kernel
theorem dX12_out_46 : decode cX12_out 46 = .ok (.ifCond .ne 12, 3) := by decide +kernel
theorem dX12_out_49 : decode cX12_out 49 = .ok (.aload_n 0, 1) := by decide +kernel
theorem dX12_out_50 : decode cX12_out 50 = .ok (.getfield 81, 3) := by decide +kernel
theorem dX12_out_53 : decode cX12_out 53 = .ok (.iload_n 1, 1) := by decide +kernel
theorem dX12_out_54 : decode cX12_out 54 = .ok (.iaload, 1) := by decide +kernel
theorem dX12_out_55 : decode cX12_out 55 = .ok (.goto 48, 3) := by decide +kernel
theorem dX12_out_58 : decode cX12_out 58 = .ok (.iload_n 2, 1) := by decide +kernel
theorem dX12_out_59 : decode cX12_out 59 = .ok (.iconst 1, 1) := by decide +kernel
theorem dX12_out_60 : decode cX12_out 60 = .ok (.if_icmp .ne 12, 3) := by decide +kernel
theorem dX12_out_63 : decode cX12_out 63 = .ok (.aload_n 0, 1) := by decide +kernel
theorem dX12_out_64 : decode cX12_out 64 = .ok (.getfield 84, 3) := by decide +kernel
theorem dX12_out_67 : decode cX12_out 67 = .ok (.iload_n 1, 1) := by decide +kernel
theorem dX12_out_68 : decode cX12_out 68 = .ok (.iaload, 1) := by decide +kernel
theorem dX12_out_69 : decode cX12_out 69 = .ok (.goto 34, 3) := by decide +kernel
theorem dX12_out_72 : decode cX12_out 72 = .ok (.iload_n 2, 1) := by decide +kernel
theorem dX12_out_73 : decode cX12_out 73 = .ok (.iconst 2, 1) := by decide +kernel
theorem dX12_out_74 : decode cX12_out 74 = .ok (.if_icmp .ne 12, 3) := by decide +kernel
theorem dX12_out_77 : decode cX12_out 77 = .ok (.aload_n 0, 1) := by decide +kernel
theorem dX12_out_78 : decode cX12_out 78 = .ok (.getfield 87, 3) := by decide +kernel
theorem dX12_out_81 : decode cX12_out 81 = .ok (.iload_n 1, 1) := by decide +kernel
theorem dX12_out_82 : decode cX12_out 82 = .ok (.iaload, 1) := by decide +kernel
theorem dX12_out_83 : decode cX12_out 83 = .ok (.goto 20, 3) := by decide +kernel
theorem dX12_out_86 : decode cX12_out 86 = .ok (.iload_n 2, 1) := by decide +kernel
theorem dX12_out_87 : decode cX12_out 87 = .ok (.iconst 3, 1) := by decide +kernel
theorem dX12_out_88 : decode cX12_out 88 = .ok (.if_icmp .ne 12, 3) := by decide +kernel
theorem dX12_out_91 : decode cX12_out 91 = .ok (.aload_n 0, 1) := by decide +kernel
theorem dX12_out_92 : decode cX12_out 92 = .ok (.getfield 90, 3) := by decide +kernel
theorem dX12_out_95 : decode cX12_out 95 = .ok (.iload_n 1, 1) := by decide +kernel
theorem dX12_out_96 : decode cX12_out 96 = .ok (.iaload, 1) := by decide +kernel
theorem dX12_out_97 : decode cX12_out 97 = .ok (.goto 6, 3) := by decide +kernel
theorem dX12_out_100 : decode cX12_out 100 = .ok (.ldc_w 299, 3) := by decide +kernel
theorem dX12_out_103 : decode cX12_out 103 = .ok (.ireturn, 1) := by decide +kernel
theorem dX12_ownerBy_0 : decode cX12_ownerBy 0 = .ok (.iconst (-1), 1) := by decide +kernel
theorem dX12_ownerBy_1 : decode cX12_ownerBy 1 = .ok (.istore_n 2, 1) := by decide +kernel
theorem dX12_ownerBy_2 : decode cX12_ownerBy 2 = .ok (.iconst (-1), 1) := by decide +kernel
theorem dX12_ownerBy_3 : decode cX12_ownerBy 3 = .ok (.istore_n 3, 1) := by decide +kernel
theorem dX12_ownerBy_4 : decode cX12_ownerBy 4 = .ok (.iconst 0, 1) := by decide +kernel
theorem dX12_ownerBy_5 : decode cX12_ownerBy 5 = .ok (.istore 4, 2) := by decide +kernel
theorem dX12_ownerBy_7 : decode cX12_ownerBy 7 = .ok (.iload 4, 2) := by decide +kernel
theorem dX12_ownerBy_9 : decode cX12_ownerBy 9 = .ok (.bipush 8, 2) := by decide +kernel
theorem dX12_ownerBy_11 : decode cX12_ownerBy 11 = .ok (.if_icmp .ge 46, 3) := by decide +kernel
theorem dX12_ownerBy_14 : decode cX12_ownerBy 14 = .ok (.iload_n 0, 1) := by decide +kernel
theorem dX12_ownerBy_15 : decode cX12_ownerBy 15 = .ok (.iconst 1, 1) := by decide +kernel
theorem dX12_ownerBy_16 : decode cX12_ownerBy 16 = .ok (.iadd, 1) := by decide +kernel
theorem dX12_ownerBy_17 : decode cX12_ownerBy 17 = .ok (.iconst 2, 1) := by decide +kernel
theorem dX12_ownerBy_18 : decode cX12_ownerBy 18 = .ok (.iload 4, 2) := by decide +kernel
theorem dX12_ownerBy_20 : decode cX12_ownerBy 20 = .ok (.imul, 1) := by decide +kernel
theorem dX12_ownerBy_21 : decode cX12_ownerBy 21 = .ok (.iconst 3, 1) := by decide +kernel
theorem dX12_ownerBy_22 : decode cX12_ownerBy 22 = .ok (.iadd, 1) := by decide +kernel
theorem dX12_ownerBy_23 : decode cX12_ownerBy 23 = .ok (.imul, 1) := by decide +kernel
theorem dX12_ownerBy_24 : decode cX12_ownerBy 24 = .ok (.bipush 97, 2) := by decide +kernel
theorem dX12_ownerBy_26 : decode cX12_ownerBy 26 = .ok (.irem, 1) := by decide +kernel
theorem dX12_ownerBy_27 : decode cX12_ownerBy 27 = .ok (.istore 5, 2) := by decide +kernel
theorem dX12_ownerBy_29 : decode cX12_ownerBy 29 = .ok (.iload_n 1, 1) := by decide +kernel
theorem dX12_ownerBy_30 : decode cX12_ownerBy 30 = .ok (.iload 4, 2) := by decide +kernel
theorem dX12_ownerBy_32 : decode cX12_ownerBy 32 = .ok (.ishr, 1) := by decide +kernel
theorem dX12_ownerBy_33 : decode cX12_ownerBy 33 = .ok (.iconst 1, 1) := by decide +kernel
theorem dX12_ownerBy_34 : decode cX12_ownerBy 34 = .ok (.iand, 1) := by decide +kernel
theorem dX12_ownerBy_35 : decode cX12_ownerBy 35 = .ok (.iconst 1, 1) := by decide +kernel
theorem dX12_ownerBy_36 : decode cX12_ownerBy 36 = .ok (.if_icmp .ne 15, 3) := by decide +kernel
theorem dX12_ownerBy_39 : decode cX12_ownerBy 39 = .ok (.iload 5, 2) := by decide +kernel
theorem dX12_ownerBy_41 : decode cX12_ownerBy 41 = .ok (.iload_n 3, 1) := by decide +kernel
theorem dX12_ownerBy_42 : decode cX12_ownerBy 42 = .ok (.if_icmp .le 9, 3) := by decide +kernel
theorem dX12_ownerBy_45 : decode cX12_ownerBy 45 = .ok (.iload 5, 2) := by decide +kernel
theorem dX12_ownerBy_47 : decode cX12_ownerBy 47 = .ok (.istore_n 3, 1) := by decide +kernel
theorem dX12_ownerBy_48 : decode cX12_ownerBy 48 = .ok (.iload 4, 2) := by decide +kernel
theorem dX12_ownerBy_50 : decode cX12_ownerBy 50 = .ok (.istore_n 2, 1) := by decide +kernel
theorem dX12_ownerBy_51 : decode cX12_ownerBy 51 = .ok (.iinc 4 1, 3) := by decide +kernel
theorem dX12_ownerBy_54 : decode cX12_ownerBy 54 = .ok (.goto (-47), 3) := by decide +kernel
theorem dX12_ownerBy_57 : decode cX12_ownerBy 57 = .ok (.iload_n 2, 1) := by decide +kernel
theorem dX12_ownerBy_58 : decode cX12_ownerBy 58 = .ok (.ireturn, 1) := by decide +kernel
theorem dX12_host_0 : decode cX12_host 0 = .ok (.aload_n 0, 1) := by decide +kernel
theorem dX12_host_1 : decode cX12_host 1 = .ok (.iconst 0, 1) := by decide +kernel
theorem dX12_host_2 : decode cX12_host 2 = .ok (.putfield 120, 3) := by decide +kernel
theorem dX12_host_5 : decode cX12_host 5 = .ok (.iload_n 1, 1) := by decide +kernel
theorem dX12_host_6 : decode cX12_host 6 = .ok (.i2l, 1) := by decide +kernel
theorem dX12_host_7 : decode cX12_host 7 = .ok (.lconst 0, 1) := by decide +kernel
theorem dX12_host_8 : decode cX12_host 8 = .ok (.ldc2_w 300, 3) := by decide +kernel
theorem dX12_host_11 : decode cX12_host 11 = .ok (.invokestatic 128, 3) := by decide +kernel
theorem dX12_host_14 : decode cX12_host 14 = .ok (.ifCond .ne 9, 3) := by decide +kernel
theorem dX12_host_17 : decode cX12_host 17 = .ok (.aload_n 0, 1) := by decide +kernel
theorem dX12_host_18 : decode cX12_host 18 = .ok (.iconst (-1), 1) := by decide +kernel
theorem dX12_host_19 : decode cX12_host 19 = .ok (.invokevirtual 140, 3) := by decide +kernel
theorem dX12_host_22 : decode cX12_host 22 = .ok (.ireturn, 1) := by decide +kernel
theorem dX12_host_23 : decode cX12_host 23 = .ok (.aload_n 0, 1) := by decide +kernel
theorem dX12_host_24 : decode cX12_host 24 = .ok (.getfield 117, 3) := by decide +kernel
theorem dX12_host_27 : decode cX12_host 27 = .ok (.iload_n 1, 1) := by decide +kernel
theorem dX12_host_28 : decode cX12_host 28 = .ok (.ishr, 1) := by decide +kernel
theorem dX12_host_29 : decode cX12_host 29 = .ok (.iconst 1, 1) := by decide +kernel
theorem dX12_host_30 : decode cX12_host 30 = .ok (.iand, 1) := by decide +kernel
theorem dX12_host_31 : decode cX12_host 31 = .ok (.iconst 1, 1) := by decide +kernel
theorem dX12_host_32 : decode cX12_host 32 = .ok (.if_icmp .ne 7, 3) := by decide +kernel
theorem dX12_host_35 : decode cX12_host 35 = .ok (.iconst 1, 1) := by decide +kernel
theorem dX12_host_36 : decode cX12_host 36 = .ok (.goto 4, 3) := by decide +kernel
theorem dX12_host_39 : decode cX12_host 39 = .ok (.iconst 0, 1) := by decide +kernel
theorem dX12_host_40 : decode cX12_host 40 = .ok (.iload_n 2, 1) := by decide +kernel
theorem dX12_host_41 : decode cX12_host 41 = .ok (.if_icmp .ne 10, 3) := by decide +kernel
theorem dX12_host_44 : decode cX12_host 44 = .ok (.aload_n 0, 1) := by decide +kernel
theorem dX12_host_45 : decode cX12_host 45 = .ok (.bipush (-4), 2) := by decide +kernel
theorem dX12_host_47 : decode cX12_host 47 = .ok (.invokevirtual 140, 3) := by decide +kernel
theorem dX12_host_50 : decode cX12_host 50 = .ok (.ireturn, 1) := by decide +kernel
theorem dX12_host_51 : decode cX12_host 51 = .ok (.aload_n 0, 1) := by decide +kernel
theorem dX12_host_52 : decode cX12_host 52 = .ok (.getfield 117, 3) := by decide +kernel
theorem dX12_host_55 : decode cX12_host 55 = .ok (.iconst 1, 1) := by decide +kernel
theorem dX12_host_56 : decode cX12_host 56 = .ok (.iload_n 1, 1) := by decide +kernel
theorem dX12_host_57 : decode cX12_host 57 = .ok (.ishl, 1) := by decide +kernel
theorem dX12_host_58 : decode cX12_host 58 = .ok (.if_icmp .ne 10, 3) := by decide +kernel
theorem dX12_host_61 : decode cX12_host 61 = .ok (.aload_n 0, 1) := by decide +kernel
theorem dX12_host_62 : decode cX12_host 62 = .ok (.bipush (-5), 2) := by decide +kernel
theorem dX12_host_64 : decode cX12_host 64 = .ok (.invokevirtual 140, 3) := by decide +kernel
theorem dX12_host_67 : decode cX12_host 67 = .ok (.ireturn, 1) := by decide +kernel
theorem dX12_host_68 : decode cX12_host 68 = .ok (.aload_n 0, 1) := by decide +kernel
theorem dX12_host_69 : decode cX12_host 69 = .ok (.getfield 117, 3) := by decide +kernel
theorem dX12_host_72 : decode cX12_host 72 = .ok (.istore_n 3, 1) := by decide +kernel
theorem dX12_host_73 : decode cX12_host 73 = .ok (.aload_n 0, 1) := by decide +kernel
theorem dX12_host_74 : decode cX12_host 74 = .ok (.dup, 1) := by decide +kernel
theorem dX12_host_75 : decode cX12_host 75 = .ok (.getfield 117, 3) := by decide +kernel
theorem dX12_host_78 : decode cX12_host 78 = .ok (.iconst 1, 1) := by decide +kernel
theorem dX12_host_79 : decode cX12_host 79 = .ok (.iload_n 1, 1) := by decide +kernel
theorem dX12_host_80 : decode cX12_host 80 = .ok (.ishl, 1) := by decide +kernel
theorem dX12_host_81 : decode cX12_host 81 = .ok (.ixor, 1) := by decide +kernel
theorem dX12_host_82 : decode cX12_host 82 = .ok (.putfield 117, 3) := by decide +kernel
theorem dX12_host_85 : decode cX12_host 85 = .ok (.iconst 0, 1) := by decide +kernel
theorem dX12_host_86 : decode cX12_host 86 = .ok (.istore 4, 2) := by decide +kernel
theorem dX12_host_88 : decode cX12_host 88 = .ok (.iconst 0, 1) := by decide +kernel
theorem dX12_host_89 : decode cX12_host 89 = .ok (.istore 5, 2) := by decide +kernel
theorem dX12_host_91 : decode cX12_host 91 = .ok (.iload 5, 2) := by decide +kernel
theorem dX12_host_93 : decode cX12_host 93 = .ok (.aload_n 0, 1) := by decide +kernel
theorem dX12_host_94 : decode cX12_host 94 = .ok (.getfield 173, 3) := by decide +kernel
theorem dX12_host_97 : decode cX12_host 97 = .ok (.if_icmp .ge 80, 3) := by decide +kernel
theorem dX12_host_100 : decode cX12_host 100 = .ok (.sipush 400, 3) := by decide +kernel
theorem dX12_host_103 : decode cX12_host 103 = .ok (.iload 5, 2) := by decide +kernel
theorem dX12_host_105 : decode cX12_host 105 = .ok (.imul, 1) := by decide +kernel
theorem dX12_host_106 : decode cX12_host 106 = .ok (.istore 6, 2) := by decide +kernel
theorem dX12_host_108 : decode cX12_host 108 = .ok (.iload 6, 2) := by decide +kernel
theorem dX12_host_110 : decode cX12_host 110 = .ok (.sipush 400, 3) := by decide +kernel
theorem dX12_host_113 : decode cX12_host 113 = .ok (.iload 5, 2) := by decide +kernel
theorem dX12_host_115 : decode cX12_host 115 = .ok (.imul, 1) := by decide +kernel
theorem dX12_host_116 : decode cX12_host 116 = .ok (.aload_n 0, 1) := by decide +kernel
theorem dX12_host_117 : decode cX12_host 117 = .ok (.getfield 45, 3) := by decide +kernel
theorem dX12_host_120 : decode cX12_host 120 = .ok (.iload 5, 2) := by decide +kernel
theorem dX12_host_122 : decode cX12_host 122 = .ok (.iaload, 1) := by decide +kernel
theorem dX12_host_123 : decode cX12_host 123 = .ok (.iadd, 1) := by decide +kernel
theorem dX12_host_124 : decode cX12_host 124 = .ok (.if_icmp .ge 47, 3) := by decide +kernel
theorem dX12_host_127 : decode cX12_host 127 = .ok (.iload 4, 2) := by decide +kernel
theorem dX12_host_129 : decode cX12_host 129 = .ok (.aload_n 0, 1) := by decide +kernel
theorem dX12_host_130 : decode cX12_host 130 = .ok (.getfield 48, 3) := by decide +kernel
theorem dX12_host_133 : decode cX12_host 133 = .ok (.iload 6, 2) := by decide +kernel
theorem dX12_host_135 : decode cX12_host 135 = .ok (.iaload, 1) := by decide +kernel
theorem dX12_host_136 : decode cX12_host 136 = .ok (.iload_n 3, 1) := by decide +kernel
theorem dX12_host_137 : decode cX12_host 137 = .ok (.invokestatic 302, 3) := by decide +kernel
theorem dX12_host_140 : decode cX12_host 140 = .ok (.aload_n 0, 1) := by decide +kernel
theorem dX12_host_141 : decode cX12_host 141 = .ok (.getfield 48, 3) := by decide +kernel
theorem dX12_host_144 : decode cX12_host 144 = .ok (.iload 6, 2) := by decide +kernel
theorem dX12_host_146 : decode cX12_host 146 = .ok (.iaload, 1) := by decide +kernel
theorem dX12_host_147 : decode cX12_host 147 = .ok (.aload_n 0, 1) := by decide +kernel
theorem dX12_host_148 : decode cX12_host 148 = .ok (.getfield 117, 3) := by decide +kernel
theorem dX12_host_151 : decode cX12_host 151 = .ok (.invokestatic 302, 3) := by decide +kernel
theorem dX12_host_154 : decode cX12_host 154 = .ok (.if_icmp .eq 7, 3) := by decide +kernel
theorem dX12_host_157 : decode cX12_host 157 = .ok (.iconst 1, 1) := by decide +kernel
theorem dX12_host_158 : decode cX12_host 158 = .ok (.goto 4, 3) := by decide +kernel
theorem dX12_host_161 : decode cX12_host 161 = .ok (.iconst 0, 1) := by decide +kernel
theorem dX12_host_162 : decode cX12_host 162 = .ok (.iadd, 1) := by decide +kernel
theorem dX12_host_163 : decode cX12_host 163 = .ok (.istore 4, 2) := by decide +kernel
theorem dX12_host_165 : decode cX12_host 165 = .ok (.iinc 6 1, 3) := by decide +kernel
theorem dX12_host_168 : decode cX12_host 168 = .ok (.goto (-60), 3) := by decide +kernel
theorem dX12_host_171 : decode cX12_host 171 = .ok (.iinc 5 1, 3) := by decide +kernel
theorem dX12_host_174 : decode cX12_host 174 = .ok (.goto (-83), 3) := by decide +kernel
theorem dX12_host_177 : decode cX12_host 177 = .ok (.aload_n 0, 1) := by decide +kernel
theorem dX12_host_178 : decode cX12_host 178 = .ok (.iload 4, 2) := by decide +kernel
theorem dX12_host_180 : decode cX12_host 180 = .ok (.invokevirtual 140, 3) := by decide +kernel
theorem dX12_host_183 : decode cX12_host 183 = .ok (.ireturn, 1) := by decide +kernel
theorem dX12_owner_0 : decode cX12_owner 0 = .ok (.aload_n 0, 1) := by decide +kernel
theorem dX12_owner_1 : decode cX12_owner 1 = .ok (.iconst 0, 1) := by decide +kernel
theorem dX12_owner_2 : decode cX12_owner 2 = .ok (.putfield 120, 3) := by decide +kernel
theorem dX12_owner_5 : decode cX12_owner 5 = .ok (.iload_n 1, 1) := by decide +kernel
theorem dX12_owner_6 : decode cX12_owner 6 = .ok (.i2l, 1) := by decide +kernel
theorem dX12_owner_7 : decode cX12_owner 7 = .ok (.lconst 0, 1) := by decide +kernel
theorem dX12_owner_8 : decode cX12_owner 8 = .ok (.ldc2_w 132, 3) := by decide +kernel
theorem dX12_owner_11 : decode cX12_owner 11 = .ok (.invokestatic 128, 3) := by decide +kernel
theorem dX12_owner_14 : decode cX12_owner 14 = .ok (.ifCond .eq 14, 3) := by decide +kernel
theorem dX12_owner_17 : decode cX12_owner 17 = .ok (.iload_n 1, 1) := by decide +kernel
theorem dX12_owner_18 : decode cX12_owner 18 = .ok (.aload_n 0, 1) := by decide +kernel
theorem dX12_owner_19 : decode cX12_owner 19 = .ok (.getfield 117, 3) := by decide +kernel
theorem dX12_owner_22 : decode cX12_owner 22 = .ok (.invokestatic 302, 3) := by decide +kernel
theorem dX12_owner_25 : decode cX12_owner 25 = .ok (.goto 4, 3) := by decide +kernel
theorem dX12_owner_28 : decode cX12_owner 28 = .ok (.iconst (-1), 1) := by decide +kernel
theorem dX12_owner_29 : decode cX12_owner 29 = .ok (.ireturn, 1) := by decide +kernel
theorem dX12_owns_0 : decode cX12_owns 0 = .ok (.aload_n 0, 1) := by decide +kernel
theorem dX12_owns_1 : decode cX12_owns 1 = .ok (.iconst 0, 1) := by decide +kernel
theorem dX12_owns_2 : decode cX12_owns 2 = .ok (.putfield 120, 3) := by decide +kernel
theorem dX12_owns_5 : decode cX12_owns 5 = .ok (.iload_n 1, 1) := by decide +kernel
theorem dX12_owns_6 : decode cX12_owns 6 = .ok (.i2l, 1) := by decide +kernel
theorem dX12_owns_7 : decode cX12_owns 7 = .ok (.lconst 0, 1) := by decide +kernel
theorem dX12_owns_8 : decode cX12_owns 8 = .ok (.ldc2_w 300, 3) := by decide +kernel
theorem dX12_owns_11 : decode cX12_owns 11 = .ok (.invokestatic 128, 3) := by decide +kernel
theorem dX12_owns_14 : decode cX12_owns 14 = .ok (.ifCond .eq 14, 3) := by decide +kernel
theorem dX12_owns_17 : decode cX12_owns 17 = .ok (.aload_n 0, 1) := by decide +kernel
theorem dX12_owns_18 : decode cX12_owns 18 = .ok (.getfield 117, 3) := by decide +kernel
theorem dX12_owns_21 : decode cX12_owns 21 = .ok (.iload_n 1, 1) := by decide +kernel
theorem dX12_owns_22 : decode cX12_owns 22 = .ok (.ishr, 1) := by decide +kernel
theorem dX12_owns_23 : decode cX12_owns 23 = .ok (.iconst 1, 1) := by decide +kernel
theorem dX12_owns_24 : decode cX12_owns 24 = .ok (.iand, 1) := by decide +kernel
theorem dX12_owns_25 : decode cX12_owns 25 = .ok (.ifCond .ne 5, 3) := by decide +kernel
theorem dX12_owns_28 : decode cX12_owns 28 = .ok (.iconst (-1), 1) := by decide +kernel
theorem dX12_owns_29 : decode cX12_owns 29 = .ok (.ireturn, 1) := by decide +kernel
theorem dX12_owns_30 : decode cX12_owns 30 = .ok (.iconst 0, 1) := by decide +kernel
theorem dX12_owns_31 : decode cX12_owns 31 = .ok (.istore_n 2, 1) := by decide +kernel
theorem dX12_owns_32 : decode cX12_owns 32 = .ok (.iconst 0, 1) := by decide +kernel
theorem dX12_owns_33 : decode cX12_owns 33 = .ok (.istore_n 3, 1) := by decide +kernel
theorem dX12_owns_34 : decode cX12_owns 34 = .ok (.iload_n 3, 1) := by decide +kernel
theorem dX12_owns_35 : decode cX12_owns 35 = .ok (.aload_n 0, 1) := by decide +kernel
theorem dX12_owns_36 : decode cX12_owns 36 = .ok (.getfield 173, 3) := by decide +kernel
theorem dX12_owns_39 : decode cX12_owns 39 = .ok (.if_icmp .ge 65, 3) := by decide +kernel
theorem dX12_owns_42 : decode cX12_owns 42 = .ok (.sipush 400, 3) := by decide +kernel
theorem dX12_owns_45 : decode cX12_owns 45 = .ok (.iload_n 3, 1) := by decide +kernel
theorem dX12_owns_46 : decode cX12_owns 46 = .ok (.imul, 1) := by decide +kernel
theorem dX12_owns_47 : decode cX12_owns 47 = .ok (.istore 4, 2) := by decide +kernel
theorem dX12_owns_49 : decode cX12_owns 49 = .ok (.iload 4, 2) := by decide +kernel
theorem dX12_owns_51 : decode cX12_owns 51 = .ok (.sipush 400, 3) := by decide +kernel
theorem dX12_owns_54 : decode cX12_owns 54 = .ok (.iload_n 3, 1) := by decide +kernel
theorem dX12_owns_55 : decode cX12_owns 55 = .ok (.imul, 1) := by decide +kernel
theorem dX12_owns_56 : decode cX12_owns 56 = .ok (.aload_n 0, 1) := by decide +kernel
theorem dX12_owns_57 : decode cX12_owns 57 = .ok (.getfield 45, 3) := by decide +kernel
theorem dX12_owns_60 : decode cX12_owns 60 = .ok (.iload_n 3, 1) := by decide +kernel
theorem dX12_owns_61 : decode cX12_owns 61 = .ok (.iaload, 1) := by decide +kernel
theorem dX12_owns_62 : decode cX12_owns 62 = .ok (.iadd, 1) := by decide +kernel
theorem dX12_owns_63 : decode cX12_owns 63 = .ok (.if_icmp .ge 35, 3) := by decide +kernel
theorem dX12_owns_66 : decode cX12_owns 66 = .ok (.iload_n 2, 1) := by decide +kernel
theorem dX12_owns_67 : decode cX12_owns 67 = .ok (.aload_n 0, 1) := by decide +kernel
theorem dX12_owns_68 : decode cX12_owns 68 = .ok (.getfield 48, 3) := by decide +kernel
theorem dX12_owns_71 : decode cX12_owns 71 = .ok (.iload 4, 2) := by decide +kernel
theorem dX12_owns_73 : decode cX12_owns 73 = .ok (.iaload, 1) := by decide +kernel
theorem dX12_owns_74 : decode cX12_owns 74 = .ok (.aload_n 0, 1) := by decide +kernel
theorem dX12_owns_75 : decode cX12_owns 75 = .ok (.getfield 117, 3) := by decide +kernel
theorem dX12_owns_78 : decode cX12_owns 78 = .ok (.invokestatic 302, 3) := by decide +kernel
theorem dX12_owns_81 : decode cX12_owns 81 = .ok (.iload_n 1, 1) := by decide +kernel
theorem dX12_owns_82 : decode cX12_owns 82 = .ok (.if_icmp .ne 7, 3) := by decide +kernel
theorem dX12_owns_85 : decode cX12_owns 85 = .ok (.iconst 1, 1) := by decide +kernel
theorem dX12_owns_86 : decode cX12_owns 86 = .ok (.goto 4, 3) := by decide +kernel
theorem dX12_owns_89 : decode cX12_owns 89 = .ok (.iconst 0, 1) := by decide +kernel
theorem dX12_owns_90 : decode cX12_owns 90 = .ok (.iadd, 1) := by decide +kernel
theorem dX12_owns_91 : decode cX12_owns 91 = .ok (.istore_n 2, 1) := by decide +kernel
theorem dX12_owns_92 : decode cX12_owns 92 = .ok (.iinc 4 1, 3) := by decide +kernel
theorem dX12_owns_95 : decode cX12_owns 95 = .ok (.goto (-46), 3) := by decide +kernel
theorem dX12_owns_98 : decode cX12_owns 98 = .ok (.iinc 3 1, 3) := by decide +kernel
theorem dX12_owns_101 : decode cX12_owns 101 = .ok (.goto (-67), 3) := by decide +kernel
theorem dX12_owns_104 : decode cX12_owns 104 = .ok (.iload_n 2, 1) := by decide +kernel
theorem dX12_owns_105 : decode cX12_owns 105 = .ok (.ireturn, 1) := by decide +kernel
theorem dX12_count_0 : decode cX12_count 0 = .ok (.aload_n 0, 1) := by decide +kernel
theorem dX12_count_1 : decode cX12_count 1 = .ok (.iconst 0, 1) := by decide +kernel
theorem dX12_count_2 : decode cX12_count 2 = .ok (.putfield 120, 3) := by decide +kernel
theorem dX12_count_5 : decode cX12_count 5 = .ok (.iload_n 1, 1) := by decide +kernel
theorem dX12_count_6 : decode cX12_count 6 = .ok (.tableswitch 155 0 8 #[50, 55, 60, 97, 102, 131, 136, 141, 150], 50) := by decide +kernel
theorem dX12_count_56 : decode cX12_count 56 = .ok (.aload_n 0, 1) := by decide +kernel
theorem dX12_count_57 : decode cX12_count 57 = .ok (.getfield 144, 3) := by decide +kernel
theorem dX12_count_60 : decode cX12_count 60 = .ok (.ireturn, 1) := by decide +kernel
theorem dX12_count_61 : decode cX12_count 61 = .ok (.aload_n 0, 1) := by decide +kernel
theorem dX12_count_62 : decode cX12_count 62 = .ok (.getfield 187, 3) := by decide +kernel
theorem dX12_count_65 : decode cX12_count 65 = .ok (.ireturn, 1) := by decide +kernel
theorem dX12_count_66 : decode cX12_count 66 = .ok (.iconst 0, 1) := by decide +kernel
theorem dX12_count_67 : decode cX12_count 67 = .ok (.istore_n 2, 1) := by decide +kernel
theorem dX12_count_68 : decode cX12_count 68 = .ok (.iconst 0, 1) := by decide +kernel
theorem dX12_count_69 : decode cX12_count 69 = .ok (.istore_n 3, 1) := by decide +kernel
theorem dX12_count_70 : decode cX12_count 70 = .ok (.iload_n 3, 1) := by decide +kernel
theorem dX12_count_71 : decode cX12_count 71 = .ok (.aload_n 0, 1) := by decide +kernel
theorem dX12_count_72 : decode cX12_count 72 = .ok (.getfield 187, 3) := by decide +kernel
theorem dX12_count_75 : decode cX12_count 75 = .ok (.if_icmp .ge 26, 3) := by decide +kernel
theorem dX12_count_78 : decode cX12_count 78 = .ok (.iload_n 2, 1) := by decide +kernel
theorem dX12_count_79 : decode cX12_count 79 = .ok (.aload_n 0, 1) := by decide +kernel
theorem dX12_count_80 : decode cX12_count 80 = .ok (.getfield 22, 3) := by decide +kernel
theorem dX12_count_83 : decode cX12_count 83 = .ok (.iload_n 3, 1) := by decide +kernel
theorem dX12_count_84 : decode cX12_count 84 = .ok (.baload, 1) := by decide +kernel
theorem dX12_count_85 : decode cX12_count 85 = .ok (.ifCond .eq 7, 3) := by decide +kernel
theorem dX12_count_88 : decode cX12_count 88 = .ok (.iconst 1, 1) := by decide +kernel
theorem dX12_count_89 : decode cX12_count 89 = .ok (.goto 4, 3) := by decide +kernel
theorem dX12_count_92 : decode cX12_count 92 = .ok (.iconst 0, 1) := by decide +kernel
theorem dX12_count_93 : decode cX12_count 93 = .ok (.iadd, 1) := by decide +kernel
theorem dX12_count_94 : decode cX12_count 94 = .ok (.istore_n 2, 1) := by decide +kernel
theorem dX12_count_95 : decode cX12_count 95 = .ok (.iinc 3 1, 3) := by decide +kernel
theorem dX12_count_98 : decode cX12_count 98 = .ok (.goto (-28), 3) := by decide +kernel
theorem dX12_count_101 : decode cX12_count 101 = .ok (.iload_n 2, 1) := by decide +kernel
theorem dX12_count_102 : decode cX12_count 102 = .ok (.ireturn, 1) := by decide +kernel
theorem dX12_count_103 : decode cX12_count 103 = .ok (.aload_n 0, 1) := by decide +kernel
theorem dX12_count_104 : decode cX12_count 104 = .ok (.getfield 173, 3) := by decide +kernel
theorem dX12_count_107 : decode cX12_count 107 = .ok (.ireturn, 1) := by decide +kernel
theorem dX12_count_108 : decode cX12_count 108 = .ok (.iconst 0, 1) := by decide +kernel
theorem dX12_count_109 : decode cX12_count 109 = .ok (.istore_n 2, 1) := by decide +kernel
theorem dX12_count_110 : decode cX12_count 110 = .ok (.iconst 0, 1) := by decide +kernel
theorem dX12_count_111 : decode cX12_count 111 = .ok (.istore_n 3, 1) := by decide +kernel
theorem dX12_count_112 : decode cX12_count 112 = .ok (.iload_n 3, 1) := by decide +kernel
theorem dX12_count_113 : decode cX12_count 113 = .ok (.bipush 8, 2) := by decide +kernel
theorem dX12_count_115 : decode cX12_count 115 = .ok (.if_icmp .ge 20, 3) := by decide +kernel
theorem dX12_count_118 : decode cX12_count 118 = .ok (.iload_n 2, 1) := by decide +kernel
theorem dX12_count_119 : decode cX12_count 119 = .ok (.aload_n 0, 1) := by decide +kernel
theorem dX12_count_120 : decode cX12_count 120 = .ok (.getfield 117, 3) := by decide +kernel
theorem dX12_count_123 : decode cX12_count 123 = .ok (.iload_n 3, 1) := by decide +kernel
theorem dX12_count_124 : decode cX12_count 124 = .ok (.ishr, 1) := by decide +kernel
theorem dX12_count_125 : decode cX12_count 125 = .ok (.iconst 1, 1) := by decide +kernel
theorem dX12_count_126 : decode cX12_count 126 = .ok (.iand, 1) := by decide +kernel
theorem dX12_count_127 : decode cX12_count 127 = .ok (.iadd, 1) := by decide +kernel
theorem dX12_count_128 : decode cX12_count 128 = .ok (.istore_n 2, 1) := by decide +kernel
theorem dX12_count_129 : decode cX12_count 129 = .ok (.iinc 3 1, 3) := by decide +kernel
theorem dX12_count_132 : decode cX12_count 132 = .ok (.goto (-20), 3) := by decide +kernel
theorem dX12_count_135 : decode cX12_count 135 = .ok (.iload_n 2, 1) := by decide +kernel
theorem dX12_count_136 : decode cX12_count 136 = .ok (.ireturn, 1) := by decide +kernel
theorem dX12_count_137 : decode cX12_count 137 = .ok (.aload_n 0, 1) := by decide +kernel
theorem dX12_count_138 : decode cX12_count 138 = .ok (.getfield 184, 3) := by decide +kernel
theorem dX12_count_141 : decode cX12_count 141 = .ok (.ireturn, 1) := by decide +kernel
theorem dX12_count_142 : decode cX12_count 142 = .ok (.aload_n 0, 1) := by decide +kernel
theorem dX12_count_143 : decode cX12_count 143 = .ok (.getfield 223, 3) := by decide +kernel
theorem dX12_count_146 : decode cX12_count 146 = .ok (.ireturn, 1) := by decide +kernel
theorem dX12_count_147 : decode cX12_count 147 = .ok (.aload_n 0, 1) := by decide +kernel
theorem dX12_count_148 : decode cX12_count 148 = .ok (.aload_n 0, 1) := by decide +kernel
theorem dX12_count_149 : decode cX12_count 149 = .ok (.getfield 187, 3) := by decide +kernel
theorem dX12_count_152 : decode cX12_count 152 = .ok (.invokevirtual 190, 3) := by decide +kernel
theorem dX12_count_155 : decode cX12_count 155 = .ok (.ireturn, 1) := by decide +kernel
theorem dX12_count_156 : decode cX12_count 156 = .ok (.aload_n 0, 1) := by decide +kernel
theorem dX12_count_157 : decode cX12_count 157 = .ok (.getfield 209, 3) := by decide +kernel
theorem dX12_count_160 : decode cX12_count 160 = .ok (.ireturn, 1) := by decide +kernel
theorem dX12_count_161 : decode cX12_count 161 = .ok (.iconst (-1), 1) := by decide +kernel
theorem dX12_count_162 : decode cX12_count 162 = .ok (.ireturn, 1) := by decide +kernel
theorem dX12_status_0 : decode cX12_status 0 = .ok (.aload_n 0, 1) := by decide +kernel
theorem dX12_status_1 : decode cX12_status 1 = .ok (.iconst 0, 1) := by decide +kernel
theorem dX12_status_2 : decode cX12_status 2 = .ok (.putfield 120, 3) := by decide +kernel
theorem dX12_status_5 : decode cX12_status 5 = .ok (.aload_n 0, 1) := by decide +kernel
theorem dX12_status_6 : decode cX12_status 6 = .ok (.getfield 123, 3) := by decide +kernel
theorem dX12_status_9 : decode cX12_status 9 = .ok (.ireturn, 1) := by decide +kernel
end
section
/-! ===== numbers: every int is iZ of an integer, every long lZ of one ===== -/
def iZ (z : Int) : Int32 := Int32.ofInt z
def lZ (z : Int) : Int64 := Int64.ofInt z
theorem iZ_toInt {a : Int} (h : -2147483648 ≤ a ∧ a < 2147483648) : (iZ a).toInt = a := Int32.toInt_ofInt_of_le (by omega) (by omega)
theorem lZ_toInt {a : Int} (h : -9223372036854775808 ≤ a ∧ a < 9223372036854775808) : (lZ a).toInt = a := Int64.toInt_ofInt_of_le (by omega) (by omega)
theorem iZ_of (x : Int32) : x = iZ x.toInt := (Int32.ofInt_toInt x).symm
theorem lZ_of (x : Int64) : x = lZ x.toInt := (Int64.ofInt_toInt x).symm
theorem iZ_rng (x : Int32) : -2147483648 ≤ x.toInt ∧ x.toInt < 2147483648 := by
  have h1 := Int32.le_toInt x
  have h2 := Int32.toInt_lt x
  omega
theorem iZ_add (a b : Int) : iZ a + iZ b = iZ (a + b) := by
  apply Int32.toInt_inj.1
  simp only [iZ, Int32.toInt_add, Int32.toInt_ofInt]
  simp [Int32.size, Int.add_bmod]
theorem iZ_sub (a b : Int) : iZ a - iZ b = iZ (a - b) := by
  apply Int32.toInt_inj.1
  simp only [iZ, Int32.toInt_sub, Int32.toInt_ofInt]
  simp [Int32.size, Int.sub_bmod]
theorem iZ_mul (a b : Int) : iZ a * iZ b = iZ (a * b) := by
  apply Int32.toInt_inj.1
  simp only [iZ, Int32.toInt_mul, Int32.toInt_ofInt]
  simp [Int32.size, Int.mul_bmod]
theorem iZ_neg (a : Int) : -iZ a = iZ (-a) := by
  have h := iZ_sub 0 a
  rw [Int.zero_sub] at h
  rw [← h]
  show -iZ a = (0 : Int32) - iZ a
  rw [Int32.zero_sub]
theorem lZ_add (a b : Int) : lZ a + lZ b = lZ (a + b) := by
  apply Int64.toInt_inj.1
  simp only [lZ, Int64.toInt_add, Int64.toInt_ofInt]
  simp [Int64.size, Int.add_bmod]
theorem lZ_sub (a b : Int) : lZ a - lZ b = lZ (a - b) := by
  apply Int64.toInt_inj.1
  simp only [lZ, Int64.toInt_sub, Int64.toInt_ofInt]
  simp [Int64.size, Int.sub_bmod]
theorem lZ_mul (a b : Int) : lZ a * lZ b = lZ (a * b) := by
  apply Int64.toInt_inj.1
  simp only [lZ, Int64.toInt_mul, Int64.toInt_ofInt]
  simp [Int64.size, Int.mul_bmod]
theorem iZ_lt {a b : Int} (ha : -2147483648 ≤ a ∧ a < 2147483648) (hb : -2147483648 ≤ b ∧ b < 2147483648) : iZ a < iZ b ↔ a < b := by
  rw [Int32.lt_iff_toInt_lt, iZ_toInt ha, iZ_toInt hb]
theorem iZ_le {a b : Int} (ha : -2147483648 ≤ a ∧ a < 2147483648) (hb : -2147483648 ≤ b ∧ b < 2147483648) : iZ a ≤ iZ b ↔ a ≤ b := by
  rw [Int32.le_iff_toInt_le, iZ_toInt ha, iZ_toInt hb]
theorem iZ_eq {a b : Int} (ha : -2147483648 ≤ a ∧ a < 2147483648) (hb : -2147483648 ≤ b ∧ b < 2147483648) : iZ a = iZ b ↔ a = b := by
  rw [← Int32.toInt_inj, iZ_toInt ha, iZ_toInt hb]
theorem iZ_0 : (0 : Int32) = iZ 0 := by decide
theorem iZ_l {a : Int} (ha : -2147483648 ≤ a ∧ a < 2147483648) : (iZ a).toInt64 = lZ a := by
  apply Int64.toInt_inj.1
  rw [Int32.toInt_toInt64, iZ_toInt ha, lZ_toInt (by omega)]
theorem lZ_i (a : Int) : (lZ a).toInt32 = iZ a := Int64.toInt32_ofInt
theorem iZ_cl {a : Int} (h : 0 ≤ a ∧ a < 2147483648) : (iZ a).toNatClampNeg = a.toNat := by
  show (iZ a).toInt.toNat = a.toNat
  rw [iZ_toInt (by omega)]
theorem iZ_in {a : Int} {n : Nat} (h : 0 ≤ a ∧ a < n) (hn : n < 2147483648) : vp_in (iZ a) n := by
  rw [vp_in_iff, iZ_toInt (by omega)]
  exact h
theorem iZ_nI (n : Nat) : nI n = iZ n := by
  show Int32.ofNat n = Int32.ofInt n
  first | rfl | simp
theorem iZ_rem {a b : Int} (ha : 0 ≤ a ∧ a < 2147483648) (hb : 0 < b ∧ b < 2147483648) : iZ a - iZ a / iZ b * iZ b = iZ (a % b) := by
  obtain ⟨n, rfl⟩ := Int.eq_ofNat_of_zero_le ha.1
  obtain ⟨d, rfl⟩ := Int.eq_ofNat_of_zero_le (Int.le_of_lt hb.1)
  have h := pk_rem (a := n) (d := d) (by omega) (by omega) (by omega)
  rw [iZ_nI, iZ_nI, iZ_nI] at h
  rw [h]
  congr 1
def cI (a b : Int) : Int := if b < a then 1 else if a = b then 0 else -1
theorem cI_eq {a b : Int} : cI a b = 0 ↔ a = b := by unfold cI; split <;> (try split) <;> omega
theorem cI_lt {a b : Int} : cI a b < 0 ↔ a < b := by unfold cI; split <;> (try split) <;> omega
theorem cI_le {a b : Int} : cI a b ≤ 0 ↔ a ≤ b := by unfold cI; split <;> (try split) <;> omega
theorem cI_rng (a b : Int) : -1 ≤ cI a b ∧ cI a b ≤ 1 := by unfold cI; split <;> (try split) <;> omega
theorem lZ_cmp {a b : Int} (ha : -9223372036854775808 ≤ a ∧ a < 9223372036854775808) (hb : -9223372036854775808 ≤ b ∧ b < 9223372036854775808) : lg_cmp (lZ a) (lZ b) = iZ (cI a b) := by
  unfold lg_cmp cI
  simp only [gt_iff_lt, Int64.lt_iff_toInt_lt, ← Int64.toInt_inj, lZ_toInt ha, lZ_toInt hb]
  split
  · rfl
  · split <;> rfl
/-! ===== the words: all good ones of the tables ===== -/
def gw_tbl : List Cond := lw_tbl.filter goodWord
theorem gm {w : Cond} (i : Nat) (h : lw_tbl[i]? = some w) (hg : goodWord w = true) : w ∈ gw_tbl := List.mem_filter.mpr ⟨List.mem_of_getElem? h, hg⟩
theorem gms {ws : List Cond} (ps : List Nat) (h : ps.filterMap (fun i => lw_tbl[i]?) = ws) (hg : ws.all goodWord = true) : ∀ w ∈ ws, w ∈ gw_tbl := by
  intro w hw
  have h1 := List.all_eq_true.mp hg w hw
  rw [← h] at hw
  obtain ⟨i, -, hi⟩ := List.mem_filterMap.mp hw
  exact gm i hi h1
theorem gw_good {w : Cond} (h : w ∈ gw_tbl) : (w.onTables && w.keeps) = true ∨ ∃ ty, w = .arrayClass ty := good_of_word (List.mem_filter.mp h).2
theorem gw_app {big ws vs : List Cond} (hb : ∀ w ∈ gw_tbl, w ∈ big) (hv : ∀ w ∈ vs, w ∈ gw_tbl) (hw : ∀ w ∈ ws, w ∈ gw_tbl) : GoodIn big (vs ++ ws) := fun w h => by
  rcases List.mem_append.mp h with h | h
  · exact ⟨hb w (hv w h), gw_good (hv w h)⟩
  · exact ⟨hb w (hw w h), gw_good (hw w h)⟩
theorem gw_ws {c : Cond} (h : c ∈ gw_tbl) : ∀ w ∈ c :: gw_tbl, w ∈ gw_tbl := fun w hw => by
  rcases List.mem_cons.mp hw with rfl | h2
  · exact h
  · exact h2
/-! ===== the heap: a map of addresses ===== -/
abbrev Hp : Type := Nat → va_E
def eN : va_E := .inr (999, [])
def jdom (L : List Nat) (f : Hp) : Prop := ∀ a, a ∈ L ↔ f a ≠ eN
def AF (f : Hp) (sz : Nat) : Nat → Prop := fun q => f q ≠ eN ∨ sz ≤ q
abbrev JE : Type := va_G × (Nat → ClassId) × (Nat → Nat) × (Nat → Nat)
abbrev tysK (K : Nat → ClassId) : List (ClassId × FieldType) := [(K 0, .int), (K 1, .long), (K 2, .boolean), (K 3, .char), (K 4, .object "TableStreams$Rows"), (K 5, .object "TableStreams$Making")]
def nestQ : List (String × Nat × MethodName) := [(RX5, 17, yX3_init), (RX5, 22, yX11_isWithin), (RX4, 155, yX11_isWithin), (RX2, 23, yX11_isWithin), (RX9, 50, yX11_isWithin), (RX8, 23, yX11_isWithin), (RX0, 19, yX11_isWithin), (RX1, 23, yX11_isWithin)]
def jN (U : State) : Prop := (∀ q ∈ nestQ, va_Nw (.methodLinkNest q.1 q.2.1 q.2.2 "TableStreams") U) ∧ va_AO "TableStreams$Rows" U ∧ va_AO "TableStreams$Making" U
def nJS : Nat := 16
def strQ : List (Nat × String) := [(82, "source"), (84, "where"), (86, "plus"), (88, "times"), (90, "rekey"), (92, "window"), (94, "ever"), (96, "sum"), (98, "count"), (100, "max"), (102, "last"), (104, "join"), (106, "less"), (136, "key"), (141, "value"), (143, "time")]
def lenJS : List Nat := [6, 5, 4, 5, 5, 6, 4, 3, 5, 3, 4, 4, 4, 3, 5, 4]
def bytJS : List (List Int32) := [[115, 111, 117, 114, 99, 101], [119, 104, 101, 114, 101], [112, 108, 117, 115], [116, 105, 109, 101, 115], [114, 101, 107, 101, 121], [119, 105, 110, 100, 111, 119], [101, 118, 101, 114], [115, 117, 109], [99, 111, 117, 110, 116], [109, 97, 120], [108, 97, 115, 116], [106, 111, 105, 110], [108, 101, 115, 115], [107, 101, 121], [118, 97, 108, 117, 101], [116, 105, 109, 101]]
def jR (E : JE) (U : State) : Prop := ∀ (i : Nat) (q : Nat × String), strQ[i]? = some q → vk_R RX4 q.1 q.2 (E.2.2.1 i) U
def jS (E : JE) (A : Nat → Prop) (U : State) (H : Heap) : Prop := vk_S nJS lenJS bytJS E.2.2.1 E.2.2.2 A U H ∧ va_Z "java/lang/String" "COMPACT_STRINGS" "Z" (.int 1) A U H
theorem jN.warm {s U : State} (h : s.WarmedH U.vm) (hn : jN s) : jN U := ⟨fun q hq => va_Nw.warmM h (hn.1 q hq), hn.2.1.moved h.alike, hn.2.2.moved h.alike⟩
theorem jR.warm {E : JE} {s U : State} (h : s.WarmedH U.vm) (hn : jR E s) : jR E U := fun i q hq => vk_R.warm h (hn i q hq)
theorem jS.moved {E : JE} {A : Nat → Prop} {u U : State} {H : Heap} (hvm : u.vm.Alike U.vm) (h : jS E A u H) : jS E A U H := ⟨h.1.moved hvm, h.2.moved hvm⟩
theorem jS.kept {E : JE} {A : Nat → Prop} {U : State} {H H1 : Heap} (h : jS E A U H) (hq : ∀ a : Nat, a < H.size → ¬ A a → H1[a]? = H[a]?) : jS E A U H1 := ⟨h.1.kept hq, h.2.kept hq⟩
theorem jS.narrow {E : JE} {A B : Nat → Prop} {U : State} {H : Heap} (h : jS E A U H) (hAB : ∀ q, B q → A q) : jS E B U H := ⟨h.1.narrow hAB, h.2.narrow hAB⟩
end
section
/-! ===== the walk: a judgement over the map ===== -/
abbrev JG : Type := Program × Launch × Env × Room × State × MethodId × Array Value × List Frame × Method × Code × JE × (Nat → Prop) × (State → Prop)
def J (G : JG) (k n : Nat) (f : Hp) (pc : Nat) (lv : List (Nat × Value)) (st : List Value) : Prop :=
  match G with
  | (p, l, e, R, s, m, args, below, meth, c, E, A, Z) => ∀ (L : List Nat) (H : Heap) (locs : List Loc) (ls : Array Slot), jdom L f → va_P E.1 vwCl (va_pl L f) H → va_D A (va_pl L f) → va_S A s.heap H locs → lv_has ls c.maxLocals lv → W p l e R s m args below meth c H locs k n Z (F0 m pc ls st)
/-- what holds of a method's walk -/
def jX (G : JG) (l : Launch) (E : JE) (cc : ByteArray) (own : String) (nL : Nat) (rm : Room) : Prop :=
  match G with
  | (p, l', _, R, s, m, args, _, meth, c, E', A, _) => l' = l ∧ E' = E ∧ R = rm ∧ p.tables.exec = Jvm.exec ∧ c.code = cc ∧ c.maxLocals = nL ∧ s.vm.findClass own = some m.cls ∧ meth.locks = false ∧ (∀ w ∈ gw_tbl, w.before args s = true) ∧ va_K E.1 vwCl (tysK E.2.1) s ∧ (∀ q, s.heap.size ≤ q → A q) ∧ jN s ∧ jR E s ∧ jS E A s s.heap
def jQ (E : JE) (P : Option Value → Hp → Prop) (A : Nat → Prop) : Array Value → State → Outcome → State → Prop := fun _ st oc t => (∃ (v : Option Value) (f' : Hp) (L : List Nat), oc = .returned v ∧ P v f' ∧ jdom L f' ∧ va_P E.1 vwCl (va_pl L f') t.heap ∧ va_D A (va_pl L f')) ∧ va_F A st t
/-- how it ends -/
def jZ (G : JG) (ret : Option FieldType) (P : Option Value → Hp → Prop) : Prop :=
  match G with
  | (_, _, _, R, s, _, args, below, meth, _, E, A, Z) => Z = MQ below (jQ E P A) args s R.cells R.slots A ∧ meth.sig.returnType = ret
def jPre (E : JE) (f : Hp) (sz : Nat) (U : State) : Prop := U.heap.size = sz ∧ (∃ L, jdom L f ∧ va_P E.1 vwCl (va_pl L f) U.heap ∧ va_D (fun _ => True) (va_pl L f)) ∧ va_K E.1 vwCl (tysK E.2.1) U ∧ jN U ∧ jR E U ∧ jS E (AF f sz) U U.heap
/-- a method's contract: from the map f, with the values av -/
def Ct (l : Launch) (E : JE) (y : MethodName) (cc : ByteArray) (maxL : Nat) (ret : Option FieldType) (rm : Room) (av : List Value) (f : Hp) (P : Option Value → Hp → Prop) : Prop :=
  ∀ sz : Nat, Met l y (Cond.code y cc maxL ret :: gw_tbl) rm (va_Pc av (jPre E f sz)) (jQ E P (AF f sz)) rm.cells rm.slots (AF f sz)
theorem jPre_blind {E : JE} {f : Hp} {sz : Nat} {av : List Value} : FrameBlind (va_Pc av (jPre E f sz)) := by
  intro a U g mk h
  obtain ⟨h0, h1, h2, h3, h4, h5, h6⟩ := h
  refine ⟨h0, h1, h2, va_K.moved (u := U) (U := U.calling g mk a) (Vm.Alike.refl U.vm) h3, ?_, ?_, ?_⟩
  · exact ⟨fun q hq => va_Nw.same rfl (u := U) (U := U.calling g mk a) rfl (h4.1 q hq), h4.2.1.moved (u := U) (U := U.calling g mk a) (Vm.Alike.refl U.vm), h4.2.2.moved (u := U) (U := U.calling g mk a) (Vm.Alike.refl U.vm)⟩
  · exact fun i q hq => vk_R.same (u := U) (U := U.calling g mk a) rfl (h5 i q hq)
  · exact jS.moved (u := U) (U := U.calling g mk a) (Vm.Alike.refl U.vm) h6
theorem ct_of {l : Launch} {E : JE} {y : MethodName} {cc : ByteArray} {maxL : Nat} {ret : Option FieldType} {rm : Room} {av : List Value} {f : Hp} {P : Option Value → Hp → Prop} {own : String} {lv : List (Nat × Value)} (hy : plainName y.cls = true) (hown : y.cls = own) (hl : (lg_sl av).length ≤ maxL) (hlv : lv_args 0 av = lv)
    (body : ∀ G : JG, jX G l E cc own maxL rm → jZ G ret P → J G 0 0 f 0 lv []) : Ct l E y cc maxL ret rm av f P := by
  intro sz
  refine Met.ofW (cc := cc) (maxL := maxL) (ret := ret) hy rfl ?_
  intro p e s m args below meth c s₁ B hml hv
  obtain ⟨rfl, hsz, ⟨L, hdm, hP, hD⟩, hK, hN, hR, hSS⟩ := hv
  subst hsz
  subst hown
  have hts := atoms_spec (ws := Cond.code y cc maxL ret :: gw_tbl) B.pre
  have hA : ∀ q : Nat, s.heap.size ≤ q → AF f s.heap.size q := fun q h => Or.inr h
  have hD2 : va_D (AF f s.heap.size) (va_pl L f) := ⟨hD.1, fun k q hq => by
    obtain ⟨a, ha, rfl⟩ := List.mem_map.mp (List.mem_of_getElem? hq)
    exact Or.inl ((hdm a).mp ha)⟩
  have b := body (p, l, e, rm, s, m, av.toArray, below, meth, c, E, AF f s.heap.size, MQ below (jQ E P (AF f s.heap.size)) av.toArray s rm.cells rm.slots (AF f s.heap.size)) ⟨rfl, rfl, rfl, B.exec, B.bytes, hml, findClass_of_methodNamed B.named, B.notSynchronized, fun w hw => hts w (List.mem_cons_of_mem _ hw), hK, hA, hN, hR, hSS⟩ ⟨rfl, B.returns⟩
  rw [lg_entry_eq]
  have hle := lv_entry av (n := maxL) hl
  rw [hlv] at hle
  exact b L s.heap [] _ hdm hP hD2 va_S.rf (by rw [hml]; exact hle)
/-! locals -/
def lget (lv : List (Nat × Value)) (i : Nat) : Option Value := (lv.find? (fun q => q.1 == i)).map (fun q => q.2)
def lput (lv : List (Nat × Value)) (i w : Nat) (v : Value) : List (Nat × Value) := lv.filter (fun q => Nat.blt q.1 i && !(q.1 + 1 == i && q.2.category == 2)) ++ (i, v) :: lv.filter (fun q => Nat.blt (i + w) (q.1 + 1))
theorem lget_at {ls : Array Slot} {nL : Nat} {lv : List (Nat × Value)} {i : Nat} {v : Value} (h : lv_has ls nL lv) (hg : lget lv i = some v) : ls[i]? = some (.val v) := by
  unfold lget at hg
  cases hf : lv.find? (fun q => q.1 == i) with
  | none => rw [hf] at hg; cases hg
  | some q =>
    rw [hf] at hg
    have h1 : q.2 = v := Option.some.inj hg
    have h2 : q.1 = i := by simpa using List.find?_some hf
    have h3 := h.2.2 q (List.mem_of_find?_eq_some hf)
    rw [h1, h2] at h3
    exact h3
theorem lput_has {ls : Array Slot} {nL : Nat} {lv lv' : List (Nat × Value)} {i w : Nat} {v : Value} (hl : lput lv i w v = lv') (hw : w = 1 ∨ w = 2) (h : lv_has ls nL ((i, v) :: lv.filter (fun q => !(q.1 == i) && (w == 1 || !(q.1 == i + 1)) && !(q.1 + 1 == i && q.2.category == 2)))) : lv_has ls nL lv' := by
  refine ⟨h.1, h.2.1, fun q hq => h.2.2 q ?_⟩
  rw [← hl] at hq
  unfold lput at hq
  rcases List.mem_append.mp hq with h1 | h1
  · obtain ⟨h2, h3⟩ := List.mem_filter.mp h1
    refine List.mem_cons_of_mem _ (List.mem_filter.mpr ⟨h2, ?_⟩)
    simp only [Bool.and_eq_true, Nat.blt_eq] at h3
    obtain ⟨h3, h4⟩ := h3
    have e1 : (q.1 == i) = false := by simp; omega
    have e2 : (q.1 == i + 1) = false := by simp; omega
    rw [e1, e2, h4]
    simp
  · rcases List.mem_cons.mp h1 with rfl | h1
    · exact List.mem_cons_self
    · obtain ⟨h2, h3⟩ := List.mem_filter.mp h1
      refine List.mem_cons_of_mem _ (List.mem_filter.mpr ⟨h2, ?_⟩)
      simp only [Nat.blt_eq] at h3
      have e1 : (q.1 == i) = false := by simp; omega
      have e3 : (q.1 + 1 == i) = false := by simp; omega
      rw [e1, e3]
      rcases hw with rfl | rfl
      · simp
      · have e2 : (q.1 == i + 1) = false := by simp; omega
        rw [e2]; simp
theorem fil_1 (lv : List (Nat × Value)) (i : Nat) : lv.filter (fun q => !(q.1 == i) && !(q.1 + 1 == i && q.2.category == 2)) = lv.filter (fun q => !(q.1 == i) && (1 == 1 || !(q.1 == i + 1)) && !(q.1 + 1 == i && q.2.category == 2)) := by simp
theorem fil_2 (lv : List (Nat × Value)) (i : Nat) : lv.filter (fun q => !(q.1 == i) && (!(q.1 == i + 1) && !(q.1 + 1 == i && q.2.category == 2))) = lv.filter (fun q => !(q.1 == i) && (2 == 1 || !(q.1 == i + 1)) && !(q.1 + 1 == i && q.2.category == 2)) := by
  congr 1
  funext q
  simp [Bool.and_assoc]
section JR
variable {G : JG} {l : Launch} {E : JE} {cc : ByteArray} {own : String} {nL : Nat} {rm : Room} {k n : Nat} {f : Hp} {pc : Nat} {lv : List (Nat × Value)} {st : List Value}
theorem j_st {st' : List Value} (h : st = st') (kk : J G k n f pc lv st') : J G k n f pc lv st := h ▸ kk
theorem j_lv {lv' : List (Nat × Value)} (h : ∀ q ∈ lv', q ∈ lv) (kk : J G k n f pc lv' st) : J G k n f pc lv st := by
  obtain ⟨p, l, e, R, s, m, args, below, meth, c, E, A, Z⟩ := G
  intro L H locs ls hdm hP hD hS hl
  exact kk L H locs ls hdm hP hD hS ⟨hl.1, hl.2.1, fun q hq => hl.2.2 q (h q hq)⟩
theorem j_eqi {x y : Int32} (h : x = y) (kk : J G k n f pc lv (.int y :: st)) : J G k n f pc lv (.int x :: st) := h ▸ kk
theorem j_eql {x y : Int64} (h : x = y) (kk : J G k n f pc lv (.long y :: st)) : J G k n f pc lv (.long x :: st) := h ▸ kk
theorem j_eq {a b : Int} (h : a = b) (kk : J G k n f pc lv (.int (iZ b) :: st)) : J G k n f pc lv (.int (iZ a) :: st) := h ▸ kk
theorem j_eqL {a b : Int} (h : a = b) (kk : J G k n f pc lv (.long (lZ b) :: st)) : J G k n f pc lv (.long (lZ a) :: st) := h ▸ kk
theorem j_iconst (hG : jX G l E cc own nL rm) {z : Int} (hd : decode cc pc = .ok (.iconst z, 1)) (kk : J G k n f (pc + 1) lv (.int (iZ z) :: st)) : J G k n f pc lv (st) := by
  obtain ⟨p, l', e, R, s, m, args, below, meth, c, E', A, Z⟩ := G
  obtain ⟨rfl, rfl, rfl, hx, hb, hml, hown, hlocks, hts, hK, hA, hN, hR, hSS⟩ := hG
  intro L H locs ls hdm hP hD hS hl
  exact lv_iconst hx hb hd rfl (kk L H locs ls hdm hP hD hS hl)
theorem j_bipush (hG : jX G l E cc own nL rm) {z : Int} (hd : decode cc pc = .ok (.bipush z, 2)) (hz : (Int8.ofInt z).toInt32 = iZ z) (kk : J G k n f (pc + 2) lv (.int (iZ z) :: st)) : J G k n f pc lv (st) := by
  obtain ⟨p, l', e, R, s, m, args, below, meth, c, E', A, Z⟩ := G
  obtain ⟨rfl, rfl, rfl, hx, hb, hml, hown, hlocks, hts, hK, hA, hN, hR, hSS⟩ := hG
  intro L H locs ls hdm hP hD hS hl
  exact lv_bipush hx hb hd hz (kk L H locs ls hdm hP hD hS hl)
theorem j_sipush (hG : jX G l E cc own nL rm) {z : Int} (hd : decode cc pc = .ok (.sipush z, 3)) (hz : (Int16.ofInt z).toInt32 = iZ z) (kk : J G k n f (pc + 3) lv (.int (iZ z) :: st)) : J G k n f pc lv (st) := by
  obtain ⟨p, l', e, R, s, m, args, below, meth, c, E', A, Z⟩ := G
  obtain ⟨rfl, rfl, rfl, hx, hb, hml, hown, hlocks, hts, hK, hA, hN, hR, hSS⟩ := hG
  intro L H locs ls hdm hP hD hS hl
  exact lv_sipush hx hb hd hz (kk L H locs ls hdm hP hD hS hl)
theorem j_lconst (hG : jX G l E cc own nL rm) {z : Fin 2} {y : Int} (hd : decode cc pc = .ok (.lconst z, 1)) (hz : Int64.ofNat (z : Nat) = lZ y) (kk : J G k n f (pc + 1) lv (.long (lZ y) :: st)) : J G k n f pc lv (st) := by
  obtain ⟨p, l', e, R, s, m, args, below, meth, c, E', A, Z⟩ := G
  obtain ⟨rfl, rfl, rfl, hx, hb, hml, hown, hlocks, hts, hK, hA, hN, hR, hSS⟩ := hG
  intro L H locs ls hdm hP hD hS hl
  exact lv_lconst hx hb hd hz (kk L H locs ls hdm hP hD hS hl)
theorem j_ldc (hG : jX G l E cc own nL rm) {i : Nat} {x : Int32} {z : Int} (hd : decode cc pc = .ok (.ldc i, 2)) (hw : Cond.constant own i x ∈ gw_tbl) (hz : x = iZ z) (kk : J G k n f (pc + 2) lv (.int (iZ z) :: st)) : J G k n f pc lv (st) := by
  obtain ⟨p, l', e, R, s, m, args, below, meth, c, E', A, Z⟩ := G
  obtain ⟨rfl, rfl, rfl, hx, hb, hml, hown, hlocks, hts, hK, hA, hN, hR, hSS⟩ := hG
  intro L H locs ls hdm hP hD hS hl
  subst hz
  exact lv_ldc hx hb hown (hts _ hw) hd (kk L H locs ls hdm hP hD hS hl)
theorem j_ldc2 (hG : jX G l E cc own nL rm) {i : Nat} {x : Int64} {z : Int} (hd : decode cc pc = .ok (.ldc2_w i, 3)) (hw : Cond.constantLong own i x ∈ gw_tbl) (hz : x = lZ z) (kk : J G k n f (pc + 3) lv (.long (lZ z) :: st)) : J G k n f pc lv (st) := by
  obtain ⟨p, l', e, R, s, m, args, below, meth, c, E', A, Z⟩ := G
  obtain ⟨rfl, rfl, rfl, hx, hb, hml, hown, hlocks, hts, hK, hA, hN, hR, hSS⟩ := hG
  intro L H locs ls hdm hP hD hS hl
  subst hz
  exact lv_ldc2 hx hb hown (hts _ hw) hd (kk L H locs ls hdm hP hD hS hl)
theorem j_null (hG : jX G l E cc own nL rm) (hd : decode cc pc = .ok (.aconst_null, 1)) (kk : J G k n f (pc + 1) lv (.null :: st)) : J G k n f pc lv (st) := by
  obtain ⟨p, l', e, R, s, m, args, below, meth, c, E', A, Z⟩ := G
  obtain ⟨rfl, rfl, rfl, hx, hb, hml, hown, hlocks, hts, hK, hA, hN, hR, hSS⟩ := hG
  intro L H locs ls hdm hP hD hS hl
  exact lv_null hx hb hd (kk L H locs ls hdm hP hD hS hl)
theorem j_iload_n (hG : jX G l E cc own nL rm) {i : Fin 4} {j : Nat} {x : Int32} (hd : decode cc pc = .ok (.iload_n i, 1)) (hi : (i : Nat) = j) (hg : lget lv j = some (.int x)) (kk : J G k n f (pc + 1) lv (.int x :: st)) : J G k n f pc lv (st) := by
  obtain ⟨p, l', e, R, s, m, args, below, meth, c, E', A, Z⟩ := G
  obtain ⟨rfl, rfl, rfl, hx, hb, hml, hown, hlocks, hts, hK, hA, hN, hR, hSS⟩ := hG
  intro L H locs ls hdm hP hD hS hl
  exact lv_iload_n hx hb hd hi (lget_at hl hg) (kk L H locs ls hdm hP hD hS hl)
theorem j_iload (hG : jX G l E cc own nL rm) {j : Nat} {x : Int32} (hd : decode cc pc = .ok (.iload j, 2)) (hg : lget lv j = some (.int x)) (kk : J G k n f (pc + 2) lv (.int x :: st)) : J G k n f pc lv (st) := by
  obtain ⟨p, l', e, R, s, m, args, below, meth, c, E', A, Z⟩ := G
  obtain ⟨rfl, rfl, rfl, hx, hb, hml, hown, hlocks, hts, hK, hA, hN, hR, hSS⟩ := hG
  intro L H locs ls hdm hP hD hS hl
  exact lv_iload hx hb hd (lget_at hl hg) (kk L H locs ls hdm hP hD hS hl)
theorem j_istore_n (hG : jX G l E cc own nL rm) {i : Fin 4} {j : Nat} {x : Int32} {lv' : List (Nat × Value)} (hd : decode cc pc = .ok (.istore_n i, 1)) (hi : (i : Nat) = j) (hn : j < nL) (hp : lput lv j 1 (.int x) = lv') (kk : J G k n f (pc + 1) lv' st) : J G k n f pc lv (.int x :: st) := by
  obtain ⟨p, l', e, R, s, m, args, below, meth, c, E', A, Z⟩ := G
  obtain ⟨rfl, rfl, rfl, hx, hb, hml, hown, hlocks, hts, hK, hA, hN, hR, hSS⟩ := hG
  intro L H locs ls hdm hP hD hS hl
  refine lv_istore_n hx hb hd hi hl (by rw [hml]; exact hn) rfl (fun ls' hl' => kk L H locs ls' hdm hP hD hS (lput_has hp (by decide) ?_))
  rw [← fil_1]
  exact hl'
theorem j_istore (hG : jX G l E cc own nL rm) {j : Nat} {x : Int32} {lv' : List (Nat × Value)} (hd : decode cc pc = .ok (.istore j, 2)) (hn : j < nL) (hp : lput lv j 1 (.int x) = lv') (kk : J G k n f (pc + 2) lv' st) : J G k n f pc lv (.int x :: st) := by
  obtain ⟨p, l', e, R, s, m, args, below, meth, c, E', A, Z⟩ := G
  obtain ⟨rfl, rfl, rfl, hx, hb, hml, hown, hlocks, hts, hK, hA, hN, hR, hSS⟩ := hG
  intro L H locs ls hdm hP hD hS hl
  refine lv_istore hx hb hd hl (by rw [hml]; exact hn) rfl (fun ls' hl' => kk L H locs ls' hdm hP hD hS (lput_has hp (by decide) ?_))
  rw [← fil_1]
  exact hl'
theorem j_lload_n (hG : jX G l E cc own nL rm) {i : Fin 4} {j : Nat} {x : Int64} (hd : decode cc pc = .ok (.lload_n i, 1)) (hi : (i : Nat) = j) (hg : lget lv j = some (.long x)) (kk : J G k n f (pc + 1) lv (.long x :: st)) : J G k n f pc lv (st) := by
  obtain ⟨p, l', e, R, s, m, args, below, meth, c, E', A, Z⟩ := G
  obtain ⟨rfl, rfl, rfl, hx, hb, hml, hown, hlocks, hts, hK, hA, hN, hR, hSS⟩ := hG
  intro L H locs ls hdm hP hD hS hl
  exact lv_lload_n hx hb hd hi (lget_at hl hg) (kk L H locs ls hdm hP hD hS hl)
theorem j_lload (hG : jX G l E cc own nL rm) {j : Nat} {x : Int64} (hd : decode cc pc = .ok (.lload j, 2)) (hg : lget lv j = some (.long x)) (kk : J G k n f (pc + 2) lv (.long x :: st)) : J G k n f pc lv (st) := by
  obtain ⟨p, l', e, R, s, m, args, below, meth, c, E', A, Z⟩ := G
  obtain ⟨rfl, rfl, rfl, hx, hb, hml, hown, hlocks, hts, hK, hA, hN, hR, hSS⟩ := hG
  intro L H locs ls hdm hP hD hS hl
  exact lv_lload hx hb hd (lget_at hl hg) (kk L H locs ls hdm hP hD hS hl)
theorem j_lstore_n (hG : jX G l E cc own nL rm) {i : Fin 4} {j : Nat} {x : Int64} {lv' : List (Nat × Value)} (hd : decode cc pc = .ok (.lstore_n i, 1)) (hi : (i : Nat) = j) (hn : j + 1 < nL) (hp : lput lv j 2 (.long x) = lv') (kk : J G k n f (pc + 1) lv' st) : J G k n f pc lv (.long x :: st) := by
  obtain ⟨p, l', e, R, s, m, args, below, meth, c, E', A, Z⟩ := G
  obtain ⟨rfl, rfl, rfl, hx, hb, hml, hown, hlocks, hts, hK, hA, hN, hR, hSS⟩ := hG
  intro L H locs ls hdm hP hD hS hl
  refine lv_lstore_n hx hb hd hi hl (by rw [hml]; exact hn) rfl (fun ls' hl' => kk L H locs ls' hdm hP hD hS (lput_has hp (by decide) ?_))
  rw [← fil_2]
  exact hl'
theorem j_lstore (hG : jX G l E cc own nL rm) {j : Nat} {x : Int64} {lv' : List (Nat × Value)} (hd : decode cc pc = .ok (.lstore j, 2)) (hn : j + 1 < nL) (hp : lput lv j 2 (.long x) = lv') (kk : J G k n f (pc + 2) lv' st) : J G k n f pc lv (.long x :: st) := by
  obtain ⟨p, l', e, R, s, m, args, below, meth, c, E', A, Z⟩ := G
  obtain ⟨rfl, rfl, rfl, hx, hb, hml, hown, hlocks, hts, hK, hA, hN, hR, hSS⟩ := hG
  intro L H locs ls hdm hP hD hS hl
  refine lv_lstore hx hb hd hl (by rw [hml]; exact hn) rfl (fun ls' hl' => kk L H locs ls' hdm hP hD hS (lput_has hp (by decide) ?_))
  rw [← fil_2]
  exact hl'
theorem j_aload_n (hG : jX G l E cc own nL rm) {i : Fin 4} {j : Nat} {x : Nat} (hd : decode cc pc = .ok (.aload_n i, 1)) (hi : (i : Nat) = j) (hg : lget lv j = some (.ref x)) (kk : J G k n f (pc + 1) lv (.ref x :: st)) : J G k n f pc lv (st) := by
  obtain ⟨p, l', e, R, s, m, args, below, meth, c, E', A, Z⟩ := G
  obtain ⟨rfl, rfl, rfl, hx, hb, hml, hown, hlocks, hts, hK, hA, hN, hR, hSS⟩ := hG
  intro L H locs ls hdm hP hD hS hl
  exact lv_aload_n hx hb hd hi (lget_at hl hg) (kk L H locs ls hdm hP hD hS hl)
theorem j_aload (hG : jX G l E cc own nL rm) {j : Nat} {x : Nat} (hd : decode cc pc = .ok (.aload j, 2)) (hg : lget lv j = some (.ref x)) (kk : J G k n f (pc + 2) lv (.ref x :: st)) : J G k n f pc lv (st) := by
  obtain ⟨p, l', e, R, s, m, args, below, meth, c, E', A, Z⟩ := G
  obtain ⟨rfl, rfl, rfl, hx, hb, hml, hown, hlocks, hts, hK, hA, hN, hR, hSS⟩ := hG
  intro L H locs ls hdm hP hD hS hl
  exact lv_aload hx hb hd (lget_at hl hg) (kk L H locs ls hdm hP hD hS hl)
theorem j_astore_n (hG : jX G l E cc own nL rm) {i : Fin 4} {j : Nat} {x : Nat} {lv' : List (Nat × Value)} (hd : decode cc pc = .ok (.astore_n i, 1)) (hi : (i : Nat) = j) (hn : j < nL) (hp : lput lv j 1 (.ref x) = lv') (kk : J G k n f (pc + 1) lv' st) : J G k n f pc lv (.ref x :: st) := by
  obtain ⟨p, l', e, R, s, m, args, below, meth, c, E', A, Z⟩ := G
  obtain ⟨rfl, rfl, rfl, hx, hb, hml, hown, hlocks, hts, hK, hA, hN, hR, hSS⟩ := hG
  intro L H locs ls hdm hP hD hS hl
  refine lv_astore_n hx hb hd hi hl (by rw [hml]; exact hn) rfl (fun ls' hl' => kk L H locs ls' hdm hP hD hS (lput_has hp (by decide) ?_))
  rw [← fil_1]
  exact hl'
theorem j_astore (hG : jX G l E cc own nL rm) {j : Nat} {x : Nat} {lv' : List (Nat × Value)} (hd : decode cc pc = .ok (.astore j, 2)) (hn : j < nL) (hp : lput lv j 1 (.ref x) = lv') (kk : J G k n f (pc + 2) lv' st) : J G k n f pc lv (.ref x :: st) := by
  obtain ⟨p, l', e, R, s, m, args, below, meth, c, E', A, Z⟩ := G
  obtain ⟨rfl, rfl, rfl, hx, hb, hml, hown, hlocks, hts, hK, hA, hN, hR, hSS⟩ := hG
  intro L H locs ls hdm hP hD hS hl
  refine lv_astore hx hb hd hl (by rw [hml]; exact hn) rfl (fun ls' hl' => kk L H locs ls' hdm hP hD hS (lput_has hp (by decide) ?_))
  rw [← fil_1]
  exact hl'
theorem j_iinc (hG : jX G l E cc own nL rm) {j : Nat} {d a : Int} {lv' : List (Nat × Value)} (hd : decode cc pc = .ok (.iinc j d, 3)) (hg : lget lv j = some (.int (iZ a))) (hn : j < nL) (hp : lput lv j 1 (.int (iZ (a + d))) = lv') (kk : J G k n f (pc + 3) lv' st) : J G k n f pc lv st := by
  obtain ⟨p, l', e, R, s, m, args, below, meth, c, E', A, Z⟩ := G
  obtain ⟨rfl, rfl, rfl, hx, hb, hml, hown, hlocks, hts, hK, hA, hN, hR, hSS⟩ := hG
  intro L H locs ls hdm hP hD hS hl
  have hg2 := lget_at hl hg
  have hmem : ∃ q : Nat, lv[q]? = some (j, Value.int (iZ a)) := by
    unfold lget at hg
    cases hf : lv.find? (fun q => q.1 == j) with
    | none => rw [hf] at hg; cases hg
    | some q =>
      rw [hf] at hg
      have h1 : q.2 = Value.int (iZ a) := Option.some.inj hg
      have h2 : q.1 = j := by simpa using List.find?_some hf
      obtain ⟨i, hi⟩ := List.getElem?_of_mem (List.mem_of_find?_eq_some hf)
      exact ⟨i, by rw [hi, ← h1, ← h2]⟩
  obtain ⟨q, hq⟩ := hmem
  refine lv_iinc (v := iZ (a + d)) hx hb hd hl hq (iZ_add a d) (by rw [hml]; exact hn) rfl (fun ls' hl' => kk L H locs ls' hdm hP hD hS (lput_has hp (by decide) ?_))
  rw [← fil_1]
  exact hl'
theorem j_iadd (hG : jX G l E cc own nL rm) {a b : Int} (hd : decode cc pc = .ok (.iadd, 1)) (kk : J G k n f (pc + 1) lv (.int (iZ (a + b)) :: st)) : J G k n f pc lv (.int (iZ b) :: .int (iZ a) :: st) := by
  obtain ⟨p, l', e, R, s, m, args, below, meth, c, E', A, Z⟩ := G
  obtain ⟨rfl, rfl, rfl, hx, hb, hml, hown, hlocks, hts, hK, hA, hN, hR, hSS⟩ := hG
  intro L H locs ls hdm hP hD hS hl
  refine lv_iadd hx hb hd ?_
  rw [iZ_add]
  exact kk L H locs ls hdm hP hD hS hl
theorem j_ladd (hG : jX G l E cc own nL rm) {a b : Int} (hd : decode cc pc = .ok (.ladd, 1)) (kk : J G k n f (pc + 1) lv (.long (lZ (a + b)) :: st)) : J G k n f pc lv (.long (lZ b) :: .long (lZ a) :: st) := by
  obtain ⟨p, l', e, R, s, m, args, below, meth, c, E', A, Z⟩ := G
  obtain ⟨rfl, rfl, rfl, hx, hb, hml, hown, hlocks, hts, hK, hA, hN, hR, hSS⟩ := hG
  intro L H locs ls hdm hP hD hS hl
  refine lv_ladd hx hb hd ?_
  rw [lZ_add]
  exact kk L H locs ls hdm hP hD hS hl
theorem j_isub (hG : jX G l E cc own nL rm) {a b : Int} (hd : decode cc pc = .ok (.isub, 1)) (kk : J G k n f (pc + 1) lv (.int (iZ (a - b)) :: st)) : J G k n f pc lv (.int (iZ b) :: .int (iZ a) :: st) := by
  obtain ⟨p, l', e, R, s, m, args, below, meth, c, E', A, Z⟩ := G
  obtain ⟨rfl, rfl, rfl, hx, hb, hml, hown, hlocks, hts, hK, hA, hN, hR, hSS⟩ := hG
  intro L H locs ls hdm hP hD hS hl
  refine lv_isub hx hb hd ?_
  rw [iZ_sub]
  exact kk L H locs ls hdm hP hD hS hl
theorem j_lsub (hG : jX G l E cc own nL rm) {a b : Int} (hd : decode cc pc = .ok (.lsub, 1)) (kk : J G k n f (pc + 1) lv (.long (lZ (a - b)) :: st)) : J G k n f pc lv (.long (lZ b) :: .long (lZ a) :: st) := by
  obtain ⟨p, l', e, R, s, m, args, below, meth, c, E', A, Z⟩ := G
  obtain ⟨rfl, rfl, rfl, hx, hb, hml, hown, hlocks, hts, hK, hA, hN, hR, hSS⟩ := hG
  intro L H locs ls hdm hP hD hS hl
  refine lv_lsub hx hb hd ?_
  rw [lZ_sub]
  exact kk L H locs ls hdm hP hD hS hl
theorem j_imul (hG : jX G l E cc own nL rm) {a b : Int} (hd : decode cc pc = .ok (.imul, 1)) (kk : J G k n f (pc + 1) lv (.int (iZ (a * b)) :: st)) : J G k n f pc lv (.int (iZ b) :: .int (iZ a) :: st) := by
  obtain ⟨p, l', e, R, s, m, args, below, meth, c, E', A, Z⟩ := G
  obtain ⟨rfl, rfl, rfl, hx, hb, hml, hown, hlocks, hts, hK, hA, hN, hR, hSS⟩ := hG
  intro L H locs ls hdm hP hD hS hl
  refine lv_imul hx hb hd ?_
  rw [iZ_mul]
  exact kk L H locs ls hdm hP hD hS hl
theorem j_lmul (hG : jX G l E cc own nL rm) {a b : Int} (hd : decode cc pc = .ok (.lmul, 1)) (kk : J G k n f (pc + 1) lv (.long (lZ (a * b)) :: st)) : J G k n f pc lv (.long (lZ b) :: .long (lZ a) :: st) := by
  obtain ⟨p, l', e, R, s, m, args, below, meth, c, E', A, Z⟩ := G
  obtain ⟨rfl, rfl, rfl, hx, hb, hml, hown, hlocks, hts, hK, hA, hN, hR, hSS⟩ := hG
  intro L H locs ls hdm hP hD hS hl
  refine lv_lmul hx hb hd ?_
  rw [lZ_mul]
  exact kk L H locs ls hdm hP hD hS hl
theorem j_ineg (hG : jX G l E cc own nL rm) {a : Int} (hd : decode cc pc = .ok (.ineg, 1)) (kk : J G k n f (pc + 1) lv (.int (iZ (-a)) :: st)) : J G k n f pc lv (.int (iZ a) :: st) := by
  obtain ⟨p, l', e, R, s, m, args, below, meth, c, E', A, Z⟩ := G
  obtain ⟨rfl, rfl, rfl, hx, hb, hml, hown, hlocks, hts, hK, hA, hN, hR, hSS⟩ := hG
  intro L H locs ls hdm hP hD hS hl
  refine lv_ineg hx hb hd ?_
  rw [iZ_neg]
  exact kk L H locs ls hdm hP hD hS hl
theorem j_irem (hG : jX G l E cc own nL rm) {a b : Int} (hd : decode cc pc = .ok (.irem, 1)) (ha : 0 ≤ a ∧ a < 2147483648) (hb0 : 0 < b ∧ b < 2147483648) (kk : J G k n f (pc + 1) lv (.int (iZ (a % b)) :: st)) : J G k n f pc lv (.int (iZ b) :: .int (iZ a) :: st) := by
  obtain ⟨p, l', e, R, s, m, args, below, meth, c, E', A, Z⟩ := G
  obtain ⟨rfl, rfl, rfl, hx, hb, hml, hown, hlocks, hts, hK, hA, hN, hR, hSS⟩ := hG
  intro L H locs ls hdm hP hD hS hl
  refine lv_irem hx hb hd (fun h => ?_) ?_
  · rw [iZ_0, iZ_eq (by omega) (by omega)] at h
    omega
  · rw [iZ_rem ha hb0]
    exact kk L H locs ls hdm hP hD hS hl
theorem j_iand (hG : jX G l E cc own nL rm) {x y : Int32} (hd : decode cc pc = .ok (.iand, 1)) (kk : J G k n f (pc + 1) lv (.int (x &&& y) :: st)) : J G k n f pc lv (.int y :: .int x :: st) := by
  obtain ⟨p, l', e, R, s, m, args, below, meth, c, E', A, Z⟩ := G
  obtain ⟨rfl, rfl, rfl, hx, hb, hml, hown, hlocks, hts, hK, hA, hN, hR, hSS⟩ := hG
  intro L H locs ls hdm hP hD hS hl
  exact lv_iand hx hb hd (kk L H locs ls hdm hP hD hS hl)
theorem j_ior (hG : jX G l E cc own nL rm) {x y : Int32} (hd : decode cc pc = .ok (.ior, 1)) (kk : J G k n f (pc + 1) lv (.int (x ||| y) :: st)) : J G k n f pc lv (.int y :: .int x :: st) := by
  obtain ⟨p, l', e, R, s, m, args, below, meth, c, E', A, Z⟩ := G
  obtain ⟨rfl, rfl, rfl, hx, hb, hml, hown, hlocks, hts, hK, hA, hN, hR, hSS⟩ := hG
  intro L H locs ls hdm hP hD hS hl
  exact lv_ior hx hb hd (kk L H locs ls hdm hP hD hS hl)
theorem j_ixor (hG : jX G l E cc own nL rm) {x y : Int32} (hd : decode cc pc = .ok (.ixor, 1)) (kk : J G k n f (pc + 1) lv (.int (x ^^^ y) :: st)) : J G k n f pc lv (.int y :: .int x :: st) := by
  obtain ⟨p, l', e, R, s, m, args, below, meth, c, E', A, Z⟩ := G
  obtain ⟨rfl, rfl, rfl, hx, hb, hml, hown, hlocks, hts, hK, hA, hN, hR, hSS⟩ := hG
  intro L H locs ls hdm hP hD hS hl
  exact lv_ixor hx hb hd (kk L H locs ls hdm hP hD hS hl)
theorem j_land (hG : jX G l E cc own nL rm) {x y : Int64} (hd : decode cc pc = .ok (.land, 1)) (kk : J G k n f (pc + 1) lv (.long (x &&& y) :: st)) : J G k n f pc lv (.long y :: .long x :: st) := by
  obtain ⟨p, l', e, R, s, m, args, below, meth, c, E', A, Z⟩ := G
  obtain ⟨rfl, rfl, rfl, hx, hb, hml, hown, hlocks, hts, hK, hA, hN, hR, hSS⟩ := hG
  intro L H locs ls hdm hP hD hS hl
  exact lv_land hx hb hd (kk L H locs ls hdm hP hD hS hl)
theorem j_lor (hG : jX G l E cc own nL rm) {x y : Int64} (hd : decode cc pc = .ok (.lor, 1)) (kk : J G k n f (pc + 1) lv (.long (x ||| y) :: st)) : J G k n f pc lv (.long y :: .long x :: st) := by
  obtain ⟨p, l', e, R, s, m, args, below, meth, c, E', A, Z⟩ := G
  obtain ⟨rfl, rfl, rfl, hx, hb, hml, hown, hlocks, hts, hK, hA, hN, hR, hSS⟩ := hG
  intro L H locs ls hdm hP hD hS hl
  exact lv_lor hx hb hd (kk L H locs ls hdm hP hD hS hl)
theorem j_ishl (hG : jX G l E cc own nL rm) {x y : Int32} (hd : decode cc pc = .ok (.ishl, 1)) (kk : J G k n f (pc + 1) lv (.int (x <<< (y &&& 31)) :: st)) : J G k n f pc lv (.int y :: .int x :: st) := by
  obtain ⟨p, l', e, R, s, m, args, below, meth, c, E', A, Z⟩ := G
  obtain ⟨rfl, rfl, rfl, hx, hb, hml, hown, hlocks, hts, hK, hA, hN, hR, hSS⟩ := hG
  intro L H locs ls hdm hP hD hS hl
  exact lv_ishl hx hb hd (kk L H locs ls hdm hP hD hS hl)
theorem j_ishr (hG : jX G l E cc own nL rm) {x y : Int32} (hd : decode cc pc = .ok (.ishr, 1)) (kk : J G k n f (pc + 1) lv (.int (x >>> (y &&& 31)) :: st)) : J G k n f pc lv (.int y :: .int x :: st) := by
  obtain ⟨p, l', e, R, s, m, args, below, meth, c, E', A, Z⟩ := G
  obtain ⟨rfl, rfl, rfl, hx, hb, hml, hown, hlocks, hts, hK, hA, hN, hR, hSS⟩ := hG
  intro L H locs ls hdm hP hD hS hl
  exact lv_ishr hx hb hd (kk L H locs ls hdm hP hD hS hl)
theorem j_iushr (hG : jX G l E cc own nL rm) {x y : Int32} (hd : decode cc pc = .ok (.iushr, 1)) (kk : J G k n f (pc + 1) lv (.int ((x.toUInt32 >>> (y.toUInt32 &&& Int32.toUInt32 31)).toInt32) :: st)) : J G k n f pc lv (.int y :: .int x :: st) := by
  obtain ⟨p, l', e, R, s, m, args, below, meth, c, E', A, Z⟩ := G
  obtain ⟨rfl, rfl, rfl, hx, hb, hml, hown, hlocks, hts, hK, hA, hN, hR, hSS⟩ := hG
  intro L H locs ls hdm hP hD hS hl
  exact lv_iushr hx hb hd rfl (kk L H locs ls hdm hP hD hS hl)
theorem j_lushr (hG : jX G l E cc own nL rm) {x : Int64} {y : Int32} (hd : decode cc pc = .ok (.lushr, 1)) (kk : J G k n f (pc + 1) lv (.long ((x.toUInt64 >>> (y.toInt64.toUInt64 &&& Int64.toUInt64 63)).toInt64) :: st)) : J G k n f pc lv (.int y :: .long x :: st) := by
  obtain ⟨p, l', e, R, s, m, args, below, meth, c, E', A, Z⟩ := G
  obtain ⟨rfl, rfl, rfl, hx, hb, hml, hown, hlocks, hts, hK, hA, hN, hR, hSS⟩ := hG
  intro L H locs ls hdm hP hD hS hl
  exact lv_lushr hx hb hd rfl (kk L H locs ls hdm hP hD hS hl)
theorem j_lshl (hG : jX G l E cc own nL rm) {x : Int64} {y : Int32} (hd : decode cc pc = .ok (.lshl, 1)) (kk : J G k n f (pc + 1) lv (.long (x <<< (y.toInt64 &&& 63)) :: st)) : J G k n f pc lv (.int y :: .long x :: st) := by
  obtain ⟨p, l', e, R, s, m, args, below, meth, c, E', A, Z⟩ := G
  obtain ⟨rfl, rfl, rfl, hx, hb, hml, hown, hlocks, hts, hK, hA, hN, hR, hSS⟩ := hG
  intro L H locs ls hdm hP hD hS hl
  exact lv_lshl hx hb hd rfl (kk L H locs ls hdm hP hD hS hl)
theorem j_i2l (hG : jX G l E cc own nL rm) {a : Int} (hd : decode cc pc = .ok (.i2l, 1)) (ha : -2147483648 ≤ a ∧ a < 2147483648) (kk : J G k n f (pc + 1) lv (.long (lZ a) :: st)) : J G k n f pc lv (.int (iZ a) :: st) := by
  obtain ⟨p, l', e, R, s, m, args, below, meth, c, E', A, Z⟩ := G
  obtain ⟨rfl, rfl, rfl, hx, hb, hml, hown, hlocks, hts, hK, hA, hN, hR, hSS⟩ := hG
  intro L H locs ls hdm hP hD hS hl
  exact lv_i2l hx hb hd (iZ_l ha) (kk L H locs ls hdm hP hD hS hl)
theorem j_l2i (hG : jX G l E cc own nL rm) {a : Int} (hd : decode cc pc = .ok (.l2i, 1)) (kk : J G k n f (pc + 1) lv (.int (iZ a) :: st)) : J G k n f pc lv (.long (lZ a) :: st) := by
  obtain ⟨p, l', e, R, s, m, args, below, meth, c, E', A, Z⟩ := G
  obtain ⟨rfl, rfl, rfl, hx, hb, hml, hown, hlocks, hts, hK, hA, hN, hR, hSS⟩ := hG
  intro L H locs ls hdm hP hD hS hl
  exact lv_l2i hx hb hd (lZ_i a) (kk L H locs ls hdm hP hD hS hl)
theorem j_i2c (hG : jX G l E cc own nL rm) {x y : Int32} (hd : decode cc pc = .ok (.i2c, 1)) (h : (x.toUInt32 % 65536).toInt32 = y) (kk : J G k n f (pc + 1) lv (.int y :: st)) : J G k n f pc lv (.int x :: st) := by
  obtain ⟨p, l', e, R, s, m, args, below, meth, c, E', A, Z⟩ := G
  obtain ⟨rfl, rfl, rfl, hx, hb, hml, hown, hlocks, hts, hK, hA, hN, hR, hSS⟩ := hG
  intro L H locs ls hdm hP hD hS hl
  exact lv_i2c hx hb hd h (kk L H locs ls hdm hP hD hS hl)
theorem j_lcmp (hG : jX G l E cc own nL rm) {a b : Int} (hd : decode cc pc = .ok (.lcmp, 1)) (ha : -9223372036854775808 ≤ a ∧ a < 9223372036854775808) (hb0 : -9223372036854775808 ≤ b ∧ b < 9223372036854775808) (kk : J G k n f (pc + 1) lv (.int (iZ (cI a b)) :: st)) : J G k n f pc lv (.long (lZ b) :: .long (lZ a) :: st) := by
  obtain ⟨p, l', e, R, s, m, args, below, meth, c, E', A, Z⟩ := G
  obtain ⟨rfl, rfl, rfl, hx, hb, hml, hown, hlocks, hts, hK, hA, hN, hR, hSS⟩ := hG
  intro L H locs ls hdm hP hD hS hl
  refine W.lcmp hx hb hd ?_
  rw [lZ_cmp ha hb0]
  exact kk L H locs ls hdm hP hD hS hl
theorem j_dup (hG : jX G l E cc own nL rm) {v : Value} (hd : decode cc pc = .ok (.dup, 1)) (hv : v.category = 1) (kk : J G k n f (pc + 1) lv (v :: v :: st)) : J G k n f pc lv (v :: st) := by
  obtain ⟨p, l', e, R, s, m, args, below, meth, c, E', A, Z⟩ := G
  obtain ⟨rfl, rfl, rfl, hx, hb, hml, hown, hlocks, hts, hK, hA, hN, hR, hSS⟩ := hG
  intro L H locs ls hdm hP hD hS hl
  exact lv_dup hx hb hd hv (kk L H locs ls hdm hP hD hS hl)
theorem j_pop (hG : jX G l E cc own nL rm) {v : Value} (hd : decode cc pc = .ok (.pop, 1)) (hv : v.category = 1) (kk : J G k n f (pc + 1) lv (st)) : J G k n f pc lv (v :: st) := by
  obtain ⟨p, l', e, R, s, m, args, below, meth, c, E', A, Z⟩ := G
  obtain ⟨rfl, rfl, rfl, hx, hb, hml, hown, hlocks, hts, hK, hA, hN, hR, hSS⟩ := hG
  intro L H locs ls hdm hP hD hS hl
  exact lv_pop hx hb hd hv (kk L H locs ls hdm hP hD hS hl)
theorem j_dup_x1 (hG : jX G l E cc own nL rm) {v w : Value} (hd : decode cc pc = .ok (.dup_x1, 1)) (hv : v.category = 1) (hw : w.category = 1) (kk : J G k n f (pc + 1) lv (v :: w :: v :: st)) : J G k n f pc lv (v :: w :: st) := by
  obtain ⟨p, l', e, R, s, m, args, below, meth, c, E', A, Z⟩ := G
  obtain ⟨rfl, rfl, rfl, hx, hb, hml, hown, hlocks, hts, hK, hA, hN, hR, hSS⟩ := hG
  intro L H locs ls hdm hP hD hS hl
  exact lv_dup_x1 hx hb hd hv hw (kk L H locs ls hdm hP hD hS hl)
theorem j_dup2 (hG : jX G l E cc own nL rm) {v w : Value} (hd : decode cc pc = .ok (.dup2, 1)) (hv : v.category = 1) (hw : w.category = 1) (kk : J G k n f (pc + 1) lv (v :: w :: v :: w :: st)) : J G k n f pc lv (v :: w :: st) := by
  obtain ⟨p, l', e, R, s, m, args, below, meth, c, E', A, Z⟩ := G
  obtain ⟨rfl, rfl, rfl, hx, hb, hml, hown, hlocks, hts, hK, hA, hN, hR, hSS⟩ := hG
  intro L H locs ls hdm hP hD hS hl
  exact lv_dup2_11 hx hb hd hv hw (kk L H locs ls hdm hP hD hS hl)
theorem j_icmp_eq (hG : jX G l E cc own nL rm) {a b : Int} {off : Int} {tgt : Nat} (hd : decode cc pc = .ok (.if_icmp .eq off, 3)) (ht : (pc : Int) + off = (tgt : Int)) (ha : -2147483648 ≤ a ∧ a < 2147483648) (hb0 : -2147483648 ≤ b ∧ b < 2147483648) (kt : a = b → J G k n f tgt lv st) (kf : a ≠ b → J G k n f (pc + 3) lv st) : J G k n f pc lv (.int (iZ b) :: .int (iZ a) :: st) := by
  obtain ⟨p, l', e, R, s, m, args, below, meth, c, E', A, Z⟩ := G
  obtain ⟨rfl, rfl, rfl, hx, hb, hml, hown, hlocks, hts, hK, hA, hN, hR, hSS⟩ := hG
  intro L H locs ls hdm hP hD hS hl
  refine lv_icmp_eq hx hb hd ht (fun h => ?_) (fun h => ?_)
  · rw [iZ_eq ha hb0] at h
    exact kt (by omega) L H locs ls hdm hP hD hS hl
  · rw [iZ_eq ha hb0] at h
    exact kf (by omega) L H locs ls hdm hP hD hS hl
theorem j_if_eq (hG : jX G l E cc own nL rm) {a : Int} {off : Int} {tgt : Nat} (hd : decode cc pc = .ok (.ifCond .eq off, 3)) (ht : (pc : Int) + off = (tgt : Int)) (ha : -2147483648 ≤ a ∧ a < 2147483648) (kt : a = 0 → J G k n f tgt lv st) (kf : a ≠ 0 → J G k n f (pc + 3) lv st) : J G k n f pc lv (.int (iZ a) :: st) := by
  obtain ⟨p, l', e, R, s, m, args, below, meth, c, E', A, Z⟩ := G
  obtain ⟨rfl, rfl, rfl, hx, hb, hml, hown, hlocks, hts, hK, hA, hN, hR, hSS⟩ := hG
  intro L H locs ls hdm hP hD hS hl
  refine lv_if_eq hx hb hd ht (fun h => ?_) (fun h => ?_)
  · rw [iZ_0, iZ_eq ha (by decide)] at h
    exact kt (by omega) L H locs ls hdm hP hD hS hl
  · rw [iZ_0, iZ_eq ha (by decide)] at h
    exact kf (by omega) L H locs ls hdm hP hD hS hl
theorem j_icmp_ne (hG : jX G l E cc own nL rm) {a b : Int} {off : Int} {tgt : Nat} (hd : decode cc pc = .ok (.if_icmp .ne off, 3)) (ht : (pc : Int) + off = (tgt : Int)) (ha : -2147483648 ≤ a ∧ a < 2147483648) (hb0 : -2147483648 ≤ b ∧ b < 2147483648) (kt : a ≠ b → J G k n f tgt lv st) (kf : a = b → J G k n f (pc + 3) lv st) : J G k n f pc lv (.int (iZ b) :: .int (iZ a) :: st) := by
  obtain ⟨p, l', e, R, s, m, args, below, meth, c, E', A, Z⟩ := G
  obtain ⟨rfl, rfl, rfl, hx, hb, hml, hown, hlocks, hts, hK, hA, hN, hR, hSS⟩ := hG
  intro L H locs ls hdm hP hD hS hl
  refine lv_icmp_ne hx hb hd ht (fun h => ?_) (fun h => ?_)
  · rw [iZ_eq ha hb0] at h
    exact kt (by omega) L H locs ls hdm hP hD hS hl
  · rw [iZ_eq ha hb0] at h
    exact kf (by omega) L H locs ls hdm hP hD hS hl
theorem j_if_ne (hG : jX G l E cc own nL rm) {a : Int} {off : Int} {tgt : Nat} (hd : decode cc pc = .ok (.ifCond .ne off, 3)) (ht : (pc : Int) + off = (tgt : Int)) (ha : -2147483648 ≤ a ∧ a < 2147483648) (kt : a ≠ 0 → J G k n f tgt lv st) (kf : a = 0 → J G k n f (pc + 3) lv st) : J G k n f pc lv (.int (iZ a) :: st) := by
  obtain ⟨p, l', e, R, s, m, args, below, meth, c, E', A, Z⟩ := G
  obtain ⟨rfl, rfl, rfl, hx, hb, hml, hown, hlocks, hts, hK, hA, hN, hR, hSS⟩ := hG
  intro L H locs ls hdm hP hD hS hl
  refine lv_if_ne hx hb hd ht (fun h => ?_) (fun h => ?_)
  · rw [iZ_0, iZ_eq ha (by decide)] at h
    exact kt (by omega) L H locs ls hdm hP hD hS hl
  · rw [iZ_0, iZ_eq ha (by decide)] at h
    exact kf (by omega) L H locs ls hdm hP hD hS hl
theorem j_icmp_lt (hG : jX G l E cc own nL rm) {a b : Int} {off : Int} {tgt : Nat} (hd : decode cc pc = .ok (.if_icmp .lt off, 3)) (ht : (pc : Int) + off = (tgt : Int)) (ha : -2147483648 ≤ a ∧ a < 2147483648) (hb0 : -2147483648 ≤ b ∧ b < 2147483648) (kt : a < b → J G k n f tgt lv st) (kf : b ≤ a → J G k n f (pc + 3) lv st) : J G k n f pc lv (.int (iZ b) :: .int (iZ a) :: st) := by
  obtain ⟨p, l', e, R, s, m, args, below, meth, c, E', A, Z⟩ := G
  obtain ⟨rfl, rfl, rfl, hx, hb, hml, hown, hlocks, hts, hK, hA, hN, hR, hSS⟩ := hG
  intro L H locs ls hdm hP hD hS hl
  refine lv_icmp_lt hx hb hd ht (fun h => ?_) (fun h => ?_)
  · rw [iZ_lt ha hb0] at h
    exact kt (by omega) L H locs ls hdm hP hD hS hl
  · rw [iZ_lt ha hb0] at h
    exact kf (by omega) L H locs ls hdm hP hD hS hl
theorem j_if_lt (hG : jX G l E cc own nL rm) {a : Int} {off : Int} {tgt : Nat} (hd : decode cc pc = .ok (.ifCond .lt off, 3)) (ht : (pc : Int) + off = (tgt : Int)) (ha : -2147483648 ≤ a ∧ a < 2147483648) (kt : a < 0 → J G k n f tgt lv st) (kf : 0 ≤ a → J G k n f (pc + 3) lv st) : J G k n f pc lv (.int (iZ a) :: st) := by
  obtain ⟨p, l', e, R, s, m, args, below, meth, c, E', A, Z⟩ := G
  obtain ⟨rfl, rfl, rfl, hx, hb, hml, hown, hlocks, hts, hK, hA, hN, hR, hSS⟩ := hG
  intro L H locs ls hdm hP hD hS hl
  refine lv_if_lt hx hb hd ht (fun h => ?_) (fun h => ?_)
  · rw [iZ_0, iZ_lt ha (by decide)] at h
    exact kt (by omega) L H locs ls hdm hP hD hS hl
  · rw [iZ_0, iZ_lt ha (by decide)] at h
    exact kf (by omega) L H locs ls hdm hP hD hS hl
theorem j_icmp_ge (hG : jX G l E cc own nL rm) {a b : Int} {off : Int} {tgt : Nat} (hd : decode cc pc = .ok (.if_icmp .ge off, 3)) (ht : (pc : Int) + off = (tgt : Int)) (ha : -2147483648 ≤ a ∧ a < 2147483648) (hb0 : -2147483648 ≤ b ∧ b < 2147483648) (kt : b ≤ a → J G k n f tgt lv st) (kf : a < b → J G k n f (pc + 3) lv st) : J G k n f pc lv (.int (iZ b) :: .int (iZ a) :: st) := by
  obtain ⟨p, l', e, R, s, m, args, below, meth, c, E', A, Z⟩ := G
  obtain ⟨rfl, rfl, rfl, hx, hb, hml, hown, hlocks, hts, hK, hA, hN, hR, hSS⟩ := hG
  intro L H locs ls hdm hP hD hS hl
  refine lv_icmp_ge hx hb hd ht (fun h => ?_) (fun h => ?_)
  · rw [iZ_le hb0 ha] at h
    exact kt (by omega) L H locs ls hdm hP hD hS hl
  · rw [iZ_le hb0 ha] at h
    exact kf (by omega) L H locs ls hdm hP hD hS hl
theorem j_if_ge (hG : jX G l E cc own nL rm) {a : Int} {off : Int} {tgt : Nat} (hd : decode cc pc = .ok (.ifCond .ge off, 3)) (ht : (pc : Int) + off = (tgt : Int)) (ha : -2147483648 ≤ a ∧ a < 2147483648) (kt : 0 ≤ a → J G k n f tgt lv st) (kf : a < 0 → J G k n f (pc + 3) lv st) : J G k n f pc lv (.int (iZ a) :: st) := by
  obtain ⟨p, l', e, R, s, m, args, below, meth, c, E', A, Z⟩ := G
  obtain ⟨rfl, rfl, rfl, hx, hb, hml, hown, hlocks, hts, hK, hA, hN, hR, hSS⟩ := hG
  intro L H locs ls hdm hP hD hS hl
  refine lv_if_ge hx hb hd ht (fun h => ?_) (fun h => ?_)
  · rw [iZ_0, iZ_le (by decide) ha] at h
    exact kt (by omega) L H locs ls hdm hP hD hS hl
  · rw [iZ_0, iZ_le (by decide) ha] at h
    exact kf (by omega) L H locs ls hdm hP hD hS hl
theorem j_icmp_gt (hG : jX G l E cc own nL rm) {a b : Int} {off : Int} {tgt : Nat} (hd : decode cc pc = .ok (.if_icmp .gt off, 3)) (ht : (pc : Int) + off = (tgt : Int)) (ha : -2147483648 ≤ a ∧ a < 2147483648) (hb0 : -2147483648 ≤ b ∧ b < 2147483648) (kt : b < a → J G k n f tgt lv st) (kf : a ≤ b → J G k n f (pc + 3) lv st) : J G k n f pc lv (.int (iZ b) :: .int (iZ a) :: st) := by
  obtain ⟨p, l', e, R, s, m, args, below, meth, c, E', A, Z⟩ := G
  obtain ⟨rfl, rfl, rfl, hx, hb, hml, hown, hlocks, hts, hK, hA, hN, hR, hSS⟩ := hG
  intro L H locs ls hdm hP hD hS hl
  refine lv_icmp_gt hx hb hd ht (fun h => ?_) (fun h => ?_)
  · rw [iZ_lt hb0 ha] at h
    exact kt (by omega) L H locs ls hdm hP hD hS hl
  · rw [iZ_lt hb0 ha] at h
    exact kf (by omega) L H locs ls hdm hP hD hS hl
theorem j_if_gt (hG : jX G l E cc own nL rm) {a : Int} {off : Int} {tgt : Nat} (hd : decode cc pc = .ok (.ifCond .gt off, 3)) (ht : (pc : Int) + off = (tgt : Int)) (ha : -2147483648 ≤ a ∧ a < 2147483648) (kt : 0 < a → J G k n f tgt lv st) (kf : a ≤ 0 → J G k n f (pc + 3) lv st) : J G k n f pc lv (.int (iZ a) :: st) := by
  obtain ⟨p, l', e, R, s, m, args, below, meth, c, E', A, Z⟩ := G
  obtain ⟨rfl, rfl, rfl, hx, hb, hml, hown, hlocks, hts, hK, hA, hN, hR, hSS⟩ := hG
  intro L H locs ls hdm hP hD hS hl
  refine lv_if_gt hx hb hd ht (fun h => ?_) (fun h => ?_)
  · rw [iZ_0, iZ_lt (by decide) ha] at h
    exact kt (by omega) L H locs ls hdm hP hD hS hl
  · rw [iZ_0, iZ_lt (by decide) ha] at h
    exact kf (by omega) L H locs ls hdm hP hD hS hl
theorem j_icmp_le (hG : jX G l E cc own nL rm) {a b : Int} {off : Int} {tgt : Nat} (hd : decode cc pc = .ok (.if_icmp .le off, 3)) (ht : (pc : Int) + off = (tgt : Int)) (ha : -2147483648 ≤ a ∧ a < 2147483648) (hb0 : -2147483648 ≤ b ∧ b < 2147483648) (kt : a ≤ b → J G k n f tgt lv st) (kf : b < a → J G k n f (pc + 3) lv st) : J G k n f pc lv (.int (iZ b) :: .int (iZ a) :: st) := by
  obtain ⟨p, l', e, R, s, m, args, below, meth, c, E', A, Z⟩ := G
  obtain ⟨rfl, rfl, rfl, hx, hb, hml, hown, hlocks, hts, hK, hA, hN, hR, hSS⟩ := hG
  intro L H locs ls hdm hP hD hS hl
  refine lv_icmp_le hx hb hd ht (fun h => ?_) (fun h => ?_)
  · rw [iZ_le ha hb0] at h
    exact kt (by omega) L H locs ls hdm hP hD hS hl
  · rw [iZ_le ha hb0] at h
    exact kf (by omega) L H locs ls hdm hP hD hS hl
theorem j_if_le (hG : jX G l E cc own nL rm) {a : Int} {off : Int} {tgt : Nat} (hd : decode cc pc = .ok (.ifCond .le off, 3)) (ht : (pc : Int) + off = (tgt : Int)) (ha : -2147483648 ≤ a ∧ a < 2147483648) (kt : a ≤ 0 → J G k n f tgt lv st) (kf : 0 < a → J G k n f (pc + 3) lv st) : J G k n f pc lv (.int (iZ a) :: st) := by
  obtain ⟨p, l', e, R, s, m, args, below, meth, c, E', A, Z⟩ := G
  obtain ⟨rfl, rfl, rfl, hx, hb, hml, hown, hlocks, hts, hK, hA, hN, hR, hSS⟩ := hG
  intro L H locs ls hdm hP hD hS hl
  refine lv_if_le hx hb hd ht (fun h => ?_) (fun h => ?_)
  · rw [iZ_0, iZ_le ha (by decide)] at h
    exact kt (by omega) L H locs ls hdm hP hD hS hl
  · rw [iZ_0, iZ_le ha (by decide)] at h
    exact kf (by omega) L H locs ls hdm hP hD hS hl
theorem j_goto (hG : jX G l E cc own nL rm) {off : Int} {tgt : Nat} (hd : decode cc pc = .ok (.goto off, 3)) (ht : (pc : Int) + off = (tgt : Int)) (kk : J G k n f tgt lv st) : J G k n f pc lv st := by
  obtain ⟨p, l', e, R, s, m, args, below, meth, c, E', A, Z⟩ := G
  obtain ⟨rfl, rfl, rfl, hx, hb, hml, hown, hlocks, hts, hK, hA, hN, hR, hSS⟩ := hG
  intro L H locs ls hdm hP hD hS hl
  exact lv_goto hx hb hd ht (kk L H locs ls hdm hP hD hS hl)
end JR
end
section
/-! ===== what lies on the heap ===== -/
def aI (c : ClassId) (n : Nat) (g : Int → Int) : va_E := .inl (c, n, .inl (fun j => iZ (g j)))
def aJ (c : ClassId) (n : Nat) (g : Int → Int) : va_E := .inl (c, n, .inr (.inl (fun j => lZ (g j))))
def aQ (c : ClassId) (n : Nat) (g : Int → Option Nat) : va_E := .inl (c, n, .inr (.inr (.inr (.inr (fun j => g j)))))
def oB (ci : Nat) (fs : List Value) : va_E := .inr (ci, fs)
def fup {α : Type} (g : Int → α) (i : Int) (v : α) : Int → α := fun j => if j = i then v else g j
theorem fup_s {α : Type} (g : Int → α) (i : Int) (v : α) : fup g i v i = v := if_pos rfl
theorem fup_n {α : Type} (g : Int → α) {i j : Int} (v : α) (h : j ≠ i) : fup g i v j = g j := if_neg h
theorem aI_ne {c : ClassId} {n : Nat} {g : Int → Int} : aI c n g ≠ eN := fun h => by cases h
theorem aJ_ne {c : ClassId} {n : Nat} {g : Int → Int} : aJ c n g ≠ eN := fun h => by cases h
theorem aQ_ne {c : ClassId} {n : Nat} {g : Int → Option Nat} : aQ c n g ≠ eN := fun h => by cases h
theorem oB_ne {ci : Nat} {fs : List Value} (h : ci < 999) : oB ci fs ≠ eN := fun q => by
  have h1 : ((ci, fs) : Nat × List Value) = (999, []) := Sum.inr.inj q
  have h2 : ci = 999 := congrArg Prod.fst h1
  omega
/-- two addresses that hold what differs are two -/
theorem h_ne {f : Hp} {a b : Nat} {x y : va_E} (ha : f a = x) (hb : f b = y) (h : x ≠ y) : a ≠ b := fun e => h (by rw [← ha, ← hb, e])
theorem oa_I {ci : Nat} {fs : List Value} {c : ClassId} {n : Nat} {g : Int → Int} : oB ci fs ≠ aI c n g := fun h => by cases h
theorem oa_J {ci : Nat} {fs : List Value} {c : ClassId} {n : Nat} {g : Int → Int} : oB ci fs ≠ aJ c n g := fun h => by cases h
theorem oa_Q {ci : Nat} {fs : List Value} {c : ClassId} {n : Nat} {g : Int → Option Nat} : oB ci fs ≠ aQ c n g := fun h => by cases h
theorem oo_n {ci cj : Nat} {fs gs : List Value} (h : ci ≠ cj) : oB ci fs ≠ oB cj gs := fun q => h (congrArg Prod.fst (Sum.inr.inj q))
theorem aIJ {c d : ClassId} {n k : Nat} {g g' : Int → Int} : aI c n g ≠ aJ d k g' := fun h => by
  have h1 := Sum.inl.inj h
  have h2 := congrArg (fun q => q.2.2) h1
  cases h2
theorem aIQ {c d : ClassId} {n k : Nat} {g : Int → Int} {g' : Int → Option Nat} : aI c n g ≠ aQ d k g' := fun h => by
  have h1 := Sum.inl.inj h
  have h2 := congrArg (fun q => q.2.2) h1
  cases h2
theorem aJQ {c d : ClassId} {n k : Nat} {g : Int → Int} {g' : Int → Option Nat} : aJ c n g ≠ aQ d k g' := fun h => by
  have h1 := Sum.inl.inj h
  have h2 := congrArg (fun q => q.2.2) h1
  have h3 : (Sum.inl (fun j : Nat => lZ (g j)) : (Nat → Int64) ⊕ (Nat → UInt32) ⊕ (Nat → UInt64) ⊕ (Nat → Option Nat)) = Sum.inr (Sum.inr (Sum.inr (fun j : Nat => g' j))) := Sum.inr.inj h2
  cases h3
theorem aI_n {c d : ClassId} {n k : Nat} {g g' : Int → Int} (h : n ≠ k) : aI c n g ≠ aI d k g' := fun q => h (congrArg (fun q => q.2.1) (Sum.inl.inj q))
theorem aJ_n {c d : ClassId} {n k : Nat} {g g' : Int → Int} (h : n ≠ k) : aJ c n g ≠ aJ d k g' := fun q => h (congrArg (fun q => q.2.1) (Sum.inl.inj q))
theorem aI_c {c d : ClassId} {n k : Nat} {g g' : Int → Int} (h : c ≠ d) : aI c n g ≠ aI d k g' := fun q => h (congrArg (fun q => q.1) (Sum.inl.inj q))
/-! ===== fields: what the tables say of an entry of a class' pool ===== -/
def jF (own : String) (idx ci k : Nat) : Prop := ∃ (C : String) (T : u_T) (N : Nat), vwCl[ci]? = some (C, T, N) ∧ k < N ∧ (∀ w ∈ u_ws C T N, w ∈ gw_tbl) ∧ Cond.fieldLink own idx C (T k).2.1 (T k).2.2.1 ∈ gw_tbl ∧ (T k).1 = C ∧ ci < 999
def jFp (own : String) (idx ci k : Nat) (ty : FieldType) : Prop := ∃ (C : String) (T : u_T) (N : Nat) (ty0 : Nat → FieldType), vwCl[ci]? = some (C, T, N) ∧ k < N ∧ (∀ w ∈ u_ws C T N, w ∈ gw_tbl) ∧ Cond.fieldLink own idx C (T k).2.1 (T k).2.2.1 ∈ gw_tbl ∧ (T k).1 = C ∧ ci < 999 ∧ (∀ k, k < N → parseFieldDescriptor (T k).2.2.1 = some (ty0 k)) ∧ (∀ a, a < N → ∀ b, b < N → a ≠ b → (T a).2.1 ≠ (T b).2.1) ∧ (T k).2.2.2 = false ∧ parseFieldDescriptor (T k).2.2.1 = some ty
def jFf (own : String) (idx ci k : Nat) (ty : FieldType) : Prop := ∃ (C : String) (T : u_T) (N : Nat) (ty0 : Nat → FieldType), vwCl[ci]? = some (C, T, N) ∧ k < N ∧ (∀ w ∈ u_ws C T N, w ∈ gw_tbl) ∧ Cond.fieldLink own idx C (T k).2.1 (T k).2.2.1 ∈ gw_tbl ∧ (T k).1 = C ∧ ci < 999 ∧ (∀ k, k < N → parseFieldDescriptor (T k).2.2.1 = some (ty0 k)) ∧ (∀ a, a < N → ∀ b, b < N → a ≠ b → (T a).2.1 ≠ (T b).2.1) ∧ (T k).2.2.2 = true ∧ parseFieldDescriptor (T k).2.2.1 = some ty ∧ C = own
/-- a place of the pool, set -/
theorem jset {L : List Nat} {f : Hp} {A : Nat → Prop} {D : va_G} {H : Heap} {a i : Nat} {x : va_E} (hdm : jdom L f) (ha : a ∈ L) (hi : (va_pl L f)[i]? = some (a, f a)) (hD0 : va_D A (va_pl L f)) (hx : x ≠ eN) (hP : va_P D vwCl ((va_pl L f).set i (a, x)) H) (hD : va_D A ((va_pl L f).set i (a, x))) : jdom L (va_up f a x) ∧ va_P D vwCl (va_pl L (va_up f a x)) H ∧ va_D A (va_pl L (va_up f a x)) := by
  have e := va_pl_set (X := []) (e := x) (by simpa using hD0) ha (by simpa using hi)
  simp only [List.nil_append] at e
  rw [e] at hP hD
  refine ⟨fun b => ?_, hP, hD⟩
  by_cases hb : b = a
  · subst hb
    rw [va_up_self]
    exact ⟨fun _ => hx, fun _ => ha⟩
  · rw [va_up_ne _ _ hb]
    exact hdm b
theorem jmem {L : List Nat} {f : Hp} {a : Nat} {x : va_E} (hdm : jdom L f) (h : f a = x) (hx : x ≠ eN) : a ∈ L ∧ ∃ i : Nat, (va_pl L f)[i]? = some (a, x) := by
  have ha : a ∈ L := (hdm a).mpr (by rw [h]; exact hx)
  obtain ⟨i, hi⟩ := va_pl_get (X := []) (f := f) ha
  exact ⟨ha, i, by rw [h] at hi; simpa using hi⟩
section JH
variable {G : JG} {l : Launch} {E : JE} {cc : ByteArray} {own : String} {nL : Nat} {rm : Room} {k n : Nat} {f : Hp} {pc : Nat} {lv : List (Nat × Value)} {st : List Value}
theorem j_get (hG : jX G l E cc own nL rm) {idx ci q a : Nat} {fs : List Value} {v : Value} (hF : jF own idx ci q) (hd : decode cc pc = .ok (.getfield idx, 3)) (h : f a = oB ci fs) (hv : fs[q]? = some v) (kk : J G k n f (pc + 3) lv (v :: st)) : J G k n f pc lv (.ref a :: st) := by
  obtain ⟨p, l', e, R, s, m, args, below, meth, c, E', A, Z⟩ := G
  obtain ⟨rfl, rfl, rfl, hx, hb, hml, hown, hlocks, hts, hK, hA, hNw, hRs, hSS⟩ := hG
  intro L H locs ls hdm hP hD hS hl
  obtain ⟨C, T, N, h1, h2, h3, h4, h5, h6⟩ := hF
  obtain ⟨-, i, hi⟩ := jmem hdm h (oB_ne h6)
  exact va_get (C := C) (T := T) (N := N) (ref := C) hx hb hts h3 hown hK hP i hi h1 q h2 (hts _ h4) (fun x hx => by rw [← h5] at *; exact hx) hv hd (kk L H locs ls hdm hP hD hS hl)
theorem j_put (hG : jX G l E cc own nL rm) {idx ci q a : Nat} {fs : List Value} {v : Value} {ty : FieldType} (hF : jFp own idx ci q ty) (hd : decode cc pc = .ok (.putfield idx, 3)) (h : f a = oB ci fs) (hn : narrow ty v = v) (hfit : fits ty v = true) (hq : q < fs.length) (kk : ∀ f' : Hp, f' a = oB ci (fs.set q v) → (∀ b, b ≠ a → f' b = f b) → J G k n f' (pc + 3) lv st) : J G k n f pc lv (v :: .ref a :: st) := by
  obtain ⟨p, l', e, R, s, m, args, below, meth, c, E', A, Z⟩ := G
  obtain ⟨rfl, rfl, rfl, hx, hb, hml, hown, hlocks, hts, hK, hA, hNw, hRs, hSS⟩ := hG
  intro L H locs ls hdm hP hD hS hl
  obtain ⟨C, T, N, ty0, h1, h2, h3, h4, h5, h6, h7, h8, h9, h10⟩ := hF
  obtain ⟨ha, i, hi⟩ := jmem hdm h (oB_ne h6)
  refine va_put (C := C) (T := T) (N := N) (ref := C) hx hb hts h3 ty0 h7 h8 hown hK hP hD hS i hi h1 q h2 (hts _ h4) (fun x hx => by rw [← h5] at *; exact hx) h9 h10 hn hfit hq hd (fun H1 locs1 hP1 hD1 hS1 => ?_)
  obtain ⟨e1, e2, e3⟩ := jset hdm ha (by rw [h]; exact hi) hD (oB_ne h6) hP1 hD1
  exact kk (va_up f a (oB ci (fs.set q v))) (va_up_self _ _ _) (fun b hb => va_up_ne _ _ hb) L H1 locs1 ls e1 e2 e3 hS1 hl
def jI (G : JG) : Prop :=
  match G with
  | (_, _, _, _, _, _, _, _, meth, _, _, _, _) => meth.name = "<init>"
theorem j_putF (hG : jX G l E cc own nL rm) (hin : jI G) {idx ci q a : Nat} {fs : List Value} {v : Value} {ty : FieldType} (hF : jFf own idx ci q ty) (hd : decode cc pc = .ok (.putfield idx, 3)) (h : f a = oB ci fs) (hn : narrow ty v = v) (hfit : fits ty v = true) (hq : q < fs.length) (kk : ∀ f' : Hp, f' a = oB ci (fs.set q v) → (∀ b, b ≠ a → f' b = f b) → J G k n f' (pc + 3) lv st) : J G k n f pc lv (v :: .ref a :: st) := by
  obtain ⟨p, l', e, R, s, m, args, below, meth, c, E', A, Z⟩ := G
  obtain ⟨rfl, rfl, rfl, hx, hb, hml, hown, hlocks, hts, hK, hA, hNw, hRs, hSS⟩ := hG
  have hin2 : meth.name = "<init>" := hin
  intro L H locs ls hdm hP hD hS hl
  obtain ⟨C, T, N, ty0, h1, h2, h3, h4, h5, h6, h7, h8, h9, h10, h11⟩ := hF
  obtain ⟨ha, i, hi⟩ := jmem hdm h (oB_ne h6)
  refine va_putF (C := C) (T := T) (N := N) (ref := C) hx hb hts h3 ty0 h7 h8 hown hK hP hD hS i hi h1 q h2 (hts _ h4) (fun x hx => by rw [← h5] at *; exact hx) h9 hin2 (by rw [h5]; exact h11) h10 hn hfit hq hd (fun H1 locs1 hP1 hD1 hS1 => ?_)
  obtain ⟨e1, e2, e3⟩ := jset hdm ha (by rw [h]; exact hi) hD (oB_ne h6) hP1 hD1
  exact kk (va_up f a (oB ci (fs.set q v))) (va_up_self _ _ _) (fun b hb => va_up_ne _ _ hb) L H1 locs1 ls e1 e2 e3 hS1 hl
theorem j_iald (hG : jX G l E cc own nL rm) {a N : Nat} {i : Int} {g : Int → Int} (hd : decode cc pc = .ok (.iaload, 1)) (h : f a = aI (E.2.1 0) N g) (hin : 0 ≤ i ∧ i < (N : Int)) (hN : N < 2147483648) (kk : J G k n f (pc + 1) lv (.int (iZ (g i)) :: st)) : J G k n f pc lv (.int (iZ i) :: .ref a :: st) := by
  obtain ⟨p, l', e, R, s, m, args, below, meth, c, E', A, Z⟩ := G
  obtain ⟨rfl, rfl, rfl, hx, hb, hml, hown, hlocks, hts, hK, hA, hNw, hRs, hSS⟩ := hG
  intro L H locs ls hdm hP hD hS hl
  obtain ⟨-, q, hq⟩ := jmem hdm h aI_ne
  refine va_iald hx hb hK hP q 0 hq rfl (iZ_in hin hN) hd ?_
  rw [iZ_cl (by omega)]
  have e : ((i.toNat : Nat) : Int) = i := Int.toNat_of_nonneg hin.1
  rw [e]
  exact kk L H locs ls hdm hP hD hS hl
theorem j_zald (hG : jX G l E cc own nL rm) {a N : Nat} {i : Int} {g : Int → Int} (hd : decode cc pc = .ok (.baload, 1)) (h : f a = aI (E.2.1 2) N g) (hin : 0 ≤ i ∧ i < (N : Int)) (hN : N < 2147483648) (kk : J G k n f (pc + 1) lv (.int (iZ (g i)) :: st)) : J G k n f pc lv (.int (iZ i) :: .ref a :: st) := by
  obtain ⟨p, l', e, R, s, m, args, below, meth, c, E', A, Z⟩ := G
  obtain ⟨rfl, rfl, rfl, hx, hb, hml, hown, hlocks, hts, hK, hA, hNw, hRs, hSS⟩ := hG
  intro L H locs ls hdm hP hD hS hl
  obtain ⟨-, q, hq⟩ := jmem hdm h aI_ne
  refine va_zald hx hb hK hP q 2 hq rfl (iZ_in hin hN) hd ?_
  rw [iZ_cl (by omega)]
  have e : ((i.toNat : Nat) : Int) = i := Int.toNat_of_nonneg hin.1
  rw [e]
  exact kk L H locs ls hdm hP hD hS hl
theorem j_cald (hG : jX G l E cc own nL rm) {a N : Nat} {i : Int} {g : Int → Int} (hd : decode cc pc = .ok (.caload, 1)) (h : f a = aI (E.2.1 3) N g) (hin : 0 ≤ i ∧ i < (N : Int)) (hN : N < 2147483648) (kk : J G k n f (pc + 1) lv (.int (iZ (g i)) :: st)) : J G k n f pc lv (.int (iZ i) :: .ref a :: st) := by
  obtain ⟨p, l', e, R, s, m, args, below, meth, c, E', A, Z⟩ := G
  obtain ⟨rfl, rfl, rfl, hx, hb, hml, hown, hlocks, hts, hK, hA, hNw, hRs, hSS⟩ := hG
  intro L H locs ls hdm hP hD hS hl
  obtain ⟨-, q, hq⟩ := jmem hdm h aI_ne
  refine va_cald hx hb hK hP q 3 hq rfl (iZ_in hin hN) hd ?_
  rw [iZ_cl (by omega)]
  have e : ((i.toNat : Nat) : Int) = i := Int.toNat_of_nonneg hin.1
  rw [e]
  exact kk L H locs ls hdm hP hD hS hl
theorem j_lald (hG : jX G l E cc own nL rm) {a N : Nat} {i : Int} {g : Int → Int} (hd : decode cc pc = .ok (.laload, 1)) (h : f a = aJ (E.2.1 1) N g) (hin : 0 ≤ i ∧ i < (N : Int)) (hN : N < 2147483648) (kk : J G k n f (pc + 1) lv (.long (lZ (g i)) :: st)) : J G k n f pc lv (.int (iZ i) :: .ref a :: st) := by
  obtain ⟨p, l', e, R, s, m, args, below, meth, c, E', A, Z⟩ := G
  obtain ⟨rfl, rfl, rfl, hx, hb, hml, hown, hlocks, hts, hK, hA, hNw, hRs, hSS⟩ := hG
  intro L H locs ls hdm hP hD hS hl
  obtain ⟨-, q, hq⟩ := jmem hdm h aJ_ne
  refine va_lald hx hb hK hP q 1 hq rfl (iZ_in hin hN) hd ?_
  rw [iZ_cl (by omega)]
  have e : ((i.toNat : Nat) : Int) = i := Int.toNat_of_nonneg hin.1
  rw [e]
  exact kk L H locs ls hdm hP hD hS hl
theorem j_ald4 (hG : jX G l E cc own nL rm) {a N b : Nat} {i : Int} {g : Int → Option Nat} (hd : decode cc pc = .ok (.aaload, 1)) (h : f a = aQ (E.2.1 4) N g) (hin : 0 ≤ i ∧ i < (N : Int)) (hN : N < 2147483648) (hg : g i = some b) (kk : J G k n f (pc + 1) lv (.ref b :: st)) : J G k n f pc lv (.int (iZ i) :: .ref a :: st) := by
  obtain ⟨p, l', e, R, s, m, args, below, meth, c, E', A, Z⟩ := G
  obtain ⟨rfl, rfl, rfl, hx, hb, hml, hown, hlocks, hts, hK, hA, hNw, hRs, hSS⟩ := hG
  intro L H locs ls hdm hP hD hS hl
  obtain ⟨-, q, hq⟩ := jmem hdm h aQ_ne
  refine va_aldq hx hb hK hP q 4 hq rfl (iZ_in hin hN) hd ?_
  rw [iZ_cl (by omega)]
  have e : ((i.toNat : Nat) : Int) = i := Int.toNat_of_nonneg hin.1
  rw [e, hg]
  exact kk L H locs ls hdm hP hD hS hl
theorem j_ald5 (hG : jX G l E cc own nL rm) {a N b : Nat} {i : Int} {g : Int → Option Nat} (hd : decode cc pc = .ok (.aaload, 1)) (h : f a = aQ (E.2.1 5) N g) (hin : 0 ≤ i ∧ i < (N : Int)) (hN : N < 2147483648) (hg : g i = some b) (kk : J G k n f (pc + 1) lv (.ref b :: st)) : J G k n f pc lv (.int (iZ i) :: .ref a :: st) := by
  obtain ⟨p, l', e, R, s, m, args, below, meth, c, E', A, Z⟩ := G
  obtain ⟨rfl, rfl, rfl, hx, hb, hml, hown, hlocks, hts, hK, hA, hNw, hRs, hSS⟩ := hG
  intro L H locs ls hdm hP hD hS hl
  obtain ⟨-, q, hq⟩ := jmem hdm h aQ_ne
  refine va_aldq hx hb hK hP q 5 hq rfl (iZ_in hin hN) hd ?_
  rw [iZ_cl (by omega)]
  have e : ((i.toNat : Nat) : Int) = i := Int.toNat_of_nonneg hin.1
  rw [e, hg]
  exact kk L H locs ls hdm hP hD hS hl
theorem j_alenJ (hG : jX G l E cc own nL rm) {a N : Nat} {g : Int → Int} (hd : decode cc pc = .ok (.arraylength, 1)) (h : f a = aJ (E.2.1 1) N g) (kk : J G k n f (pc + 1) lv (.int (iZ N) :: st)) : J G k n f pc lv (.ref a :: st) := by
  obtain ⟨p, l', e, R, s, m, args, below, meth, c, E', A, Z⟩ := G
  obtain ⟨rfl, rfl, rfl, hx, hb, hml, hown, hlocks, hts, hK, hA, hNw, hRs, hSS⟩ := hG
  intro L H locs ls hdm hP hD hS hl
  obtain ⟨-, q, hq⟩ := jmem hdm h aJ_ne
  exact va_alen hx hb hK hP q 1 hq (ty := .long) rfl (iZ_nI N) hd (kk L H locs ls hdm hP hD hS hl)
theorem j_alenI (hG : jX G l E cc own nL rm) {a N : Nat} {g : Int → Int} (hd : decode cc pc = .ok (.arraylength, 1)) (h : f a = aI (E.2.1 0) N g) (kk : J G k n f (pc + 1) lv (.int (iZ N) :: st)) : J G k n f pc lv (.ref a :: st) := by
  obtain ⟨p, l', e, R, s, m, args, below, meth, c, E', A, Z⟩ := G
  obtain ⟨rfl, rfl, rfl, hx, hb, hml, hown, hlocks, hts, hK, hA, hNw, hRs, hSS⟩ := hG
  intro L H locs ls hdm hP hD hS hl
  obtain ⟨-, q, hq⟩ := jmem hdm h aI_ne
  exact va_alen hx hb hK hP q 0 hq (ty := .int) rfl (iZ_nI N) hd (kk L H locs ls hdm hP hD hS hl)
theorem fun_upd {g : Int → Int} {i v : Int} (hi : 0 ≤ i) : upd (fun j : Nat => iZ (g j)) i.toNat (iZ v) = fun j : Nat => iZ (fup g i v j) := by
  funext j
  unfold upd fup
  by_cases h : j = i.toNat
  · rw [if_pos h, if_pos (by omega)]
  · rw [if_neg h, if_neg (by omega)]
theorem fun_updL {g : Int → Int} {i v : Int} (hi : 0 ≤ i) : vp_updL (fun j : Nat => lZ (g j)) i.toNat (lZ v) = fun j : Nat => lZ (fup g i v j) := by
  funext j
  unfold vp_updL fup
  by_cases h : j = i.toNat
  · rw [if_pos h, if_pos (by omega)]
  · rw [if_neg h, if_neg (by omega)]
theorem fun_updQ {g : Int → Option Nat} {i : Int} {v : Option Nat} (hi : 0 ≤ i) : va_up (fun j : Nat => g j) i.toNat v = fun j : Nat => fup g i v j := by
  funext j
  unfold va_up fup
  by_cases h : j = i.toNat
  · rw [if_pos h, if_pos (by omega)]
  · rw [if_neg h, if_neg (by omega)]
theorem nar_z {v : Int} (h : v = 0 ∨ v = 1) : vp_nar .boolean (iZ v) = iZ v := by rcases h with rfl | rfl <;> decide
theorem nar_c {v : Int} (h : 0 ≤ v ∧ v < 65536) : vp_nar .char (iZ v) = iZ v := by
  obtain ⟨m, rfl⟩ := Int.eq_ofNat_of_zero_le h.1
  rw [← iZ_nI]
  have h1 := (pk_charN (q := m) (by omega)).1
  unfold vp_nar
  rw [h1]
theorem j_iast (hG : jX G l E cc own nL rm) {a N : Nat} {i v : Int} {g : Int → Int} (hd : decode cc pc = .ok (.iastore, 1)) (h : f a = aI (E.2.1 0) N g) (hin : 0 ≤ i ∧ i < (N : Int)) (hN : N < 2147483648) (kk : ∀ f' : Hp, f' a = aI (E.2.1 0) N (fup g i v) → (∀ b, b ≠ a → f' b = f b) → J G k n f' (pc + 1) lv st) : J G k n f pc lv (.int (iZ v) :: .int (iZ i) :: .ref a :: st) := by
  obtain ⟨p, l', e, R, s, m, args, below, meth, c, E', A, Z⟩ := G
  obtain ⟨rfl, rfl, rfl, hx, hb, hml, hown, hlocks, hts, hK, hA, hNw, hRs, hSS⟩ := hG
  intro L H locs ls hdm hP hD hS hl
  obtain ⟨ha, q, hq⟩ := jmem hdm h aI_ne
  refine va_iast hx hb hK hP hD hS q 0 hq rfl (iZ_in hin hN) hd (fun H1 locs1 hP1 hD1 hS1 => ?_)
  rw [iZ_cl (by omega), fun_upd hin.1] at hP1 hD1
  obtain ⟨e1, e2, e3⟩ := jset (x := aI (E'.2.1 0) N (fup g i v)) hdm ha (by rw [h]; exact hq) hD aI_ne hP1 hD1
  exact kk _ (va_up_self _ _ _) (fun b hb => va_up_ne _ _ hb) L H1 locs1 ls e1 e2 e3 hS1 hl
theorem j_zast (hG : jX G l E cc own nL rm) {a N : Nat} {i v : Int} {g : Int → Int} (hd : decode cc pc = .ok (.bastore, 1)) (h : f a = aI (E.2.1 2) N g) (hin : 0 ≤ i ∧ i < (N : Int)) (hN : N < 2147483648) (hv : v = 0 ∨ v = 1) (kk : ∀ f' : Hp, f' a = aI (E.2.1 2) N (fup g i v) → (∀ b, b ≠ a → f' b = f b) → J G k n f' (pc + 1) lv st) : J G k n f pc lv (.int (iZ v) :: .int (iZ i) :: .ref a :: st) := by
  obtain ⟨p, l', e, R, s, m, args, below, meth, c, E', A, Z⟩ := G
  obtain ⟨rfl, rfl, rfl, hx, hb, hml, hown, hlocks, hts, hK, hA, hNw, hRs, hSS⟩ := hG
  intro L H locs ls hdm hP hD hS hl
  obtain ⟨ha, q, hq⟩ := jmem hdm h aI_ne
  refine va_zast hx hb hK hP hD hS q 2 hq rfl (iZ_in hin hN) hd (fun H1 locs1 hP1 hD1 hS1 => ?_)
  rw [nar_z hv, iZ_cl (by omega), fun_upd hin.1] at hP1 hD1
  obtain ⟨e1, e2, e3⟩ := jset (x := aI (E'.2.1 2) N (fup g i v)) hdm ha (by rw [h]; exact hq) hD aI_ne hP1 hD1
  exact kk _ (va_up_self _ _ _) (fun b hb => va_up_ne _ _ hb) L H1 locs1 ls e1 e2 e3 hS1 hl
theorem j_cast (hG : jX G l E cc own nL rm) {a N : Nat} {i v : Int} {g : Int → Int} (hd : decode cc pc = .ok (.castore, 1)) (h : f a = aI (E.2.1 3) N g) (hin : 0 ≤ i ∧ i < (N : Int)) (hN : N < 2147483648) (hv : 0 ≤ v ∧ v < 65536) (kk : ∀ f' : Hp, f' a = aI (E.2.1 3) N (fup g i v) → (∀ b, b ≠ a → f' b = f b) → J G k n f' (pc + 1) lv st) : J G k n f pc lv (.int (iZ v) :: .int (iZ i) :: .ref a :: st) := by
  obtain ⟨p, l', e, R, s, m, args, below, meth, c, E', A, Z⟩ := G
  obtain ⟨rfl, rfl, rfl, hx, hb, hml, hown, hlocks, hts, hK, hA, hNw, hRs, hSS⟩ := hG
  intro L H locs ls hdm hP hD hS hl
  obtain ⟨ha, q, hq⟩ := jmem hdm h aI_ne
  refine va_cast hx hb hK hP hD hS q 3 hq rfl (iZ_in hin hN) hd (fun H1 locs1 hP1 hD1 hS1 => ?_)
  rw [nar_c hv, iZ_cl (by omega), fun_upd hin.1] at hP1 hD1
  obtain ⟨e1, e2, e3⟩ := jset (x := aI (E'.2.1 3) N (fup g i v)) hdm ha (by rw [h]; exact hq) hD aI_ne hP1 hD1
  exact kk _ (va_up_self _ _ _) (fun b hb => va_up_ne _ _ hb) L H1 locs1 ls e1 e2 e3 hS1 hl
theorem j_last (hG : jX G l E cc own nL rm) {a N : Nat} {i v : Int} {g : Int → Int} (hd : decode cc pc = .ok (.lastore, 1)) (h : f a = aJ (E.2.1 1) N g) (hin : 0 ≤ i ∧ i < (N : Int)) (hN : N < 2147483648) (kk : ∀ f' : Hp, f' a = aJ (E.2.1 1) N (fup g i v) → (∀ b, b ≠ a → f' b = f b) → J G k n f' (pc + 1) lv st) : J G k n f pc lv (.long (lZ v) :: .int (iZ i) :: .ref a :: st) := by
  obtain ⟨p, l', e, R, s, m, args, below, meth, c, E', A, Z⟩ := G
  obtain ⟨rfl, rfl, rfl, hx, hb, hml, hown, hlocks, hts, hK, hA, hNw, hRs, hSS⟩ := hG
  intro L H locs ls hdm hP hD hS hl
  obtain ⟨ha, q, hq⟩ := jmem hdm h aJ_ne
  refine va_last hx hb hK hP hD hS q 1 hq rfl (iZ_in hin hN) hd (fun H1 locs1 hP1 hD1 hS1 => ?_)
  rw [iZ_cl (by omega), fun_updL hin.1] at hP1 hD1
  obtain ⟨e1, e2, e3⟩ := jset (x := aJ (E'.2.1 1) N (fup g i v)) hdm ha (by rw [h]; exact hq) hD aJ_ne hP1 hD1
  exact kk _ (va_up_self _ _ _) (fun b hb => va_up_ne _ _ hb) L H1 locs1 ls e1 e2 e3 hS1 hl
theorem j_ast4 (hG : jX G l E cc own nL rm) {a N b : Nat} {i : Int} {fs : List Value} {g : Int → Option Nat} (hd : decode cc pc = .ok (.aastore, 1)) (h : f a = aQ (E.2.1 4) N g) (hin : 0 ≤ i ∧ i < (N : Int)) (hN : N < 2147483648) (hb0 : f b = oB 7 fs) (kk : ∀ f' : Hp, f' a = aQ (E.2.1 4) N (fup g i (some b)) → (∀ b, b ≠ a → f' b = f b) → J G k n f' (pc + 1) lv st) : J G k n f pc lv (.ref b :: .int (iZ i) :: .ref a :: st) := by
  obtain ⟨p, l', e, R, s, m, args, below, meth, c, E', A, Z⟩ := G
  obtain ⟨rfl, rfl, rfl, hx, hb, hml, hown, hlocks, hts, hK, hA, hNw, hRs, hSS⟩ := hG
  intro L H locs ls hdm hP hD hS hl
  obtain ⟨ha, q, hq⟩ := jmem hdm h aQ_ne
  obtain ⟨-, q2, hq2⟩ := jmem hdm hb0 (oB_ne (by decide))
  refine va_astq hx hb hK hP hD hS q 4 q2 7 (r := (RX8, TX8, 3)) hq rfl hq2 rfl (iZ_in hin hN) hd (fun H1 locs1 hP1 hD1 hS1 => ?_)
  rw [iZ_cl (by omega), fun_updQ hin.1] at hP1 hD1
  obtain ⟨e1, e2, e3⟩ := jset (x := aQ (E'.2.1 4) N (fup g i (some b))) hdm ha (by rw [h]; exact hq) hD aQ_ne hP1 hD1
  exact kk _ (va_up_self _ _ _) (fun b hb => va_up_ne _ _ hb) L H1 locs1 ls e1 e2 e3 hS1 hl
theorem j_ast5 (hG : jX G l E cc own nL rm) {a N b : Nat} {i : Int} {fs : List Value} {g : Int → Option Nat} (hd : decode cc pc = .ok (.aastore, 1)) (h : f a = aQ (E.2.1 5) N g) (hin : 0 ≤ i ∧ i < (N : Int)) (hN : N < 2147483648) (hb0 : f b = oB 3 fs) (kk : ∀ f' : Hp, f' a = aQ (E.2.1 5) N (fup g i (some b)) → (∀ b, b ≠ a → f' b = f b) → J G k n f' (pc + 1) lv st) : J G k n f pc lv (.ref b :: .int (iZ i) :: .ref a :: st) := by
  obtain ⟨p, l', e, R, s, m, args, below, meth, c, E', A, Z⟩ := G
  obtain ⟨rfl, rfl, rfl, hx, hb, hml, hown, hlocks, hts, hK, hA, hNw, hRs, hSS⟩ := hG
  intro L H locs ls hdm hP hD hS hl
  obtain ⟨ha, q, hq⟩ := jmem hdm h aQ_ne
  obtain ⟨-, q2, hq2⟩ := jmem hdm hb0 (oB_ne (by decide))
  refine va_astq hx hb hK hP hD hS q 5 q2 3 (r := (RX3, TX3, 6)) hq rfl hq2 rfl (iZ_in hin hN) hd (fun H1 locs1 hP1 hD1 hS1 => ?_)
  rw [iZ_cl (by omega), fun_updQ hin.1] at hP1 hD1
  obtain ⟨e1, e2, e3⟩ := jset (x := aQ (E'.2.1 5) N (fup g i (some b))) hdm ha (by rw [h]; exact hq) hD aQ_ne hP1 hD1
  exact kk _ (va_up_self _ _ _) (fun b hb => va_up_ne _ _ hb) L H1 locs1 ls e1 e2 e3 hS1 hl
theorem j_ret_q {P : Option Value → Hp → Prop} {p : Program} {e : Env} {R : Room} {s : State} {m : MethodId} {args : Array Value} {A : Nat → Prop} {L : List Nat} {H : Heap} {locs : List Loc} {v : Option Value} (hdm : jdom L f) (hP : va_P E.1 vwCl (va_pl L f) H) (hD : va_D A (va_pl L f)) (hS : va_S A s.heap H locs) (h : P v f) (t : State) (ht : t.heap = H) : jQ E P A args s (.returned v) t :=
  ⟨⟨v, f, L, rfl, h, hdm, by rw [ht]; exact hP, hD⟩, hS.F ht⟩
theorem j_iret (hG : jX G l E cc own nL rm) {P : Option Value → Hp → Prop} {x : Int32} (hZ : jZ G (some .int) P) (hd : decode cc pc = .ok (.ireturn, 1)) (hk : k ≤ rm.cells) (hn : n ≤ rm.slots) (h : P (some (.int x)) f) : J G k n f pc lv [.int x] := by
  obtain ⟨p, l', e, R, s, m, args, below, meth, c, E', A, Z⟩ := G
  obtain ⟨rfl, rfl, rfl, hx, hb, hml, hown, hlocks, hts, hK, hA, hNw, hRs, hSS⟩ := hG
  obtain ⟨rfl, hr⟩ := hZ
  intro L H locs ls hdm hP hD hS hl
  refine W.widen hk hn ?_
  exact W.iret hx hb hr (fun t ht _ => j_ret_q (p := p) (e := e) (R := R) (m := m) hdm hP hD hS h t ht) hS.2.2 hd hlocks
theorem j_lret (hG : jX G l E cc own nL rm) {P : Option Value → Hp → Prop} {x : Int64} (hZ : jZ G (some .long) P) (hd : decode cc pc = .ok (.lreturn, 1)) (hk : k ≤ rm.cells) (hn : n ≤ rm.slots) (h : P (some (.long x)) f) : J G k n f pc lv [.long x] := by
  obtain ⟨p, l', e, R, s, m, args, below, meth, c, E', A, Z⟩ := G
  obtain ⟨rfl, rfl, rfl, hx, hb, hml, hown, hlocks, hts, hK, hA, hNw, hRs, hSS⟩ := hG
  obtain ⟨rfl, hr⟩ := hZ
  intro L H locs ls hdm hP hD hS hl
  refine W.widen hk hn ?_
  exact W.lret hx hb hr (fun t ht _ => j_ret_q (p := p) (e := e) (R := R) (m := m) hdm hP hD hS h t ht) hS.2.2 hd hlocks
theorem j_zret (hG : jX G l E cc own nL rm) {P : Option Value → Hp → Prop} {x : Int32} {ty : FieldType} (hZ : jZ G (some ty) P) (hd : decode cc pc = .ok (.ireturn, 1)) (hk : k ≤ rm.cells) (hn : n ≤ rm.slots) (hx0 : narrow ty (.int x) = .int x) (h : P (some (.int x)) f) : J G k n f pc lv [.int x] := by
  obtain ⟨p, l', e, R, s, m, args, below, meth, c, E', A, Z⟩ := G
  obtain ⟨rfl, rfl, rfl, hx, hb, hml, hown, hlocks, hts, hK, hA, hNw, hRs, hSS⟩ := hG
  obtain ⟨rfl, hr⟩ := hZ
  intro L H locs ls hdm hP hD hS hl
  refine W.widen hk hn ?_
  exact W.zret hx hb hr hx0 (fun t ht _ => j_ret_q (p := p) (e := e) (R := R) (m := m) hdm hP hD hS h t ht) hS.2.2 hd hlocks
theorem j_vret (hG : jX G l E cc own nL rm) {P : Option Value → Hp → Prop} (hZ : jZ G none P) (hd : decode cc pc = .ok (.return_, 1)) (hk : k ≤ rm.cells) (hn : n ≤ rm.slots) (h : P none f) : J G k n f pc lv [] := by
  obtain ⟨p, l', e, R, s, m, args, below, meth, c, E', A, Z⟩ := G
  obtain ⟨rfl, rfl, rfl, hx, hb, hml, hown, hlocks, hts, hK, hA, hNw, hRs, hSS⟩ := hG
  obtain ⟨rfl, hr⟩ := hZ
  intro L H locs ls hdm hP hD hS hl
  refine W.widen hk hn ?_
  exact W.vret hx hb hr (fun t ht _ => j_ret_q (p := p) (e := e) (R := R) (m := m) hdm hP hD hS h t ht) hS.2.2 hd hlocks
theorem j_aret (hG : jX G l E cc own nL rm) {P : Option Value → Hp → Prop} {a : Nat} {nm : String} (hZ : jZ G (some (.object nm)) P) (hd : decode cc pc = .ok (.areturn, 1)) (hk : k ≤ rm.cells) (hn : n ≤ rm.slots) (h : P (some (.ref a)) f) : J G k n f pc lv [.ref a] := by
  obtain ⟨p, l', e, R, s, m, args, below, meth, c, E', A, Z⟩ := G
  obtain ⟨rfl, rfl, rfl, hx, hb, hml, hown, hlocks, hts, hK, hA, hNw, hRs, hSS⟩ := hG
  obtain ⟨rfl, hr⟩ := hZ
  intro L H locs ls hdm hP hD hS hl
  refine W.widen hk hn ?_
  exact W.aret hx hb hr (Or.inl ⟨nm, rfl⟩) (Or.inr ⟨a, rfl⟩) (fun t ht _ => j_ret_q (p := p) (e := e) (R := R) (m := m) hdm hP hD hS h t ht) hS.2.2 hd hlocks
theorem nar_zr {v : Int} (h : v = 0 ∨ v = 1) : narrow .boolean (.int (iZ v)) = .int (iZ v) := by rcases h with rfl | rfl <;> decide
end JH
end
section
/-! ===== calls ===== -/
theorem callX {p : Program} {l : Launch} {e : Env} {R : Room} {s : State} {m : MethodId} {args : Array Value} {below : List Frame} {meth : Method} {c : Code} {H : Heap} {locs : List Loc} {cells slots mc ms pc : Nat} {Q : State → Prop} {ls : Array Slot} {rest st0 : List Value} {a : Array Value} {A0 A1 : Nat → Prop} {E : JE} {P : Option Value → Hp → Prop}
    (hr : va_Run p l e R s m args below meth c H locs cells slots mc ms (F0 m pc ls st0) rest (jQ E P A1 a) A1) (hS : va_S A0 s.heap H locs) (hA : ∀ q, A1 q → A0 q)
    (kk : ∀ (v : Option Value) (f' : Hp) (L : List Nat) (H1 : Heap) (locs1 : List Loc), P v f' → jdom L f' → va_P E.1 vwCl (va_pl L f') H1 → va_D A0 (va_pl L f') → va_S A0 s.heap H1 locs1 → W p l e R s m args below meth c H1 locs1 (cells + mc) (slots + ms) Q (F0 m (pc + 3) ls (v.toList ++ rest))) : W p l e R s m args below meth c H locs cells slots Q (F0 m pc ls st0) := by
  intro T hT X
  obtain ⟨v, st₀, t, T', L0, h0, X', hL, e1, e2, ⟨⟨v', f', L, hv, hp, hdm, hP, hD⟩, hz, hk⟩, st⟩ := hr T hT X
  cases hv
  rw [h0] at hz hk
  obtain ⟨t2, a1, b1⟩ := kk v f' L T'.heap (locs ++ L0) hp hdm (by rw [e1]; exact hP) (hD.weaken (fun k q _ h => hA q.1 h))
    ⟨Nat.le_trans hS.1 (by rw [e1]; exact hz), fun q h1 h2 => by rw [e1, hk q (Nat.lt_of_lt_of_le h1 hS.1) (fun z => h2 (hA q z))]; exact hS.2.1 q h1 h2, fun q hq => by
      rcases List.mem_append.mp hq with h | h
      · exact hS.2.2 q h
      · exact hA _ (hL q h)⟩ T' rfl X'
  exact ⟨t2, st t2 a1, b1⟩
theorem AF_in {f : Hp} {L : List Nat} {s : State} {H : Heap} {locs : List Loc} {A : Nat → Prop} (hdm : jdom L f) (hD : va_D A (va_pl L f)) (hS : va_S A s.heap H locs) (hA : ∀ q, s.heap.size ≤ q → A q) : ∀ q, AF f H.size q → A q := by
  intro q h
  rcases h with h | h
  · have hq : q ∈ L := (hdm q).mpr h
    obtain ⟨i, hi⟩ := va_pl_get (X := []) (f := f) hq
    exact hD.2 i (q, f q) (by simpa using hi)
  · exact hA q (Nat.le_trans hS.1 h)
theorem jPre_at {E : JE} {f : Hp} {L : List Nat} {s U : State} {H : Heap} {locs : List Loc} {A : Nat → Prop} (hdm : jdom L f) (hP : va_P E.1 vwCl (va_pl L f) H) (hD : va_D A (va_pl L f)) (hS : va_S A s.heap H locs) (hA : ∀ q, s.heap.size ≤ q → A q) (hK : va_K E.1 vwCl (tysK E.2.1) s) (hN : jN s) (hR : jR E s) (hSS : jS E A s s.heap) (hU : U.heap = H) (hW : s.WarmedH U.vm) : jPre E f H.size U := by
  refine ⟨by rw [hU], ⟨L, hdm, by rw [hU]; exact hP, hD.weaken (fun _ _ _ _ => trivial)⟩, va_K.moved hW.alike hK, hN.warm hW, hR.warm hW, ?_⟩
  rw [hU]
  exact ((hSS.kept hS.2.1).moved hW.alike).narrow (AF_in hdm hD hS hA)
abbrev notMH (y : MethodName) (na : Nat) : Prop := y.cls ≠ "java/lang/invoke/MethodHandle" ∧ y.cls ≠ "java/lang/invoke/VarHandle" ∧ (parseMethodDescriptor y.desc).map (fun d => d.parameters.length) = some na
def jV (own : String) (idx ci : Nat) (y : MethodName) (cy : ByteArray) (maxL : Nat) (ret : Option FieldType) (na : Nat) : Prop := (∃ (T : u_T) (N : Nat), vwCl[ci]? = some (y.cls, T, N)) ∧ ci < 999 ∧ (∀ w ∈ [Cond.methodLink own idx y, Cond.instanceMethod y, Cond.selects y.cls y y, Cond.initialized y.cls], w ∈ gw_tbl) ∧ Cond.code y cy maxL ret ∈ gw_tbl ∧ notMH y na
def jSs (own : String) (idx : Nat) (y : MethodName) (cy : ByteArray) (maxL : Nat) (ret : Option FieldType) (na : Nat) : Prop := (∀ w ∈ [Cond.methodLink own idx y, Cond.static y, Cond.initialized y.cls], w ∈ gw_tbl) ∧ Cond.code y cy maxL ret ∈ gw_tbl ∧ notMH y na
def jSn (own : String) (idx : Nat) (y : MethodName) (cy : ByteArray) (maxL : Nat) (ret : Option FieldType) (na : Nat) : Prop := (own, idx, y) ∈ nestQ ∧ Cond.static y ∈ gw_tbl ∧ Cond.initialized y.cls ∈ gw_tbl ∧ Cond.code y cy maxL ret ∈ gw_tbl ∧ notMH y na
def jIi (own : String) (idx : Nat) (y : MethodName) (cy : ByteArray) (maxL na : Nat) : Prop := (∀ w ∈ [Cond.methodLink own idx y, Cond.instanceMethod y, Cond.initialized y.cls], w ∈ gw_tbl) ∧ Cond.code y cy maxL none ∈ gw_tbl ∧ notMH y na ∧ y.name = "<init>"
def jIn (own : String) (idx : Nat) (y : MethodName) (cy : ByteArray) (maxL na : Nat) : Prop := (own, idx, y) ∈ nestQ ∧ Cond.instanceMethod y ∈ gw_tbl ∧ Cond.initialized y.cls ∈ gw_tbl ∧ Cond.code y cy maxL none ∈ gw_tbl ∧ notMH y na ∧ y.name = "<init>"
section JC
variable {G : JG} {l : Launch} {E : JE} {cc : ByteArray} {own : String} {nL : Nat} {rm : Room} {k n : Nat} {f : Hp} {pc : Nat} {lv : List (Nat × Value)} {st : List Value}
theorem j_callV (hG : jX G l E cc own nL rm) {idx maxL na : Nat} {y : MethodName} {cy : ByteArray} {ret : Option FieldType} {ry : Room} {As rest : List Value} {P : Option Value → Hp → Prop} {b : Nat} {ci : Nat} {fs : List Value} (hV : jV own idx ci y cy maxL ret na) (hd : decode cc pc = .ok (.invokevirtual idx, 3)) (hc : Ct l E y cy maxL ret ry (.ref b :: As) f P) (hb0 : f b = oB ci fs) (hst : st = As.reverse ++ .ref b :: rest) (hna : As.length = na) (hfr : ry.frames + 1 ≤ rm.frames) (hlo : 8 + (maxL + 11) + ry.locals ≤ rm.locals) (hrs : (rest.map fun v => v.category).sum ≤ 8) (h0 : ry.cells = 0) (h1 : ry.slots = 0) (hkc : k + ry.cells ≤ rm.cells) (hks : n + ry.slots ≤ rm.slots) (kk : ∀ (v : Option Value) (f' : Hp), P v f' → J G k n f' (pc + 3) lv (v.toList ++ rest)) : J G k n f pc lv st := by
  obtain ⟨p, l', e, R, s, m, args, below, meth, c, E', A, Z⟩ := G
  obtain ⟨rfl, rfl, rfl, hx, hb, hml, hown, hlocks, hts, hK, hA, hNw, hRs, hSS⟩ := hG
  intro L H locs ls hdm hP hD hS hl
  obtain ⟨⟨T, N, g1⟩, g2, g3, g4, g5⟩ := hV
  obtain ⟨-, q, hq⟩ := jmem hdm hb0 (oB_ne g2)
  have hr := va_runV (p := p) (e := e) (below := below) (meth := meth) (locs := locs) (cells := k) (slots := n) (rest := rest) (As := As) (b := b) (g := F0 m pc ls st) ⟨hx, hb, hml, hown, hts⟩ (hc H.size) (cwV (C := y.cls) na hts (gw_app (fun _ h => h) g3 (gw_ws g4)) rfl rfl rfl ⟨rfl, g5⟩ ⟨hfr, hlo⟩) ⟨jPre_blind, va_recv hK hP (ci := ci) (q := (y.cls, T, N)) (q0 := q) g1 hq, fun U hU hW => ⟨rfl, jPre_at hdm hP hD hS hA hK hNw hRs hSS hU hW⟩⟩ rfl hna (by rw [← hml]; exact hl.1) hst (lv_room hrs) hd ⟨hkc, hks⟩
  rw [h0, h1] at hr
  exact callX (hr) hS (AF_in hdm hD hS hA) (fun v f' L1 H1 locs1 hp1 hd1 hP1 hD1 hS1 => kk v f' hp1 L1 H1 locs1 ls hd1 hP1 hD1 hS1 hl)
theorem j_callS (hG : jX G l E cc own nL rm) {idx maxL na : Nat} {y : MethodName} {cy : ByteArray} {ret : Option FieldType} {ry : Room} {As rest : List Value} {P : Option Value → Hp → Prop} (hV : jSs own idx y cy maxL ret na) (hd : decode cc pc = .ok (.invokestatic idx, 3)) (hc : Ct l E y cy maxL ret ry As f P) (hst : st = As.reverse ++ rest) (hna : As.length = na) (hfr : ry.frames + 1 ≤ rm.frames) (hlo : 8 + (maxL + 11) + ry.locals ≤ rm.locals) (hrs : (rest.map fun v => v.category).sum ≤ 8) (h0 : ry.cells = 0) (h1 : ry.slots = 0) (hkc : k + ry.cells ≤ rm.cells) (hks : n + ry.slots ≤ rm.slots) (kk : ∀ (v : Option Value) (f' : Hp), P v f' → J G k n f' (pc + 3) lv (v.toList ++ rest)) : J G k n f pc lv st := by
  obtain ⟨p, l', e, R, s, m, args, below, meth, c, E', A, Z⟩ := G
  obtain ⟨rfl, rfl, rfl, hx, hb, hml, hown, hlocks, hts, hK, hA, hNw, hRs, hSS⟩ := hG
  intro L H locs ls hdm hP hD hS hl
  obtain ⟨g3, g4, g5⟩ := hV
  have hr := va_runS (p := p) (e := e) (below := below) (meth := meth) (locs := locs) (cells := k) (slots := n) (rest := rest) (As := As) (g := F0 m pc ls st) ⟨hx, hb, hml, hown, hts⟩ (hc H.size) (va_cwS na hts (gw_app (fun _ h => h) g3 (gw_ws g4)) rfl rfl rfl g5 ⟨hfr, hlo⟩) ⟨jPre_blind, fun U hU hW => ⟨rfl, jPre_at hdm hP hD hS hA hK hNw hRs hSS hU hW⟩⟩ rfl hna (by rw [← hml]; exact hl.1) hst (lv_room hrs) hd ⟨hkc, hks⟩
  rw [h0, h1] at hr
  exact callX (hr) hS (AF_in hdm hD hS hA) (fun v f' L1 H1 locs1 hp1 hd1 hP1 hD1 hS1 => kk v f' hp1 L1 H1 locs1 ls hd1 hP1 hD1 hS1 hl)
theorem j_callSN (hG : jX G l E cc own nL rm) {idx maxL na : Nat} {y : MethodName} {cy : ByteArray} {ret : Option FieldType} {ry : Room} {As rest : List Value} {P : Option Value → Hp → Prop} (hV : jSn own idx y cy maxL ret na) (hd : decode cc pc = .ok (.invokestatic idx, 3)) (hc : Ct l E y cy maxL ret ry As f P) (hst : st = As.reverse ++ rest) (hna : As.length = na) (hfr : ry.frames + 1 ≤ rm.frames) (hlo : 8 + (maxL + 11) + ry.locals ≤ rm.locals) (hrs : (rest.map fun v => v.category).sum ≤ 8) (h0 : ry.cells = 0) (h1 : ry.slots = 0) (hkc : k + ry.cells ≤ rm.cells) (hks : n + ry.slots ≤ rm.slots) (kk : ∀ (v : Option Value) (f' : Hp), P v f' → J G k n f' (pc + 3) lv (v.toList ++ rest)) : J G k n f pc lv st := by
  obtain ⟨p, l', e, R, s, m, args, below, meth, c, E', A, Z⟩ := G
  obtain ⟨rfl, rfl, rfl, hx, hb, hml, hown, hlocks, hts, hK, hA, hNw, hRs, hSS⟩ := hG
  intro L H locs ls hdm hP hD hS hl
  obtain ⟨g1, g2, g3, g4, g5⟩ := hV
  have hr := va_runSN (p := p) (e := e) (below := below) (meth := meth) (locs := locs) (cells := k) (slots := n) (rest := rest) (As := As) (g := F0 m pc ls st) ⟨hx, hb, hml, hown, hts⟩ (hc H.size) (⟨va_cnB na hts (fun w h => ⟨gw_ws g4 w h, gw_good (gw_ws g4 w h)⟩) rfl rfl rfl (hNw.1 _ g1) (hts _ g3) g5 ⟨hfr, hlo⟩, hts _ g2, trivial⟩) ⟨jPre_blind, fun U hU hW => ⟨rfl, jPre_at hdm hP hD hS hA hK hNw hRs hSS hU hW⟩⟩ rfl hna (by rw [← hml]; exact hl.1) hst (lv_room hrs) hd ⟨hkc, hks⟩
  rw [h0, h1] at hr
  exact callX (hr) hS (AF_in hdm hD hS hA) (fun v f' L1 H1 locs1 hp1 hd1 hP1 hD1 hS1 => kk v f' hp1 L1 H1 locs1 ls hd1 hP1 hD1 hS1 hl)
theorem j_callI (hG : jX G l E cc own nL rm) {idx maxL na : Nat} {y : MethodName} {cy : ByteArray} {ry : Room} {As rest : List Value} {P : Option Value → Hp → Prop} {b : Nat} (hV : jIi own idx y cy maxL na) (hd : decode cc pc = .ok (.invokespecial idx, 3)) (hc : Ct l E y cy maxL none ry (.ref b :: As) f P) (hst : st = As.reverse ++ .ref b :: rest) (hna : As.length = na) (hfr : ry.frames + 1 ≤ rm.frames) (hlo : 8 + (maxL + 11) + ry.locals ≤ rm.locals) (hrs : (rest.map fun v => v.category).sum ≤ 8) (h0 : ry.cells = 0) (h1 : ry.slots = 0) (hkc : k + ry.cells ≤ rm.cells) (hks : n + ry.slots ≤ rm.slots) (kk : ∀ (v : Option Value) (f' : Hp), P v f' → J G k n f' (pc + 3) lv (v.toList ++ rest)) : J G k n f pc lv st := by
  obtain ⟨p, l', e, R, s, m, args, below, meth, c, E', A, Z⟩ := G
  obtain ⟨rfl, rfl, rfl, hx, hb, hml, hown, hlocks, hts, hK, hA, hNw, hRs, hSS⟩ := hG
  intro L H locs ls hdm hP hD hS hl
  obtain ⟨g3, g4, g5, g6⟩ := hV
  have hr := va_runI (p := p) (e := e) (below := below) (meth := meth) (locs := locs) (cells := k) (slots := n) (rest := rest) (As := As) (b := b) (g := F0 m pc ls st) ⟨hx, hb, hml, hown, hts⟩ (hc H.size) (cwI na hts (fun w h => ⟨gw_ws g4 w h, gw_good (gw_ws g4 w h)⟩) rfl rfl rfl (hts _ (g3 _ (List.mem_cons_of_mem _ (List.mem_cons_of_mem _ List.mem_cons_self)))) (hts _ (g3 _ List.mem_cons_self)) (hts _ (g3 _ (List.mem_cons_of_mem _ List.mem_cons_self))) g6 g5 ⟨hfr, hlo⟩) ⟨jPre_blind, fun U hU hW => ⟨rfl, jPre_at hdm hP hD hS hA hK hNw hRs hSS hU hW⟩⟩ rfl hna (by rw [← hml]; exact hl.1) hst (lv_room hrs) hd ⟨hkc, hks⟩
  rw [h0, h1] at hr
  exact callX (hr) hS (AF_in hdm hD hS hA) (fun v f' L1 H1 locs1 hp1 hd1 hP1 hD1 hS1 => kk v f' hp1 L1 H1 locs1 ls hd1 hP1 hD1 hS1 hl)
theorem j_callIN (hG : jX G l E cc own nL rm) {idx maxL na : Nat} {y : MethodName} {cy : ByteArray} {ry : Room} {As rest : List Value} {P : Option Value → Hp → Prop} {b : Nat} (hV : jIn own idx y cy maxL na) (hd : decode cc pc = .ok (.invokespecial idx, 3)) (hc : Ct l E y cy maxL none ry (.ref b :: As) f P) (hst : st = As.reverse ++ .ref b :: rest) (hna : As.length = na) (hfr : ry.frames + 1 ≤ rm.frames) (hlo : 8 + (maxL + 11) + ry.locals ≤ rm.locals) (hrs : (rest.map fun v => v.category).sum ≤ 8) (h0 : ry.cells = 0) (h1 : ry.slots = 0) (hkc : k + ry.cells ≤ rm.cells) (hks : n + ry.slots ≤ rm.slots) (kk : ∀ (v : Option Value) (f' : Hp), P v f' → J G k n f' (pc + 3) lv (v.toList ++ rest)) : J G k n f pc lv st := by
  obtain ⟨p, l', e, R, s, m, args, below, meth, c, E', A, Z⟩ := G
  obtain ⟨rfl, rfl, rfl, hx, hb, hml, hown, hlocks, hts, hK, hA, hNw, hRs, hSS⟩ := hG
  intro L H locs ls hdm hP hD hS hl
  obtain ⟨g1, g2, g3, g4, g5, g6⟩ := hV
  have hr := va_runIN (p := p) (e := e) (below := below) (meth := meth) (locs := locs) (cells := k) (slots := n) (rest := rest) (As := As) (b := b) (g := F0 m pc ls st) ⟨hx, hb, hml, hown, hts⟩ (hc H.size) (⟨va_cnB na hts (fun w h => ⟨gw_ws g4 w h, gw_good (gw_ws g4 w h)⟩) rfl rfl rfl (hNw.1 _ g1) (hts _ g3) g5 ⟨hfr, hlo⟩, g6, hts _ g2⟩) ⟨jPre_blind, fun U hU hW => ⟨rfl, jPre_at hdm hP hD hS hA hK hNw hRs hSS hU hW⟩⟩ rfl hna (by rw [← hml]; exact hl.1) hst (lv_room hrs) hd ⟨hkc, hks⟩
  rw [h0, h1] at hr
  exact callX (hr) hS (AF_in hdm hD hS hA) (fun v f' L1 H1 locs1 hp1 hd1 hP1 hD1 hS1 => kk v f' hp1 L1 H1 locs1 ls hd1 hP1 hD1 hS1 hl)
theorem j_callVA (hG : jX G l E cc own nL rm) {idx maxL na : Nat} {y : MethodName} {cy : ByteArray} {ret : Option FieldType} {ry : Room} {As rest : List Value} {P : Option Value → Hp → Prop} {b : Nat} {ci : Nat} {fs : List Value} (hV : jV own idx ci y cy maxL ret na) (hd : decode cc pc = .ok (.invokevirtual idx, 3)) (hc : Ct l E y cy maxL ret ry (.ref b :: As) f P) (hb0 : f b = oB ci fs) (hst : st = As.reverse ++ .ref b :: rest) (hna : As.length = na) (hfr : ry.frames + 1 ≤ rm.frames) (hlo : 8 + (maxL + 11) + ry.locals ≤ rm.locals) (hrs : (rest.map fun v => v.category).sum ≤ 8) (hkc : k + ry.cells ≤ rm.cells) (hks : n + ry.slots ≤ rm.slots) (kk : ∀ (v : Option Value) (f' : Hp), P v f' → J G (k + ry.cells) (n + ry.slots) f' (pc + 3) lv (v.toList ++ rest)) : J G k n f pc lv st := by
  obtain ⟨p, l', e, R, s, m, args, below, meth, c, E', A, Z⟩ := G
  obtain ⟨rfl, rfl, rfl, hx, hb, hml, hown, hlocks, hts, hK, hA, hNw, hRs, hSS⟩ := hG
  intro L H locs ls hdm hP hD hS hl
  obtain ⟨⟨T, N, g1⟩, g2, g3, g4, g5⟩ := hV
  obtain ⟨-, q, hq⟩ := jmem hdm hb0 (oB_ne g2)
  have hr := va_runV (p := p) (e := e) (below := below) (meth := meth) (locs := locs) (cells := k) (slots := n) (rest := rest) (As := As) (b := b) (g := F0 m pc ls st) ⟨hx, hb, hml, hown, hts⟩ (hc H.size) (cwV (C := y.cls) na hts (gw_app (fun _ h => h) g3 (gw_ws g4)) rfl rfl rfl ⟨rfl, g5⟩ ⟨hfr, hlo⟩) ⟨jPre_blind, va_recv hK hP (ci := ci) (q := (y.cls, T, N)) (q0 := q) g1 hq, fun U hU hW => ⟨rfl, jPre_at hdm hP hD hS hA hK hNw hRs hSS hU hW⟩⟩ rfl hna (by rw [← hml]; exact hl.1) hst (lv_room hrs) hd ⟨hkc, hks⟩
  exact callX (hr) hS (AF_in hdm hD hS hA) (fun v f' L1 H1 locs1 hp1 hd1 hP1 hD1 hS1 => kk v f' hp1 L1 H1 locs1 ls hd1 hP1 hD1 hS1 hl)
theorem j_callSA (hG : jX G l E cc own nL rm) {idx maxL na : Nat} {y : MethodName} {cy : ByteArray} {ret : Option FieldType} {ry : Room} {As rest : List Value} {P : Option Value → Hp → Prop} (hV : jSs own idx y cy maxL ret na) (hd : decode cc pc = .ok (.invokestatic idx, 3)) (hc : Ct l E y cy maxL ret ry As f P) (hst : st = As.reverse ++ rest) (hna : As.length = na) (hfr : ry.frames + 1 ≤ rm.frames) (hlo : 8 + (maxL + 11) + ry.locals ≤ rm.locals) (hrs : (rest.map fun v => v.category).sum ≤ 8) (hkc : k + ry.cells ≤ rm.cells) (hks : n + ry.slots ≤ rm.slots) (kk : ∀ (v : Option Value) (f' : Hp), P v f' → J G (k + ry.cells) (n + ry.slots) f' (pc + 3) lv (v.toList ++ rest)) : J G k n f pc lv st := by
  obtain ⟨p, l', e, R, s, m, args, below, meth, c, E', A, Z⟩ := G
  obtain ⟨rfl, rfl, rfl, hx, hb, hml, hown, hlocks, hts, hK, hA, hNw, hRs, hSS⟩ := hG
  intro L H locs ls hdm hP hD hS hl
  obtain ⟨g3, g4, g5⟩ := hV
  have hr := va_runS (p := p) (e := e) (below := below) (meth := meth) (locs := locs) (cells := k) (slots := n) (rest := rest) (As := As) (g := F0 m pc ls st) ⟨hx, hb, hml, hown, hts⟩ (hc H.size) (va_cwS na hts (gw_app (fun _ h => h) g3 (gw_ws g4)) rfl rfl rfl g5 ⟨hfr, hlo⟩) ⟨jPre_blind, fun U hU hW => ⟨rfl, jPre_at hdm hP hD hS hA hK hNw hRs hSS hU hW⟩⟩ rfl hna (by rw [← hml]; exact hl.1) hst (lv_room hrs) hd ⟨hkc, hks⟩
  exact callX (hr) hS (AF_in hdm hD hS hA) (fun v f' L1 H1 locs1 hp1 hd1 hP1 hD1 hS1 => kk v f' hp1 L1 H1 locs1 ls hd1 hP1 hD1 hS1 hl)
theorem j_callSNA (hG : jX G l E cc own nL rm) {idx maxL na : Nat} {y : MethodName} {cy : ByteArray} {ret : Option FieldType} {ry : Room} {As rest : List Value} {P : Option Value → Hp → Prop} (hV : jSn own idx y cy maxL ret na) (hd : decode cc pc = .ok (.invokestatic idx, 3)) (hc : Ct l E y cy maxL ret ry As f P) (hst : st = As.reverse ++ rest) (hna : As.length = na) (hfr : ry.frames + 1 ≤ rm.frames) (hlo : 8 + (maxL + 11) + ry.locals ≤ rm.locals) (hrs : (rest.map fun v => v.category).sum ≤ 8) (hkc : k + ry.cells ≤ rm.cells) (hks : n + ry.slots ≤ rm.slots) (kk : ∀ (v : Option Value) (f' : Hp), P v f' → J G (k + ry.cells) (n + ry.slots) f' (pc + 3) lv (v.toList ++ rest)) : J G k n f pc lv st := by
  obtain ⟨p, l', e, R, s, m, args, below, meth, c, E', A, Z⟩ := G
  obtain ⟨rfl, rfl, rfl, hx, hb, hml, hown, hlocks, hts, hK, hA, hNw, hRs, hSS⟩ := hG
  intro L H locs ls hdm hP hD hS hl
  obtain ⟨g1, g2, g3, g4, g5⟩ := hV
  have hr := va_runSN (p := p) (e := e) (below := below) (meth := meth) (locs := locs) (cells := k) (slots := n) (rest := rest) (As := As) (g := F0 m pc ls st) ⟨hx, hb, hml, hown, hts⟩ (hc H.size) (⟨va_cnB na hts (fun w h => ⟨gw_ws g4 w h, gw_good (gw_ws g4 w h)⟩) rfl rfl rfl (hNw.1 _ g1) (hts _ g3) g5 ⟨hfr, hlo⟩, hts _ g2, trivial⟩) ⟨jPre_blind, fun U hU hW => ⟨rfl, jPre_at hdm hP hD hS hA hK hNw hRs hSS hU hW⟩⟩ rfl hna (by rw [← hml]; exact hl.1) hst (lv_room hrs) hd ⟨hkc, hks⟩
  exact callX (hr) hS (AF_in hdm hD hS hA) (fun v f' L1 H1 locs1 hp1 hd1 hP1 hD1 hS1 => kk v f' hp1 L1 H1 locs1 ls hd1 hP1 hD1 hS1 hl)
theorem j_callIA (hG : jX G l E cc own nL rm) {idx maxL na : Nat} {y : MethodName} {cy : ByteArray} {ry : Room} {As rest : List Value} {P : Option Value → Hp → Prop} {b : Nat} (hV : jIi own idx y cy maxL na) (hd : decode cc pc = .ok (.invokespecial idx, 3)) (hc : Ct l E y cy maxL none ry (.ref b :: As) f P) (hst : st = As.reverse ++ .ref b :: rest) (hna : As.length = na) (hfr : ry.frames + 1 ≤ rm.frames) (hlo : 8 + (maxL + 11) + ry.locals ≤ rm.locals) (hrs : (rest.map fun v => v.category).sum ≤ 8) (hkc : k + ry.cells ≤ rm.cells) (hks : n + ry.slots ≤ rm.slots) (kk : ∀ (v : Option Value) (f' : Hp), P v f' → J G (k + ry.cells) (n + ry.slots) f' (pc + 3) lv (v.toList ++ rest)) : J G k n f pc lv st := by
  obtain ⟨p, l', e, R, s, m, args, below, meth, c, E', A, Z⟩ := G
  obtain ⟨rfl, rfl, rfl, hx, hb, hml, hown, hlocks, hts, hK, hA, hNw, hRs, hSS⟩ := hG
  intro L H locs ls hdm hP hD hS hl
  obtain ⟨g3, g4, g5, g6⟩ := hV
  have hr := va_runI (p := p) (e := e) (below := below) (meth := meth) (locs := locs) (cells := k) (slots := n) (rest := rest) (As := As) (b := b) (g := F0 m pc ls st) ⟨hx, hb, hml, hown, hts⟩ (hc H.size) (cwI na hts (fun w h => ⟨gw_ws g4 w h, gw_good (gw_ws g4 w h)⟩) rfl rfl rfl (hts _ (g3 _ (List.mem_cons_of_mem _ (List.mem_cons_of_mem _ List.mem_cons_self)))) (hts _ (g3 _ List.mem_cons_self)) (hts _ (g3 _ (List.mem_cons_of_mem _ List.mem_cons_self))) g6 g5 ⟨hfr, hlo⟩) ⟨jPre_blind, fun U hU hW => ⟨rfl, jPre_at hdm hP hD hS hA hK hNw hRs hSS hU hW⟩⟩ rfl hna (by rw [← hml]; exact hl.1) hst (lv_room hrs) hd ⟨hkc, hks⟩
  exact callX (hr) hS (AF_in hdm hD hS hA) (fun v f' L1 H1 locs1 hp1 hd1 hP1 hD1 hS1 => kk v f' hp1 L1 H1 locs1 ls hd1 hP1 hD1 hS1 hl)
theorem j_callINA (hG : jX G l E cc own nL rm) {idx maxL na : Nat} {y : MethodName} {cy : ByteArray} {ry : Room} {As rest : List Value} {P : Option Value → Hp → Prop} {b : Nat} (hV : jIn own idx y cy maxL na) (hd : decode cc pc = .ok (.invokespecial idx, 3)) (hc : Ct l E y cy maxL none ry (.ref b :: As) f P) (hst : st = As.reverse ++ .ref b :: rest) (hna : As.length = na) (hfr : ry.frames + 1 ≤ rm.frames) (hlo : 8 + (maxL + 11) + ry.locals ≤ rm.locals) (hrs : (rest.map fun v => v.category).sum ≤ 8) (hkc : k + ry.cells ≤ rm.cells) (hks : n + ry.slots ≤ rm.slots) (kk : ∀ (v : Option Value) (f' : Hp), P v f' → J G (k + ry.cells) (n + ry.slots) f' (pc + 3) lv (v.toList ++ rest)) : J G k n f pc lv st := by
  obtain ⟨p, l', e, R, s, m, args, below, meth, c, E', A, Z⟩ := G
  obtain ⟨rfl, rfl, rfl, hx, hb, hml, hown, hlocks, hts, hK, hA, hNw, hRs, hSS⟩ := hG
  intro L H locs ls hdm hP hD hS hl
  obtain ⟨g1, g2, g3, g4, g5, g6⟩ := hV
  have hr := va_runIN (p := p) (e := e) (below := below) (meth := meth) (locs := locs) (cells := k) (slots := n) (rest := rest) (As := As) (b := b) (g := F0 m pc ls st) ⟨hx, hb, hml, hown, hts⟩ (hc H.size) (⟨va_cnB na hts (fun w h => ⟨gw_ws g4 w h, gw_good (gw_ws g4 w h)⟩) rfl rfl rfl (hNw.1 _ g1) (hts _ g3) g5 ⟨hfr, hlo⟩, g6, hts _ g2⟩) ⟨jPre_blind, fun U hU hW => ⟨rfl, jPre_at hdm hP hD hS hA hK hNw hRs hSS hU hW⟩⟩ rfl hna (by rw [← hml]; exact hl.1) hst (lv_room hrs) hd ⟨hkc, hks⟩
  exact callX (hr) hS (AF_in hdm hD hS hA) (fun v f' L1 H1 locs1 hp1 hd1 hP1 hD1 hS1 => kk v f' hp1 L1 H1 locs1 ls hd1 hP1 hD1 hS1 hl)
end JC
end
section
theorem inX0 : ∀ w ∈ u_ws RX0 TX0 2, w ∈ gw_tbl := gms [238, 240] (by decide +kernel) (by decide +kernel)
theorem inX1 : ∀ w ∈ u_ws RX1 TX1 3, w ∈ gw_tbl := gms [252, 254, 256] (by decide +kernel) (by decide +kernel)
theorem inX2 : ∀ w ∈ u_ws RX2 TX2 3, w ∈ gw_tbl := gms [93, 95, 97] (by decide +kernel) (by decide +kernel)
theorem inX3 : ∀ w ∈ u_ws RX3 TX3 6, w ∈ gw_tbl := gms [184, 186, 188, 190, 192, 194] (by decide +kernel) (by decide +kernel)
theorem inX4 : ∀ w ∈ u_ws RX4 TX4 1, w ∈ gw_tbl := gms [129] (by decide +kernel) (by decide +kernel)
theorem inX5 : ∀ w ∈ u_ws RX5 TX5 2, w ∈ gw_tbl := gms [200, 202] (by decide +kernel) (by decide +kernel)
theorem inX6 : ∀ w ∈ u_ws RX6 TX6 3, w ∈ gw_tbl := gms [268, 270, 272] (by decide +kernel) (by decide +kernel)
theorem inX8 : ∀ w ∈ u_ws RX8 TX8 3, w ∈ gw_tbl := gms [148, 150, 152] (by decide +kernel) (by decide +kernel)
theorem inX9 : ∀ w ∈ u_ws RX9 TX9 8, w ∈ gw_tbl := gms [213, 215, 217, 219, 221, 223, 225, 227] (by decide +kernel) (by decide +kernel)
theorem inX10 : ∀ w ∈ u_ws RX10 TX10 4, w ∈ gw_tbl := gms [112, 114, 116, 118] (by decide +kernel) (by decide +kernel)
theorem inX11 : ∀ w ∈ u_ws RX11 TX11 12, w ∈ gw_tbl := gms [287, 289, 291, 293, 295, 297, 299, 301, 303, 305, 307, 309] (by decide +kernel) (by decide +kernel)
theorem inX12 : ∀ w ∈ u_ws RX12 TX12 52, w ∈ gw_tbl := gms [939, 941, 943, 945, 947, 949, 951, 953, 955, 957, 959, 961, 963, 965, 967, 969, 971, 973, 975, 977, 979, 981, 983, 985, 987, 989, 991, 993, 995, 997, 999, 1001, 1003, 1005, 1007, 1009, 1011, 1013, 1015, 1017, 1019, 1021, 1023, 1025, 1027, 1029, 1031, 1033, 1035, 1037, 1039, 1041] (by decide +kernel) (by decide +kernel)
theorem fX2_9 : jF RX2 9 2 0 := ⟨RX2, TX2, 3, rfl, by decide, inX2, gm 90 (by decide +kernel) (by decide +kernel), rfl, by decide⟩
theorem pX2_9 : jFf RX2 9 2 0 (.array .int) := ⟨RX2, TX2, 3, tyX2, rfl, by decide, inX2, gm 90 (by decide +kernel) (by decide +kernel), rfl, by decide, tyX2_ok, nmX2, rfl, by decide +kernel, rfl⟩
theorem fX2_15 : jF RX2 15 2 1 := ⟨RX2, TX2, 3, rfl, by decide, inX2, gm 91 (by decide +kernel) (by decide +kernel), rfl, by decide⟩
theorem pX2_15 : jFf RX2 15 2 1 (.array .long) := ⟨RX2, TX2, 3, tyX2, rfl, by decide, inX2, gm 91 (by decide +kernel) (by decide +kernel), rfl, by decide, tyX2_ok, nmX2, rfl, by decide +kernel, rfl⟩
theorem fX2_19 : jF RX2 19 2 2 := ⟨RX2, TX2, 3, rfl, by decide, inX2, gm 92 (by decide +kernel) (by decide +kernel), rfl, by decide⟩
theorem pX2_19 : jFp RX2 19 2 2 .int := ⟨RX2, TX2, 3, tyX2, rfl, by decide, inX2, gm 92 (by decide +kernel) (by decide +kernel), rfl, by decide, tyX2_ok, nmX2, rfl, by decide +kernel⟩
theorem fX10_9 : jF RX10 9 9 0 := ⟨RX10, TX10, 4, rfl, by decide, inX10, gm 108 (by decide +kernel) (by decide +kernel), rfl, by decide⟩
theorem pX10_9 : jFf RX10 9 9 0 (.array .char) := ⟨RX10, TX10, 4, tyX10, rfl, by decide, inX10, gm 108 (by decide +kernel) (by decide +kernel), rfl, by decide, tyX10_ok, nmX10, rfl, by decide +kernel, rfl⟩
theorem fX10_15 : jF RX10 15 9 1 := ⟨RX10, TX10, 4, rfl, by decide, inX10, gm 109 (by decide +kernel) (by decide +kernel), rfl, by decide⟩
theorem pX10_15 : jFp RX10 15 9 1 .int := ⟨RX10, TX10, 4, tyX10, rfl, by decide, inX10, gm 109 (by decide +kernel) (by decide +kernel), rfl, by decide, tyX10_ok, nmX10, rfl, by decide +kernel⟩
theorem fX10_34 : jF RX10 34 9 2 := ⟨RX10, TX10, 4, rfl, by decide, inX10, gm 110 (by decide +kernel) (by decide +kernel), rfl, by decide⟩
theorem pX10_34 : jFp RX10 34 9 2 .int := ⟨RX10, TX10, 4, tyX10, rfl, by decide, inX10, gm 110 (by decide +kernel) (by decide +kernel), rfl, by decide, tyX10_ok, nmX10, rfl, by decide +kernel⟩
theorem fX10_28 : jF RX10 28 9 3 := ⟨RX10, TX10, 4, rfl, by decide, inX10, gm 111 (by decide +kernel) (by decide +kernel), rfl, by decide⟩
theorem pX10_28 : jFp RX10 28 9 3 .int := ⟨RX10, TX10, 4, tyX10, rfl, by decide, inX10, gm 111 (by decide +kernel) (by decide +kernel), rfl, by decide, tyX10_ok, nmX10, rfl, by decide +kernel⟩
theorem fX4_9 : jF RX4 9 4 0 := ⟨RX4, TX4, 1, rfl, by decide, inX4, gm 128 (by decide +kernel) (by decide +kernel), rfl, by decide⟩
theorem pX4_9 : jFf RX4 9 4 0 (.array .int) := ⟨RX4, TX4, 1, tyX4, rfl, by decide, inX4, gm 128 (by decide +kernel) (by decide +kernel), rfl, by decide, tyX4_ok, nmX4, rfl, by decide +kernel, rfl⟩
theorem fX8_9 : jF RX8 9 7 0 := ⟨RX8, TX8, 3, rfl, by decide, inX8, gm 145 (by decide +kernel) (by decide +kernel), rfl, by decide⟩
theorem pX8_9 : jFf RX8 9 7 0 (.array .long) := ⟨RX8, TX8, 3, tyX8, rfl, by decide, inX8, gm 145 (by decide +kernel) (by decide +kernel), rfl, by decide, tyX8_ok, nmX8, rfl, by decide +kernel, rfl⟩
theorem fX8_15 : jF RX8 15 7 1 := ⟨RX8, TX8, 3, rfl, by decide, inX8, gm 146 (by decide +kernel) (by decide +kernel), rfl, by decide⟩
theorem pX8_15 : jFp RX8 15 7 1 .int := ⟨RX8, TX8, 3, tyX8, rfl, by decide, inX8, gm 146 (by decide +kernel) (by decide +kernel), rfl, by decide, tyX8_ok, nmX8, rfl, by decide +kernel⟩
theorem fX8_19 : jF RX8 19 7 2 := ⟨RX8, TX8, 3, rfl, by decide, inX8, gm 147 (by decide +kernel) (by decide +kernel), rfl, by decide⟩
theorem pX8_19 : jFp RX8 19 7 2 .boolean := ⟨RX8, TX8, 3, tyX8, rfl, by decide, inX8, gm 147 (by decide +kernel) (by decide +kernel), rfl, by decide, tyX8_ok, nmX8, rfl, by decide +kernel⟩
theorem fX3_9 : jF RX3 9 3 0 := ⟨RX3, TX3, 6, rfl, by decide, inX3, gm 168 (by decide +kernel) (by decide +kernel), rfl, by decide⟩
theorem pX3_9 : jFp RX3 9 3 0 .int := ⟨RX3, TX3, 6, tyX3, rfl, by decide, inX3, gm 168 (by decide +kernel) (by decide +kernel), rfl, by decide, tyX3_ok, nmX3, rfl, by decide +kernel⟩
theorem fX4_78 : jF RX4 78 3 0 := ⟨RX3, TX3, 6, rfl, by decide, inX3, gm 169 (by decide +kernel) (by decide +kernel), rfl, by decide⟩
theorem pX4_78 : jFp RX4 78 3 0 .int := ⟨RX3, TX3, 6, tyX3, rfl, by decide, inX3, gm 169 (by decide +kernel) (by decide +kernel), rfl, by decide, tyX3_ok, nmX3, rfl, by decide +kernel⟩
theorem fX9_79 : jF RX9 79 3 0 := ⟨RX3, TX3, 6, rfl, by decide, inX3, gm 170 (by decide +kernel) (by decide +kernel), rfl, by decide⟩
theorem pX9_79 : jFp RX9 79 3 0 .int := ⟨RX3, TX3, 6, tyX3, rfl, by decide, inX3, gm 170 (by decide +kernel) (by decide +kernel), rfl, by decide, tyX3_ok, nmX3, rfl, by decide +kernel⟩
theorem fX3_15 : jF RX3 15 3 1 := ⟨RX3, TX3, 6, rfl, by decide, inX3, gm 171 (by decide +kernel) (by decide +kernel), rfl, by decide⟩
theorem pX3_15 : jFp RX3 15 3 1 .int := ⟨RX3, TX3, 6, tyX3, rfl, by decide, inX3, gm 171 (by decide +kernel) (by decide +kernel), rfl, by decide, tyX3_ok, nmX3, rfl, by decide +kernel⟩
theorem fX4_130 : jF RX4 130 3 1 := ⟨RX3, TX3, 6, rfl, by decide, inX3, gm 172 (by decide +kernel) (by decide +kernel), rfl, by decide⟩
theorem pX4_130 : jFp RX4 130 3 1 .int := ⟨RX3, TX3, 6, tyX3, rfl, by decide, inX3, gm 172 (by decide +kernel) (by decide +kernel), rfl, by decide, tyX3_ok, nmX3, rfl, by decide +kernel⟩
theorem fX9_88 : jF RX9 88 3 1 := ⟨RX3, TX3, 6, rfl, by decide, inX3, gm 173 (by decide +kernel) (by decide +kernel), rfl, by decide⟩
theorem pX9_88 : jFp RX9 88 3 1 .int := ⟨RX3, TX3, 6, tyX3, rfl, by decide, inX3, gm 173 (by decide +kernel) (by decide +kernel), rfl, by decide, tyX3_ok, nmX3, rfl, by decide +kernel⟩
theorem fX3_18 : jF RX3 18 3 2 := ⟨RX3, TX3, 6, rfl, by decide, inX3, gm 174 (by decide +kernel) (by decide +kernel), rfl, by decide⟩
theorem pX3_18 : jFp RX3 18 3 2 .int := ⟨RX3, TX3, 6, tyX3, rfl, by decide, inX3, gm 174 (by decide +kernel) (by decide +kernel), rfl, by decide, tyX3_ok, nmX3, rfl, by decide +kernel⟩
theorem fX4_133 : jF RX4 133 3 2 := ⟨RX3, TX3, 6, rfl, by decide, inX3, gm 175 (by decide +kernel) (by decide +kernel), rfl, by decide⟩
theorem pX4_133 : jFp RX4 133 3 2 .int := ⟨RX3, TX3, 6, tyX3, rfl, by decide, inX3, gm 175 (by decide +kernel) (by decide +kernel), rfl, by decide, tyX3_ok, nmX3, rfl, by decide +kernel⟩
theorem fX9_91 : jF RX9 91 3 2 := ⟨RX3, TX3, 6, rfl, by decide, inX3, gm 176 (by decide +kernel) (by decide +kernel), rfl, by decide⟩
theorem pX9_91 : jFp RX9 91 3 2 .int := ⟨RX3, TX3, 6, tyX3, rfl, by decide, inX3, gm 176 (by decide +kernel) (by decide +kernel), rfl, by decide, tyX3_ok, nmX3, rfl, by decide +kernel⟩
theorem fX3_21 : jF RX3 21 3 3 := ⟨RX3, TX3, 6, rfl, by decide, inX3, gm 177 (by decide +kernel) (by decide +kernel), rfl, by decide⟩
theorem pX3_21 : jFp RX3 21 3 3 .int := ⟨RX3, TX3, 6, tyX3, rfl, by decide, inX3, gm 177 (by decide +kernel) (by decide +kernel), rfl, by decide, tyX3_ok, nmX3, rfl, by decide +kernel⟩
theorem fX4_138 : jF RX4 138 3 3 := ⟨RX3, TX3, 6, rfl, by decide, inX3, gm 178 (by decide +kernel) (by decide +kernel), rfl, by decide⟩
theorem pX4_138 : jFp RX4 138 3 3 .int := ⟨RX3, TX3, 6, tyX3, rfl, by decide, inX3, gm 178 (by decide +kernel) (by decide +kernel), rfl, by decide, tyX3_ok, nmX3, rfl, by decide +kernel⟩
theorem fX3_24 : jF RX3 24 3 4 := ⟨RX3, TX3, 6, rfl, by decide, inX3, gm 179 (by decide +kernel) (by decide +kernel), rfl, by decide⟩
theorem pX3_24 : jFp RX3 24 3 4 .char := ⟨RX3, TX3, 6, tyX3, rfl, by decide, inX3, gm 179 (by decide +kernel) (by decide +kernel), rfl, by decide, tyX3_ok, nmX3, rfl, by decide +kernel⟩
theorem fX4_145 : jF RX4 145 3 4 := ⟨RX3, TX3, 6, rfl, by decide, inX3, gm 180 (by decide +kernel) (by decide +kernel), rfl, by decide⟩
theorem pX4_145 : jFp RX4 145 3 4 .char := ⟨RX3, TX3, 6, tyX3, rfl, by decide, inX3, gm 180 (by decide +kernel) (by decide +kernel), rfl, by decide, tyX3_ok, nmX3, rfl, by decide +kernel⟩
theorem fX3_28 : jF RX3 28 3 5 := ⟨RX3, TX3, 6, rfl, by decide, inX3, gm 181 (by decide +kernel) (by decide +kernel), rfl, by decide⟩
theorem pX3_28 : jFp RX3 28 3 5 .int := ⟨RX3, TX3, 6, tyX3, rfl, by decide, inX3, gm 181 (by decide +kernel) (by decide +kernel), rfl, by decide, tyX3_ok, nmX3, rfl, by decide +kernel⟩
theorem fX4_149 : jF RX4 149 3 5 := ⟨RX3, TX3, 6, rfl, by decide, inX3, gm 182 (by decide +kernel) (by decide +kernel), rfl, by decide⟩
theorem pX4_149 : jFp RX4 149 3 5 .int := ⟨RX3, TX3, 6, tyX3, rfl, by decide, inX3, gm 182 (by decide +kernel) (by decide +kernel), rfl, by decide, tyX3_ok, nmX3, rfl, by decide +kernel⟩
theorem fX9_85 : jF RX9 85 3 5 := ⟨RX3, TX3, 6, rfl, by decide, inX3, gm 183 (by decide +kernel) (by decide +kernel), rfl, by decide⟩
theorem pX9_85 : jFp RX9 85 3 5 .int := ⟨RX3, TX3, 6, tyX3, rfl, by decide, inX3, gm 183 (by decide +kernel) (by decide +kernel), rfl, by decide, tyX3_ok, nmX3, rfl, by decide +kernel⟩
theorem fX5_11 : jF RX5 11 5 0 := ⟨RX5, TX5, 2, rfl, by decide, inX5, gm 198 (by decide +kernel) (by decide +kernel), rfl, by decide⟩
theorem pX5_11 : jFf RX5 11 5 0 (.array (.object "TableStreams$Making")) := ⟨RX5, TX5, 2, tyX5, rfl, by decide, inX5, gm 198 (by decide +kernel) (by decide +kernel), rfl, by decide, tyX5_ok, nmX5, rfl, by decide +kernel, rfl⟩
theorem fX5_18 : jF RX5 18 5 1 := ⟨RX5, TX5, 2, rfl, by decide, inX5, gm 199 (by decide +kernel) (by decide +kernel), rfl, by decide⟩
theorem pX5_18 : jFp RX5 18 5 1 .int := ⟨RX5, TX5, 2, tyX5, rfl, by decide, inX5, gm 199 (by decide +kernel) (by decide +kernel), rfl, by decide, tyX5_ok, nmX5, rfl, by decide +kernel⟩
theorem fX9_11 : jF RX9 11 8 0 := ⟨RX9, TX9, 8, rfl, by decide, inX9, gm 205 (by decide +kernel) (by decide +kernel), rfl, by decide⟩
theorem pX9_11 : jFf RX9 11 8 0 (.array (.object "TableStreams$Rows")) := ⟨RX9, TX9, 8, tyX9, rfl, by decide, inX9, gm 205 (by decide +kernel) (by decide +kernel), rfl, by decide, tyX9_ok, nmX9, rfl, by decide +kernel, rfl⟩
theorem fX9_17 : jF RX9 17 8 1 := ⟨RX9, TX9, 8, rfl, by decide, inX9, gm 206 (by decide +kernel) (by decide +kernel), rfl, by decide⟩
theorem pX9_17 : jFf RX9 17 8 1 (.array (.object "TableStreams$Rows")) := ⟨RX9, TX9, 8, tyX9, rfl, by decide, inX9, gm 206 (by decide +kernel) (by decide +kernel), rfl, by decide, tyX9_ok, nmX9, rfl, by decide +kernel, rfl⟩
theorem fX9_20 : jF RX9 20 8 2 := ⟨RX9, TX9, 8, rfl, by decide, inX9, gm 207 (by decide +kernel) (by decide +kernel), rfl, by decide⟩
theorem pX9_20 : jFf RX9 20 8 2 (.array (.object "TableStreams$Rows")) := ⟨RX9, TX9, 8, tyX9, rfl, by decide, inX9, gm 207 (by decide +kernel) (by decide +kernel), rfl, by decide, tyX9_ok, nmX9, rfl, by decide +kernel, rfl⟩
theorem fX9_24 : jF RX9 24 8 3 := ⟨RX9, TX9, 8, rfl, by decide, inX9, gm 208 (by decide +kernel) (by decide +kernel), rfl, by decide⟩
theorem pX9_24 : jFf RX9 24 8 3 (.array .boolean) := ⟨RX9, TX9, 8, tyX9, rfl, by decide, inX9, gm 208 (by decide +kernel) (by decide +kernel), rfl, by decide, tyX9_ok, nmX9, rfl, by decide +kernel, rfl⟩
theorem fX9_28 : jF RX9 28 8 4 := ⟨RX9, TX9, 8, rfl, by decide, inX9, gm 209 (by decide +kernel) (by decide +kernel), rfl, by decide⟩
theorem pX9_28 : jFf RX9 28 8 4 (.object "TableStreams$Rows") := ⟨RX9, TX9, 8, tyX9, rfl, by decide, inX9, gm 209 (by decide +kernel) (by decide +kernel), rfl, by decide, tyX9_ok, nmX9, rfl, by decide +kernel, rfl⟩
theorem fX9_32 : jF RX9 32 8 5 := ⟨RX9, TX9, 8, rfl, by decide, inX9, gm 210 (by decide +kernel) (by decide +kernel), rfl, by decide⟩
theorem pX9_32 : jFf RX9 32 8 5 (.array .long) := ⟨RX9, TX9, 8, tyX9, rfl, by decide, inX9, gm 210 (by decide +kernel) (by decide +kernel), rfl, by decide, tyX9_ok, nmX9, rfl, by decide +kernel, rfl⟩
theorem fX9_39 : jF RX9 39 8 6 := ⟨RX9, TX9, 8, rfl, by decide, inX9, gm 211 (by decide +kernel) (by decide +kernel), rfl, by decide⟩
theorem pX9_39 : jFp RX9 39 8 6 (.object "TableStreams$Plan") := ⟨RX9, TX9, 8, tyX9, rfl, by decide, inX9, gm 211 (by decide +kernel) (by decide +kernel), rfl, by decide, tyX9_ok, nmX9, rfl, by decide +kernel⟩
theorem fX9_43 : jF RX9 43 8 7 := ⟨RX9, TX9, 8, rfl, by decide, inX9, gm 212 (by decide +kernel) (by decide +kernel), rfl, by decide⟩
theorem pX9_43 : jFp RX9 43 8 7 (.object "TableStreams$Plan") := ⟨RX9, TX9, 8, tyX9, rfl, by decide, inX9, gm 212 (by decide +kernel) (by decide +kernel), rfl, by decide, tyX9_ok, nmX9, rfl, by decide +kernel⟩
theorem fX0_9 : jF RX0 9 0 0 := ⟨RX0, TX0, 2, rfl, by decide, inX0, gm 236 (by decide +kernel) (by decide +kernel), rfl, by decide⟩
theorem pX0_9 : jFf RX0 9 0 0 (.array .long) := ⟨RX0, TX0, 2, tyX0, rfl, by decide, inX0, gm 236 (by decide +kernel) (by decide +kernel), rfl, by decide, tyX0_ok, nmX0, rfl, by decide +kernel, rfl⟩
theorem fX0_15 : jF RX0 15 0 1 := ⟨RX0, TX0, 2, rfl, by decide, inX0, gm 237 (by decide +kernel) (by decide +kernel), rfl, by decide⟩
theorem pX0_15 : jFp RX0 15 0 1 .int := ⟨RX0, TX0, 2, tyX0, rfl, by decide, inX0, gm 237 (by decide +kernel) (by decide +kernel), rfl, by decide, tyX0_ok, nmX0, rfl, by decide +kernel⟩
theorem fX1_9 : jF RX1 9 1 0 := ⟨RX1, TX1, 3, rfl, by decide, inX1, gm 249 (by decide +kernel) (by decide +kernel), rfl, by decide⟩
theorem pX1_9 : jFf RX1 9 1 0 (.array .boolean) := ⟨RX1, TX1, 3, tyX1, rfl, by decide, inX1, gm 249 (by decide +kernel) (by decide +kernel), rfl, by decide, tyX1_ok, nmX1, rfl, by decide +kernel, rfl⟩
theorem fX1_19 : jF RX1 19 1 1 := ⟨RX1, TX1, 3, rfl, by decide, inX1, gm 250 (by decide +kernel) (by decide +kernel), rfl, by decide⟩
theorem pX1_19 : jFf RX1 19 1 1 (.array .int) := ⟨RX1, TX1, 3, tyX1, rfl, by decide, inX1, gm 250 (by decide +kernel) (by decide +kernel), rfl, by decide, tyX1_ok, nmX1, rfl, by decide +kernel, rfl⟩
theorem fX1_15 : jF RX1 15 1 2 := ⟨RX1, TX1, 3, rfl, by decide, inX1, gm 251 (by decide +kernel) (by decide +kernel), rfl, by decide⟩
theorem pX1_15 : jFp RX1 15 1 2 .int := ⟨RX1, TX1, 3, tyX1, rfl, by decide, inX1, gm 251 (by decide +kernel) (by decide +kernel), rfl, by decide, tyX1_ok, nmX1, rfl, by decide +kernel⟩
theorem fX6_15 : jF RX6 15 6 0 := ⟨RX6, TX6, 3, rfl, by decide, inX6, gm 265 (by decide +kernel) (by decide +kernel), rfl, by decide⟩
theorem pX6_15 : jFp RX6 15 6 0 .int := ⟨RX6, TX6, 3, tyX6, rfl, by decide, inX6, gm 265 (by decide +kernel) (by decide +kernel), rfl, by decide, tyX6_ok, nmX6, rfl, by decide +kernel⟩
theorem fX6_18 : jF RX6 18 6 1 := ⟨RX6, TX6, 3, rfl, by decide, inX6, gm 266 (by decide +kernel) (by decide +kernel), rfl, by decide⟩
theorem pX6_18 : jFp RX6 18 6 1 .int := ⟨RX6, TX6, 3, tyX6, rfl, by decide, inX6, gm 266 (by decide +kernel) (by decide +kernel), rfl, by decide, tyX6_ok, nmX6, rfl, by decide +kernel⟩
theorem fX6_9 : jF RX6 9 6 2 := ⟨RX6, TX6, 3, rfl, by decide, inX6, gm 267 (by decide +kernel) (by decide +kernel), rfl, by decide⟩
theorem pX6_9 : jFp RX6 9 6 2 .int := ⟨RX6, TX6, 3, tyX6, rfl, by decide, inX6, gm 267 (by decide +kernel) (by decide +kernel), rfl, by decide, tyX6_ok, nmX6, rfl, by decide +kernel⟩
theorem fX11_10 : jF RX11 10 10 0 := ⟨RX11, TX11, 12, rfl, by decide, inX11, gm 275 (by decide +kernel) (by decide +kernel), rfl, by decide⟩
theorem pX11_10 : jFf RX11 10 10 0 (.object "TableStreams$Log") := ⟨RX11, TX11, 12, tyX11, rfl, by decide, inX11, gm 275 (by decide +kernel) (by decide +kernel), rfl, by decide, tyX11_ok, nmX11, rfl, by decide +kernel, rfl⟩
theorem fX11_19 : jF RX11 19 10 1 := ⟨RX11, TX11, 12, rfl, by decide, inX11, gm 276 (by decide +kernel) (by decide +kernel), rfl, by decide⟩
theorem pX11_19 : jFf RX11 19 10 1 (.object "TableStreams$Tape") := ⟨RX11, TX11, 12, tyX11, rfl, by decide, inX11, gm 276 (by decide +kernel) (by decide +kernel), rfl, by decide, tyX11_ok, nmX11, rfl, by decide +kernel, rfl⟩
theorem fX11_26 : jF RX11 26 10 2 := ⟨RX11, TX11, 12, rfl, by decide, inX11, gm 277 (by decide +kernel) (by decide +kernel), rfl, by decide⟩
theorem pX11_26 : jFf RX11 26 10 2 (.object "TableStreams$Parser") := ⟨RX11, TX11, 12, tyX11, rfl, by decide, inX11, gm 277 (by decide +kernel) (by decide +kernel), rfl, by decide, tyX11_ok, nmX11, rfl, by decide +kernel, rfl⟩
theorem fX11_33 : jF RX11 33 10 3 := ⟨RX11, TX11, 12, rfl, by decide, inX11, gm 278 (by decide +kernel) (by decide +kernel), rfl, by decide⟩
theorem pX11_33 : jFf RX11 33 10 3 (.object "TableStreams$Tables") := ⟨RX11, TX11, 12, tyX11, rfl, by decide, inX11, gm 278 (by decide +kernel) (by decide +kernel), rfl, by decide, tyX11_ok, nmX11, rfl, by decide +kernel, rfl⟩
theorem fX11_40 : jF RX11 40 10 4 := ⟨RX11, TX11, 12, rfl, by decide, inX11, gm 279 (by decide +kernel) (by decide +kernel), rfl, by decide⟩
theorem pX11_40 : jFf RX11 40 10 4 (.object "TableStreams$Changes") := ⟨RX11, TX11, 12, tyX11, rfl, by decide, inX11, gm 279 (by decide +kernel) (by decide +kernel), rfl, by decide, tyX11_ok, nmX11, rfl, by decide +kernel, rfl⟩
theorem fX11_44 : jF RX11 44 10 5 := ⟨RX11, TX11, 12, rfl, by decide, inX11, gm 280 (by decide +kernel) (by decide +kernel), rfl, by decide⟩
theorem pX11_44 : jFf RX11 44 10 5 (.object "TableStreams$Changes") := ⟨RX11, TX11, 12, tyX11, rfl, by decide, inX11, gm 280 (by decide +kernel) (by decide +kernel), rfl, by decide, tyX11_ok, nmX11, rfl, by decide +kernel, rfl⟩
theorem fX11_50 : jF RX11 50 10 6 := ⟨RX11, TX11, 12, rfl, by decide, inX11, gm 281 (by decide +kernel) (by decide +kernel), rfl, by decide⟩
theorem pX11_50 : jFf RX11 50 10 6 (.object "TableStreams$Hosts") := ⟨RX11, TX11, 12, tyX11, rfl, by decide, inX11, gm 281 (by decide +kernel) (by decide +kernel), rfl, by decide, tyX11_ok, nmX11, rfl, by decide +kernel, rfl⟩
theorem fX11_57 : jF RX11 57 10 7 := ⟨RX11, TX11, 12, rfl, by decide, inX11, gm 282 (by decide +kernel) (by decide +kernel), rfl, by decide⟩
theorem pX11_57 : jFf RX11 57 10 7 (.object "TableStreams$Progress") := ⟨RX11, TX11, 12, tyX11, rfl, by decide, inX11, gm 282 (by decide +kernel) (by decide +kernel), rfl, by decide, tyX11_ok, nmX11, rfl, by decide +kernel, rfl⟩
theorem fX11_61 : jF RX11 61 10 8 := ⟨RX11, TX11, 12, rfl, by decide, inX11, gm 283 (by decide +kernel) (by decide +kernel), rfl, by decide⟩
theorem pX11_61 : jFf RX11 61 10 8 (.object "TableStreams$Progress") := ⟨RX11, TX11, 12, tyX11, rfl, by decide, inX11, gm 283 (by decide +kernel) (by decide +kernel), rfl, by decide, tyX11_ok, nmX11, rfl, by decide +kernel, rfl⟩
theorem fX11_64 : jF RX11 64 10 9 := ⟨RX11, TX11, 12, rfl, by decide, inX11, gm 284 (by decide +kernel) (by decide +kernel), rfl, by decide⟩
theorem pX11_64 : jFp RX11 64 10 9 .int := ⟨RX11, TX11, 12, tyX11, rfl, by decide, inX11, gm 284 (by decide +kernel) (by decide +kernel), rfl, by decide, tyX11_ok, nmX11, rfl, by decide +kernel⟩
theorem fX11_68 : jF RX11 68 10 10 := ⟨RX11, TX11, 12, rfl, by decide, inX11, gm 285 (by decide +kernel) (by decide +kernel), rfl, by decide⟩
theorem pX11_68 : jFp RX11 68 10 10 .int := ⟨RX11, TX11, 12, tyX11, rfl, by decide, inX11, gm 285 (by decide +kernel) (by decide +kernel), rfl, by decide, tyX11_ok, nmX11, rfl, by decide +kernel⟩
theorem fX11_71 : jF RX11 71 10 11 := ⟨RX11, TX11, 12, rfl, by decide, inX11, gm 286 (by decide +kernel) (by decide +kernel), rfl, by decide⟩
theorem pX11_71 : jFp RX11 71 10 11 .int := ⟨RX11, TX11, 12, tyX11, rfl, by decide, inX11, gm 286 (by decide +kernel) (by decide +kernel), rfl, by decide, tyX11_ok, nmX11, rfl, by decide +kernel⟩
theorem kX7_11 : Cond.constant RX7 11 (1000000000) ∈ gw_tbl := gm 326 (by decide +kernel) (by decide +kernel)
theorem kX7_12 : Cond.constantLong RX7 12 (16383) ∈ gw_tbl := gm 616 (by decide +kernel) (by decide +kernel)
theorem kX7_14 : Cond.constantLong RX7 14 (2147483647) ∈ gw_tbl := gm 679 (by decide +kernel) (by decide +kernel)
theorem kX8_27 : Cond.constantLong RX8 27 (-1000000000) ∈ gw_tbl := gm 691 (by decide +kernel) (by decide +kernel)
theorem kX8_29 : Cond.constantLong RX8 29 (1000000000) ∈ gw_tbl := gm 692 (by decide +kernel) (by decide +kernel)
theorem kX7_26 : Cond.constant RX7 26 (-2000000000) ∈ gw_tbl := gm 728 (by decide +kernel) (by decide +kernel)
theorem kX11_169 : Cond.constant RX11 169 (-2000000000) ∈ gw_tbl := gm 810 (by decide +kernel) (by decide +kernel)
theorem kX0_23 : Cond.constant RX0 23 (-2000000000) ∈ gw_tbl := gm 822 (by decide +kernel) (by decide +kernel)
theorem fX12_120 : jF RX12 120 11 0 := ⟨RX12, TX12, 52, rfl, by decide, inX12, gm 887 (by decide +kernel) (by decide +kernel), rfl, by decide⟩
theorem pX12_120 : jFp RX12 120 11 0 .int := ⟨RX12, TX12, 52, tyX12, rfl, by decide, inX12, gm 887 (by decide +kernel) (by decide +kernel), rfl, by decide, tyX12_ok, nmX12, rfl, by decide +kernel⟩
theorem fX12_123 : jF RX12 123 11 1 := ⟨RX12, TX12, 52, rfl, by decide, inX12, gm 888 (by decide +kernel) (by decide +kernel), rfl, by decide⟩
theorem pX12_123 : jFp RX12 123 11 1 .int := ⟨RX12, TX12, 52, tyX12, rfl, by decide, inX12, gm 888 (by decide +kernel) (by decide +kernel), rfl, by decide, tyX12_ok, nmX12, rfl, by decide +kernel⟩
theorem fX12_144 : jF RX12 144 11 2 := ⟨RX12, TX12, 52, rfl, by decide, inX12, gm 889 (by decide +kernel) (by decide +kernel), rfl, by decide⟩
theorem pX12_144 : jFp RX12 144 11 2 .int := ⟨RX12, TX12, 52, tyX12, rfl, by decide, inX12, gm 889 (by decide +kernel) (by decide +kernel), rfl, by decide, tyX12_ok, nmX12, rfl, by decide +kernel⟩
theorem fX12_7 : jF RX12 7 11 3 := ⟨RX12, TX12, 52, rfl, by decide, inX12, gm 890 (by decide +kernel) (by decide +kernel), rfl, by decide⟩
theorem pX12_7 : jFf RX12 7 11 3 (.array .int) := ⟨RX12, TX12, 52, tyX12, rfl, by decide, inX12, gm 890 (by decide +kernel) (by decide +kernel), rfl, by decide, tyX12_ok, nmX12, rfl, by decide +kernel, rfl⟩
theorem fX12_13 : jF RX12 13 11 4 := ⟨RX12, TX12, 52, rfl, by decide, inX12, gm 891 (by decide +kernel) (by decide +kernel), rfl, by decide⟩
theorem pX12_13 : jFf RX12 13 11 4 (.array .int) := ⟨RX12, TX12, 52, tyX12, rfl, by decide, inX12, gm 891 (by decide +kernel) (by decide +kernel), rfl, by decide, tyX12_ok, nmX12, rfl, by decide +kernel, rfl⟩
theorem fX12_16 : jF RX12 16 11 5 := ⟨RX12, TX12, 52, rfl, by decide, inX12, gm 892 (by decide +kernel) (by decide +kernel), rfl, by decide⟩
theorem pX12_16 : jFf RX12 16 11 5 (.array .int) := ⟨RX12, TX12, 52, tyX12, rfl, by decide, inX12, gm 892 (by decide +kernel) (by decide +kernel), rfl, by decide, tyX12_ok, nmX12, rfl, by decide +kernel, rfl⟩
theorem fX12_19 : jF RX12 19 11 6 := ⟨RX12, TX12, 52, rfl, by decide, inX12, gm 893 (by decide +kernel) (by decide +kernel), rfl, by decide⟩
theorem pX12_19 : jFf RX12 19 11 6 (.array .int) := ⟨RX12, TX12, 52, tyX12, rfl, by decide, inX12, gm 893 (by decide +kernel) (by decide +kernel), rfl, by decide, tyX12_ok, nmX12, rfl, by decide +kernel, rfl⟩
theorem fX12_22 : jF RX12 22 11 7 := ⟨RX12, TX12, 52, rfl, by decide, inX12, gm 894 (by decide +kernel) (by decide +kernel), rfl, by decide⟩
theorem pX12_22 : jFf RX12 22 11 7 (.array .boolean) := ⟨RX12, TX12, 52, tyX12, rfl, by decide, inX12, gm 894 (by decide +kernel) (by decide +kernel), rfl, by decide, tyX12_ok, nmX12, rfl, by decide +kernel, rfl⟩
theorem fX12_26 : jF RX12 26 11 8 := ⟨RX12, TX12, 52, rfl, by decide, inX12, gm 895 (by decide +kernel) (by decide +kernel), rfl, by decide⟩
theorem pX12_26 : jFp RX12 26 11 8 .int := ⟨RX12, TX12, 52, tyX12, rfl, by decide, inX12, gm 895 (by decide +kernel) (by decide +kernel), rfl, by decide, tyX12_ok, nmX12, rfl, by decide +kernel⟩
theorem fX12_187 : jF RX12 187 11 9 := ⟨RX12, TX12, 52, rfl, by decide, inX12, gm 896 (by decide +kernel) (by decide +kernel), rfl, by decide⟩
theorem pX12_187 : jFp RX12 187 11 9 .int := ⟨RX12, TX12, 52, tyX12, rfl, by decide, inX12, gm 896 (by decide +kernel) (by decide +kernel), rfl, by decide, tyX12_ok, nmX12, rfl, by decide +kernel⟩
theorem fX12_209 : jF RX12 209 11 10 := ⟨RX12, TX12, 52, rfl, by decide, inX12, gm 897 (by decide +kernel) (by decide +kernel), rfl, by decide⟩
theorem pX12_209 : jFp RX12 209 11 10 .int := ⟨RX12, TX12, 52, tyX12, rfl, by decide, inX12, gm 897 (by decide +kernel) (by decide +kernel), rfl, by decide, tyX12_ok, nmX12, rfl, by decide +kernel⟩
theorem fX12_173 : jF RX12 173 11 11 := ⟨RX12, TX12, 52, rfl, by decide, inX12, gm 898 (by decide +kernel) (by decide +kernel), rfl, by decide⟩
theorem pX12_173 : jFp RX12 173 11 11 .int := ⟨RX12, TX12, 52, tyX12, rfl, by decide, inX12, gm 898 (by decide +kernel) (by decide +kernel), rfl, by decide, tyX12_ok, nmX12, rfl, by decide +kernel⟩
theorem fX12_30 : jF RX12 30 11 12 := ⟨RX12, TX12, 52, rfl, by decide, inX12, gm 899 (by decide +kernel) (by decide +kernel), rfl, by decide⟩
theorem pX12_30 : jFf RX12 30 11 12 (.array .int) := ⟨RX12, TX12, 52, tyX12, rfl, by decide, inX12, gm 899 (by decide +kernel) (by decide +kernel), rfl, by decide, tyX12_ok, nmX12, rfl, by decide +kernel, rfl⟩
theorem fX12_33 : jF RX12 33 11 13 := ⟨RX12, TX12, 52, rfl, by decide, inX12, gm 900 (by decide +kernel) (by decide +kernel), rfl, by decide⟩
theorem pX12_33 : jFf RX12 33 11 13 (.array .int) := ⟨RX12, TX12, 52, tyX12, rfl, by decide, inX12, gm 900 (by decide +kernel) (by decide +kernel), rfl, by decide, tyX12_ok, nmX12, rfl, by decide +kernel, rfl⟩
theorem fX12_36 : jF RX12 36 11 14 := ⟨RX12, TX12, 52, rfl, by decide, inX12, gm 901 (by decide +kernel) (by decide +kernel), rfl, by decide⟩
theorem pX12_36 : jFf RX12 36 11 14 (.array .int) := ⟨RX12, TX12, 52, tyX12, rfl, by decide, inX12, gm 901 (by decide +kernel) (by decide +kernel), rfl, by decide, tyX12_ok, nmX12, rfl, by decide +kernel, rfl⟩
theorem fX12_39 : jF RX12 39 11 15 := ⟨RX12, TX12, 52, rfl, by decide, inX12, gm 902 (by decide +kernel) (by decide +kernel), rfl, by decide⟩
theorem pX12_39 : jFf RX12 39 11 15 (.array .int) := ⟨RX12, TX12, 52, tyX12, rfl, by decide, inX12, gm 902 (by decide +kernel) (by decide +kernel), rfl, by decide, tyX12_ok, nmX12, rfl, by decide +kernel, rfl⟩
theorem fX12_42 : jF RX12 42 11 16 := ⟨RX12, TX12, 52, rfl, by decide, inX12, gm 903 (by decide +kernel) (by decide +kernel), rfl, by decide⟩
theorem pX12_42 : jFf RX12 42 11 16 (.array .int) := ⟨RX12, TX12, 52, tyX12, rfl, by decide, inX12, gm 903 (by decide +kernel) (by decide +kernel), rfl, by decide, tyX12_ok, nmX12, rfl, by decide +kernel, rfl⟩
theorem fX12_45 : jF RX12 45 11 17 := ⟨RX12, TX12, 52, rfl, by decide, inX12, gm 904 (by decide +kernel) (by decide +kernel), rfl, by decide⟩
theorem pX12_45 : jFf RX12 45 11 17 (.array .int) := ⟨RX12, TX12, 52, tyX12, rfl, by decide, inX12, gm 904 (by decide +kernel) (by decide +kernel), rfl, by decide, tyX12_ok, nmX12, rfl, by decide +kernel, rfl⟩
theorem fX12_48 : jF RX12 48 11 18 := ⟨RX12, TX12, 52, rfl, by decide, inX12, gm 905 (by decide +kernel) (by decide +kernel), rfl, by decide⟩
theorem pX12_48 : jFf RX12 48 11 18 (.array .int) := ⟨RX12, TX12, 52, tyX12, rfl, by decide, inX12, gm 905 (by decide +kernel) (by decide +kernel), rfl, by decide, tyX12_ok, nmX12, rfl, by decide +kernel, rfl⟩
theorem fX12_51 : jF RX12 51 11 19 := ⟨RX12, TX12, 52, rfl, by decide, inX12, gm 906 (by decide +kernel) (by decide +kernel), rfl, by decide⟩
theorem pX12_51 : jFf RX12 51 11 19 (.array .int) := ⟨RX12, TX12, 52, tyX12, rfl, by decide, inX12, gm 906 (by decide +kernel) (by decide +kernel), rfl, by decide, tyX12_ok, nmX12, rfl, by decide +kernel, rfl⟩
theorem fX12_54 : jF RX12 54 11 20 := ⟨RX12, TX12, 52, rfl, by decide, inX12, gm 907 (by decide +kernel) (by decide +kernel), rfl, by decide⟩
theorem pX12_54 : jFf RX12 54 11 20 (.array .int) := ⟨RX12, TX12, 52, tyX12, rfl, by decide, inX12, gm 907 (by decide +kernel) (by decide +kernel), rfl, by decide, tyX12_ok, nmX12, rfl, by decide +kernel, rfl⟩
theorem fX12_57 : jF RX12 57 11 21 := ⟨RX12, TX12, 52, rfl, by decide, inX12, gm 908 (by decide +kernel) (by decide +kernel), rfl, by decide⟩
theorem pX12_57 : jFf RX12 57 11 21 (.array .int) := ⟨RX12, TX12, 52, tyX12, rfl, by decide, inX12, gm 908 (by decide +kernel) (by decide +kernel), rfl, by decide, tyX12_ok, nmX12, rfl, by decide +kernel, rfl⟩
theorem fX12_60 : jF RX12 60 11 22 := ⟨RX12, TX12, 52, rfl, by decide, inX12, gm 909 (by decide +kernel) (by decide +kernel), rfl, by decide⟩
theorem pX12_60 : jFf RX12 60 11 22 (.array .int) := ⟨RX12, TX12, 52, tyX12, rfl, by decide, inX12, gm 909 (by decide +kernel) (by decide +kernel), rfl, by decide, tyX12_ok, nmX12, rfl, by decide +kernel, rfl⟩
theorem fX12_63 : jF RX12 63 11 23 := ⟨RX12, TX12, 52, rfl, by decide, inX12, gm 910 (by decide +kernel) (by decide +kernel), rfl, by decide⟩
theorem pX12_63 : jFf RX12 63 11 23 (.array .int) := ⟨RX12, TX12, 52, tyX12, rfl, by decide, inX12, gm 910 (by decide +kernel) (by decide +kernel), rfl, by decide, tyX12_ok, nmX12, rfl, by decide +kernel, rfl⟩
theorem fX12_66 : jF RX12 66 11 24 := ⟨RX12, TX12, 52, rfl, by decide, inX12, gm 911 (by decide +kernel) (by decide +kernel), rfl, by decide⟩
theorem pX12_66 : jFf RX12 66 11 24 (.array .int) := ⟨RX12, TX12, 52, tyX12, rfl, by decide, inX12, gm 911 (by decide +kernel) (by decide +kernel), rfl, by decide, tyX12_ok, nmX12, rfl, by decide +kernel, rfl⟩
theorem fX12_147 : jF RX12 147 11 25 := ⟨RX12, TX12, 52, rfl, by decide, inX12, gm 912 (by decide +kernel) (by decide +kernel), rfl, by decide⟩
theorem pX12_147 : jFp RX12 147 11 25 .boolean := ⟨RX12, TX12, 52, tyX12, rfl, by decide, inX12, gm 912 (by decide +kernel) (by decide +kernel), rfl, by decide, tyX12_ok, nmX12, rfl, by decide +kernel⟩
theorem fX12_184 : jF RX12 184 11 26 := ⟨RX12, TX12, 52, rfl, by decide, inX12, gm 913 (by decide +kernel) (by decide +kernel), rfl, by decide⟩
theorem pX12_184 : jFp RX12 184 11 26 .int := ⟨RX12, TX12, 52, tyX12, rfl, by decide, inX12, gm 913 (by decide +kernel) (by decide +kernel), rfl, by decide, tyX12_ok, nmX12, rfl, by decide +kernel⟩
theorem fX12_69 : jF RX12 69 11 27 := ⟨RX12, TX12, 52, rfl, by decide, inX12, gm 914 (by decide +kernel) (by decide +kernel), rfl, by decide⟩
theorem pX12_69 : jFf RX12 69 11 27 (.array .int) := ⟨RX12, TX12, 52, tyX12, rfl, by decide, inX12, gm 914 (by decide +kernel) (by decide +kernel), rfl, by decide, tyX12_ok, nmX12, rfl, by decide +kernel, rfl⟩
theorem fX12_72 : jF RX12 72 11 28 := ⟨RX12, TX12, 52, rfl, by decide, inX12, gm 915 (by decide +kernel) (by decide +kernel), rfl, by decide⟩
theorem pX12_72 : jFf RX12 72 11 28 (.array .int) := ⟨RX12, TX12, 52, tyX12, rfl, by decide, inX12, gm 915 (by decide +kernel) (by decide +kernel), rfl, by decide, tyX12_ok, nmX12, rfl, by decide +kernel, rfl⟩
theorem fX12_75 : jF RX12 75 11 29 := ⟨RX12, TX12, 52, rfl, by decide, inX12, gm 916 (by decide +kernel) (by decide +kernel), rfl, by decide⟩
theorem pX12_75 : jFf RX12 75 11 29 (.array .int) := ⟨RX12, TX12, 52, tyX12, rfl, by decide, inX12, gm 916 (by decide +kernel) (by decide +kernel), rfl, by decide, tyX12_ok, nmX12, rfl, by decide +kernel, rfl⟩
theorem fX12_78 : jF RX12 78 11 30 := ⟨RX12, TX12, 52, rfl, by decide, inX12, gm 917 (by decide +kernel) (by decide +kernel), rfl, by decide⟩
theorem pX12_78 : jFf RX12 78 11 30 (.array .int) := ⟨RX12, TX12, 52, tyX12, rfl, by decide, inX12, gm 917 (by decide +kernel) (by decide +kernel), rfl, by decide, tyX12_ok, nmX12, rfl, by decide +kernel, rfl⟩
theorem fX12_212 : jF RX12 212 11 31 := ⟨RX12, TX12, 52, rfl, by decide, inX12, gm 918 (by decide +kernel) (by decide +kernel), rfl, by decide⟩
theorem pX12_212 : jFp RX12 212 11 31 .int := ⟨RX12, TX12, 52, tyX12, rfl, by decide, inX12, gm 918 (by decide +kernel) (by decide +kernel), rfl, by decide, tyX12_ok, nmX12, rfl, by decide +kernel⟩
theorem fX12_81 : jF RX12 81 11 32 := ⟨RX12, TX12, 52, rfl, by decide, inX12, gm 919 (by decide +kernel) (by decide +kernel), rfl, by decide⟩
theorem pX12_81 : jFf RX12 81 11 32 (.array .int) := ⟨RX12, TX12, 52, tyX12, rfl, by decide, inX12, gm 919 (by decide +kernel) (by decide +kernel), rfl, by decide, tyX12_ok, nmX12, rfl, by decide +kernel, rfl⟩
theorem fX12_84 : jF RX12 84 11 33 := ⟨RX12, TX12, 52, rfl, by decide, inX12, gm 920 (by decide +kernel) (by decide +kernel), rfl, by decide⟩
theorem pX12_84 : jFf RX12 84 11 33 (.array .int) := ⟨RX12, TX12, 52, tyX12, rfl, by decide, inX12, gm 920 (by decide +kernel) (by decide +kernel), rfl, by decide, tyX12_ok, nmX12, rfl, by decide +kernel, rfl⟩
theorem fX12_87 : jF RX12 87 11 34 := ⟨RX12, TX12, 52, rfl, by decide, inX12, gm 921 (by decide +kernel) (by decide +kernel), rfl, by decide⟩
theorem pX12_87 : jFf RX12 87 11 34 (.array .int) := ⟨RX12, TX12, 52, tyX12, rfl, by decide, inX12, gm 921 (by decide +kernel) (by decide +kernel), rfl, by decide, tyX12_ok, nmX12, rfl, by decide +kernel, rfl⟩
theorem fX12_90 : jF RX12 90 11 35 := ⟨RX12, TX12, 52, rfl, by decide, inX12, gm 922 (by decide +kernel) (by decide +kernel), rfl, by decide⟩
theorem pX12_90 : jFf RX12 90 11 35 (.array .int) := ⟨RX12, TX12, 52, tyX12, rfl, by decide, inX12, gm 922 (by decide +kernel) (by decide +kernel), rfl, by decide, tyX12_ok, nmX12, rfl, by decide +kernel, rfl⟩
theorem fX12_280 : jF RX12 280 11 36 := ⟨RX12, TX12, 52, rfl, by decide, inX12, gm 923 (by decide +kernel) (by decide +kernel), rfl, by decide⟩
theorem pX12_280 : jFp RX12 280 11 36 .int := ⟨RX12, TX12, 52, tyX12, rfl, by decide, inX12, gm 923 (by decide +kernel) (by decide +kernel), rfl, by decide, tyX12_ok, nmX12, rfl, by decide +kernel⟩
theorem fX12_93 : jF RX12 93 11 37 := ⟨RX12, TX12, 52, rfl, by decide, inX12, gm 924 (by decide +kernel) (by decide +kernel), rfl, by decide⟩
theorem pX12_93 : jFf RX12 93 11 37 (.array .int) := ⟨RX12, TX12, 52, tyX12, rfl, by decide, inX12, gm 924 (by decide +kernel) (by decide +kernel), rfl, by decide, tyX12_ok, nmX12, rfl, by decide +kernel, rfl⟩
theorem fX12_96 : jF RX12 96 11 38 := ⟨RX12, TX12, 52, rfl, by decide, inX12, gm 925 (by decide +kernel) (by decide +kernel), rfl, by decide⟩
theorem pX12_96 : jFf RX12 96 11 38 (.array .int) := ⟨RX12, TX12, 52, tyX12, rfl, by decide, inX12, gm 925 (by decide +kernel) (by decide +kernel), rfl, by decide, tyX12_ok, nmX12, rfl, by decide +kernel, rfl⟩
theorem fX12_99 : jF RX12 99 11 39 := ⟨RX12, TX12, 52, rfl, by decide, inX12, gm 926 (by decide +kernel) (by decide +kernel), rfl, by decide⟩
theorem pX12_99 : jFf RX12 99 11 39 (.array .int) := ⟨RX12, TX12, 52, tyX12, rfl, by decide, inX12, gm 926 (by decide +kernel) (by decide +kernel), rfl, by decide, tyX12_ok, nmX12, rfl, by decide +kernel, rfl⟩
theorem fX12_102 : jF RX12 102 11 40 := ⟨RX12, TX12, 52, rfl, by decide, inX12, gm 927 (by decide +kernel) (by decide +kernel), rfl, by decide⟩
theorem pX12_102 : jFf RX12 102 11 40 (.array .int) := ⟨RX12, TX12, 52, tyX12, rfl, by decide, inX12, gm 927 (by decide +kernel) (by decide +kernel), rfl, by decide, tyX12_ok, nmX12, rfl, by decide +kernel, rfl⟩
theorem fX12_105 : jF RX12 105 11 41 := ⟨RX12, TX12, 52, rfl, by decide, inX12, gm 928 (by decide +kernel) (by decide +kernel), rfl, by decide⟩
theorem pX12_105 : jFf RX12 105 11 41 (.array .int) := ⟨RX12, TX12, 52, tyX12, rfl, by decide, inX12, gm 928 (by decide +kernel) (by decide +kernel), rfl, by decide, tyX12_ok, nmX12, rfl, by decide +kernel, rfl⟩
theorem fX12_108 : jF RX12 108 11 42 := ⟨RX12, TX12, 52, rfl, by decide, inX12, gm 929 (by decide +kernel) (by decide +kernel), rfl, by decide⟩
theorem pX12_108 : jFf RX12 108 11 42 (.array .int) := ⟨RX12, TX12, 52, tyX12, rfl, by decide, inX12, gm 929 (by decide +kernel) (by decide +kernel), rfl, by decide, tyX12_ok, nmX12, rfl, by decide +kernel, rfl⟩
theorem fX12_111 : jF RX12 111 11 43 := ⟨RX12, TX12, 52, rfl, by decide, inX12, gm 930 (by decide +kernel) (by decide +kernel), rfl, by decide⟩
theorem pX12_111 : jFf RX12 111 11 43 (.array .int) := ⟨RX12, TX12, 52, tyX12, rfl, by decide, inX12, gm 930 (by decide +kernel) (by decide +kernel), rfl, by decide, tyX12_ok, nmX12, rfl, by decide +kernel, rfl⟩
theorem fX12_223 : jF RX12 223 11 44 := ⟨RX12, TX12, 52, rfl, by decide, inX12, gm 931 (by decide +kernel) (by decide +kernel), rfl, by decide⟩
theorem pX12_223 : jFp RX12 223 11 44 .int := ⟨RX12, TX12, 52, tyX12, rfl, by decide, inX12, gm 931 (by decide +kernel) (by decide +kernel), rfl, by decide, tyX12_ok, nmX12, rfl, by decide +kernel⟩
theorem fX12_232 : jF RX12 232 11 45 := ⟨RX12, TX12, 52, rfl, by decide, inX12, gm 932 (by decide +kernel) (by decide +kernel), rfl, by decide⟩
theorem pX12_232 : jFp RX12 232 11 45 .int := ⟨RX12, TX12, 52, tyX12, rfl, by decide, inX12, gm 932 (by decide +kernel) (by decide +kernel), rfl, by decide, tyX12_ok, nmX12, rfl, by decide +kernel⟩
theorem fX12_229 : jF RX12 229 11 46 := ⟨RX12, TX12, 52, rfl, by decide, inX12, gm 933 (by decide +kernel) (by decide +kernel), rfl, by decide⟩
theorem pX12_229 : jFp RX12 229 11 46 .int := ⟨RX12, TX12, 52, tyX12, rfl, by decide, inX12, gm 933 (by decide +kernel) (by decide +kernel), rfl, by decide, tyX12_ok, nmX12, rfl, by decide +kernel⟩
theorem fX12_245 : jF RX12 245 11 47 := ⟨RX12, TX12, 52, rfl, by decide, inX12, gm 934 (by decide +kernel) (by decide +kernel), rfl, by decide⟩
theorem pX12_245 : jFp RX12 245 11 47 .int := ⟨RX12, TX12, 52, tyX12, rfl, by decide, inX12, gm 934 (by decide +kernel) (by decide +kernel), rfl, by decide, tyX12_ok, nmX12, rfl, by decide +kernel⟩
theorem fX12_235 : jF RX12 235 11 48 := ⟨RX12, TX12, 52, rfl, by decide, inX12, gm 935 (by decide +kernel) (by decide +kernel), rfl, by decide⟩
theorem pX12_235 : jFp RX12 235 11 48 .long := ⟨RX12, TX12, 52, tyX12, rfl, by decide, inX12, gm 935 (by decide +kernel) (by decide +kernel), rfl, by decide, tyX12_ok, nmX12, rfl, by decide +kernel⟩
theorem fX12_114 : jF RX12 114 11 49 := ⟨RX12, TX12, 52, rfl, by decide, inX12, gm 936 (by decide +kernel) (by decide +kernel), rfl, by decide⟩
theorem pX12_114 : jFp RX12 114 11 49 .int := ⟨RX12, TX12, 52, tyX12, rfl, by decide, inX12, gm 936 (by decide +kernel) (by decide +kernel), rfl, by decide, tyX12_ok, nmX12, rfl, by decide +kernel⟩
theorem fX12_256 : jF RX12 256 11 50 := ⟨RX12, TX12, 52, rfl, by decide, inX12, gm 937 (by decide +kernel) (by decide +kernel), rfl, by decide⟩
theorem pX12_256 : jFp RX12 256 11 50 .boolean := ⟨RX12, TX12, 52, tyX12, rfl, by decide, inX12, gm 937 (by decide +kernel) (by decide +kernel), rfl, by decide, tyX12_ok, nmX12, rfl, by decide +kernel⟩
theorem fX12_117 : jF RX12 117 11 51 := ⟨RX12, TX12, 52, rfl, by decide, inX12, gm 938 (by decide +kernel) (by decide +kernel), rfl, by decide⟩
theorem pX12_117 : jFp RX12 117 11 51 .int := ⟨RX12, TX12, 52, tyX12, rfl, by decide, inX12, gm 938 (by decide +kernel) (by decide +kernel), rfl, by decide, tyX12_ok, nmX12, rfl, by decide +kernel⟩
theorem kX12_126 : Cond.constantLong RX12 126 (2) ∈ gw_tbl := gm 1048 (by decide +kernel) (by decide +kernel)
theorem kX12_132 : Cond.constantLong RX12 132 (31) ∈ gw_tbl := gm 1052 (by decide +kernel) (by decide +kernel)
theorem kX12_134 : Cond.constantLong RX12 134 (-1000) ∈ gw_tbl := gm 1053 (by decide +kernel) (by decide +kernel)
theorem kX12_136 : Cond.constantLong RX12 136 (1000) ∈ gw_tbl := gm 1054 (by decide +kernel) (by decide +kernel)
theorem kX12_138 : Cond.constantLong RX12 138 (10000) ∈ gw_tbl := gm 1055 (by decide +kernel) (by decide +kernel)
theorem kX12_203 : Cond.constantLong RX12 203 (150) ∈ gw_tbl := gm 1064 (by decide +kernel) (by decide +kernel)
theorem kX12_151 : Cond.constantLong RX12 151 (-1000000000) ∈ gw_tbl := gm 1085 (by decide +kernel) (by decide +kernel)
theorem kX12_153 : Cond.constantLong RX12 153 (1000000000) ∈ gw_tbl := gm 1086 (by decide +kernel) (by decide +kernel)
theorem kX12_218 : Cond.constantLong RX12 218 (-1) ∈ gw_tbl := gm 1131 (by decide +kernel) (by decide +kernel)
theorem kX12_248 : Cond.constantLong RX12 248 (32) ∈ gw_tbl := gm 1162 (by decide +kernel) (by decide +kernel)
theorem kX12_250 : Cond.constantLong RX12 250 (96) ∈ gw_tbl := gm 1163 (by decide +kernel) (by decide +kernel)
theorem kX12_252 : Cond.constantLong RX12 252 (10) ∈ gw_tbl := gm 1164 (by decide +kernel) (by decide +kernel)
theorem kX12_254 : Cond.constantLong RX12 254 (48) ∈ gw_tbl := gm 1165 (by decide +kernel) (by decide +kernel)
theorem kX12_299 : Cond.constant RX12 299 (-2000000000) ∈ gw_tbl := gm 1218 (by decide +kernel) (by decide +kernel)
theorem kX12_300 : Cond.constantLong RX12 300 (7) ∈ gw_tbl := gm 1227 (by decide +kernel) (by decide +kernel)
set_option maxRecDepth 40000 in
theorem cdX11_init : Cond.code yX11_init cX11_init 1 none ∈ gw_tbl := gm 80 (rfl) rfl
set_option maxRecDepth 40000 in
theorem cdX2_init : Cond.code yX2_init cX2_init 1 none ∈ gw_tbl := gm 88 (rfl) rfl
set_option maxRecDepth 40000 in
theorem cdX10_init : Cond.code yX10_init cX10_init 1 none ∈ gw_tbl := gm 106 (rfl) rfl
set_option maxRecDepth 40000 in
theorem cdX4_init : Cond.code yX4_init cX4_init 1 none ∈ gw_tbl := gm 126 (rfl) rfl
set_option maxRecDepth 40000 in
theorem cdX9_init : Cond.code yX9_init cX9_init 2 none ∈ gw_tbl := gm 136 (rfl) rfl
set_option maxRecDepth 40000 in
theorem cdX8_init : Cond.code yX8_init cX8_init 1 none ∈ gw_tbl := gm 143 (rfl) rfl
set_option maxRecDepth 40000 in
theorem cdX5_init : Cond.code yX5_init cX5_init 2 none ∈ gw_tbl := gm 159 (rfl) rfl
set_option maxRecDepth 40000 in
theorem cdX3_init : Cond.code yX3_init cX3_init 1 none ∈ gw_tbl := gm 166 (rfl) rfl
set_option maxRecDepth 40000 in
theorem cdX0_init : Cond.code yX0_init cX0_init 1 none ∈ gw_tbl := gm 234 (rfl) rfl
set_option maxRecDepth 40000 in
theorem cdX1_init : Cond.code yX1_init cX1_init 1 none ∈ gw_tbl := gm 247 (rfl) rfl
set_option maxRecDepth 40000 in
theorem cdX6_init : Cond.code yX6_init cX6_init 1 none ∈ gw_tbl := gm 263 (rfl) rfl
set_option maxRecDepth 40000 in
theorem cdX11_tell : Cond.code yX11_tell cX11_tell 5 (some .int) ∈ gw_tbl := gm 315 (rfl) rfl
set_option maxRecDepth 40000 in
theorem cdX11_isWithin : Cond.code yX11_isWithin cX11_isWithin 3 (some .boolean) ∈ gw_tbl := gm 318 (rfl) rfl
set_option maxRecDepth 40000 in
theorem cdX11_refuse : Cond.code yX11_refuse cX11_refuse 2 (some .int) ∈ gw_tbl := gm 322 (rfl) rfl
set_option maxRecDepth 40000 in
theorem cdX7_pack : Cond.code yX7_pack cX7_pack 5 (some .long) ∈ gw_tbl := gm 325 (rfl) rfl
set_option maxRecDepth 40000 in
theorem cdX2_add : Cond.code yX2_add cX2_add 4 (some .boolean) ∈ gw_tbl := gm 330 (rfl) rfl
set_option maxRecDepth 40000 in
theorem cdX2_size : Cond.code yX2_size cX2_size 1 (some .int) ∈ gw_tbl := gm 334 (rfl) rfl
set_option maxRecDepth 40000 in
theorem cdX11_grant : Cond.code yX11_grant cX11_grant 2 (some .int) ∈ gw_tbl := gm 338 (rfl) rfl
set_option maxRecDepth 40000 in
theorem cdX11_feed : Cond.code yX11_feed cX11_feed 6 (some .int) ∈ gw_tbl := gm 342 (rfl) rfl
set_option maxRecDepth 40000 in
theorem cdX10_hasRoomFor : Cond.code yX10_hasRoomFor cX10_hasRoomFor 2 (some .boolean) ∈ gw_tbl := gm 346 (rfl) rfl
set_option maxRecDepth 40000 in
theorem cdX10_addNumber : Cond.code yX10_addNumber cX10_addNumber 3 none ∈ gw_tbl := gm 350 (rfl) rfl
set_option maxRecDepth 40000 in
theorem cdX10_length : Cond.code yX10_length cX10_length 1 (some .int) ∈ gw_tbl := gm 354 (rfl) rfl
set_option maxRecDepth 40000 in
theorem cdX11_end : Cond.code yX11_end cX11_end 2 (some .int) ∈ gw_tbl := gm 358 (rfl) rfl
set_option maxRecDepth 40000 in
theorem cdX10_cut : Cond.code yX10_cut cX10_cut 2 none ∈ gw_tbl := gm 362 (rfl) rfl
set_option maxRecDepth 40000 in
theorem cdX11_tables : Cond.code yX11_tables cX11_tables 1 (some .int) ∈ gw_tbl := gm 372 (rfl) rfl
set_option maxRecDepth 40000 in
theorem cdX9_draft : Cond.code yX9_draft cX9_draft 1 (some (.object "TableStreams$Plan")) ∈ gw_tbl := gm 376 (rfl) rfl
set_option maxRecDepth 40000 in
theorem cdX4_parse : Cond.code yX4_parse cX4_parse 6 (some .int) ∈ gw_tbl := gm 380 (rfl) rfl
set_option maxRecDepth 40000 in
theorem cdX5_clear : Cond.code yX5_clear cX5_clear 1 none ∈ gw_tbl := gm 384 (rfl) rfl
set_option maxRecDepth 40000 in
theorem cdJ7_fill_53178 : Cond.code yJ7_fill_53178 cJ7_fill_53178 4 none ∈ gw_tbl := gm 387 (rfl) rfl
set_option maxRecDepth 40000 in
theorem cdX10_toFirstToken : Cond.code yX10_toFirstToken cX10_toFirstToken 1 none ∈ gw_tbl := gm 391 (rfl) rfl
set_option maxRecDepth 40000 in
theorem cdX10_toNextToken : Cond.code yX10_toNextToken cX10_toNextToken 1 none ∈ gw_tbl := gm 395 (rfl) rfl
set_option maxRecDepth 40000 in
theorem cdX10_isLetter : Cond.code yX10_isLetter cX10_isLetter 2 (some .boolean) ∈ gw_tbl := gm 399 (rfl) rfl
set_option maxRecDepth 40000 in
theorem cdX10_isDigit : Cond.code yX10_isDigit cX10_isDigit 2 (some .boolean) ∈ gw_tbl := gm 403 (rfl) rfl
set_option maxRecDepth 40000 in
theorem cdX5_at : Cond.code yX5_at cX5_at 2 (some (.object "TableStreams$Making")) ∈ gw_tbl := gm 407 (rfl) rfl
set_option maxRecDepth 40000 in
theorem cdX3_clear : Cond.code yX3_clear cX3_clear 1 none ∈ gw_tbl := gm 412 (rfl) rfl
set_option maxRecDepth 40000 in
theorem cdX4_takeNewName : Cond.code yX4_takeNewName cX4_takeNewName 3 (some .int) ∈ gw_tbl := gm 416 (rfl) rfl
set_option maxRecDepth 40000 in
theorem cdX10_letter : Cond.code yX10_letter cX10_letter 1 (some .int) ∈ gw_tbl := gm 420 (rfl) rfl
set_option maxRecDepth 40000 in
theorem cdX4_takeSign : Cond.code yX4_takeSign cX4_takeSign 3 (some .boolean) ∈ gw_tbl := gm 425 (rfl) rfl
set_option maxRecDepth 40000 in
theorem cdX10_isToken : Cond.code yX10_isToken cX10_isToken 2 (some .boolean) ∈ gw_tbl := gm 429 (rfl) rfl
set_option maxRecDepth 40000 in
theorem cdX4_takeKind : Cond.code yX4_takeKind cX4_takeKind 4 (some .boolean) ∈ gw_tbl := gm 433 (rfl) rfl
set_option maxRecDepth 40000 in
theorem cdX4_wordOf : Cond.code yX4_wordOf cX4_wordOf 1 (some (.object "java/lang/String")) ∈ gw_tbl := gm 436 (rfl) rfl
set_option maxRecDepth 40000 in
theorem cdX10_isToken_ : Cond.code yX10_isToken_ cX10_isToken_ 3 (some .boolean) ∈ gw_tbl := gm 453 (rfl) rfl
set_option maxRecDepth 40000 in
theorem cdJ0_length_8abf5 : Cond.code yJ0_length_8abf5 cJ0_length_8abf5 1 (some .int) ∈ gw_tbl := gm 457 (rfl) rfl
set_option maxRecDepth 40000 in
theorem cdJ0_coder_7d493 : Cond.code yJ0_coder_7d493 cJ0_coder_7d493 1 (some .byte) ∈ gw_tbl := gm 461 (rfl) rfl
set_option maxRecDepth 40000 in
theorem cdJ0_charAt_5068e : Cond.code yJ0_charAt_5068e cJ0_charAt_5068e 2 (some .char) ∈ gw_tbl := gm 467 (rfl) rfl
set_option maxRecDepth 40000 in
theorem cdJ0_isLatin1_aae02 : Cond.code yJ0_isLatin1_aae02 cJ0_isLatin1_aae02 1 (some .boolean) ∈ gw_tbl := gm 471 (rfl) rfl
set_option maxRecDepth 40000 in
theorem cdJ1_charAt_3b067 : Cond.code yJ1_charAt_3b067 cJ1_charAt_3b067 2 (some .char) ∈ gw_tbl := gm 474 (rfl) rfl
set_option maxRecDepth 40000 in
theorem cdJ0_checkIndex_df160 : Cond.code yJ0_checkIndex_df160 cJ0_checkIndex_df160 2 none ∈ gw_tbl := gm 477 (rfl) rfl
set_option maxRecDepth 40000 in
theorem cdJ3_checkIndex_8e157 : Cond.code yJ3_checkIndex_8e157 cJ3_checkIndex_8e157 3 (some .int) ∈ gw_tbl := gm 482 (rfl) rfl
set_option maxRecDepth 40000 in
theorem cdJ2_charAt_3b067 : Cond.code yJ2_charAt_3b067 cJ2_charAt_3b067 2 (some .char) ∈ gw_tbl := gm 485 (rfl) rfl
set_option maxRecDepth 40000 in
theorem cdJ2_checkIndex_2214a : Cond.code yJ2_checkIndex_2214a cJ2_checkIndex_2214a 2 none ∈ gw_tbl := gm 488 (rfl) rfl
set_option maxRecDepth 40000 in
theorem cdJ2_length_9d52b : Cond.code yJ2_length_9d52b cJ2_length_9d52b 1 (some .int) ∈ gw_tbl := gm 491 (rfl) rfl
set_option maxRecDepth 40000 in
theorem cdJ2_getChar_3b067 : Cond.code yJ2_getChar_3b067 cJ2_getChar_3b067 2 (some .char) ∈ gw_tbl := gm 495 (rfl) rfl
set_option maxRecDepth 40000 in
theorem cdX4_takeParts : Cond.code yX4_takeParts cX4_takeParts 3 (some .boolean) ∈ gw_tbl := gm 505 (rfl) rfl
set_option maxRecDepth 40000 in
theorem cdX4_takeDigits : Cond.code yX4_takeDigits cX4_takeDigits 6 (some .boolean) ∈ gw_tbl := gm 509 (rfl) rfl
set_option maxRecDepth 40000 in
theorem cdX10_digits : Cond.code yX10_digits cX10_digits 3 (some .int) ∈ gw_tbl := gm 513 (rfl) rfl
set_option maxRecDepth 40000 in
theorem cdX4_takeLeft : Cond.code yX4_takeLeft cX4_takeLeft 3 (some .boolean) ∈ gw_tbl := gm 518 (rfl) rfl
set_option maxRecDepth 40000 in
theorem cdX4_takeName : Cond.code yX4_takeName cX4_takeName 4 (some .int) ∈ gw_tbl := gm 522 (rfl) rfl
set_option maxRecDepth 40000 in
theorem cdX4_takeColumn : Cond.code yX4_takeColumn cX4_takeColumn 3 (some .boolean) ∈ gw_tbl := gm 526 (rfl) rfl
set_option maxRecDepth 40000 in
theorem cdX4_takeRelation : Cond.code yX4_takeRelation cX4_takeRelation 3 (some .boolean) ∈ gw_tbl := gm 533 (rfl) rfl
set_option maxRecDepth 40000 in
theorem cdX4_takeNumber : Cond.code yX4_takeNumber cX4_takeNumber 4 (some .boolean) ∈ gw_tbl := gm 537 (rfl) rfl
set_option maxRecDepth 40000 in
theorem cdX4_takeRight : Cond.code yX4_takeRight cX4_takeRight 3 (some .boolean) ∈ gw_tbl := gm 541 (rfl) rfl
set_option maxRecDepth 40000 in
theorem cdX10_place : Cond.code yX10_place cX10_place 1 (some .int) ∈ gw_tbl := gm 545 (rfl) rfl
set_option maxRecDepth 40000 in
theorem cdX5_add : Cond.code yX5_add cX5_add 1 none ∈ gw_tbl := gm 549 (rfl) rfl
set_option maxRecDepth 40000 in
theorem cdX10_isAtEnd : Cond.code yX10_isAtEnd cX10_isAtEnd 1 (some .boolean) ∈ gw_tbl := gm 553 (rfl) rfl
set_option maxRecDepth 40000 in
theorem cdX9_takeDraft : Cond.code yX9_takeDraft cX9_takeDraft 2 none ∈ gw_tbl := gm 557 (rfl) rfl
set_option maxRecDepth 40000 in
theorem cdX11_beginAnew : Cond.code yX11_beginAnew cX11_beginAnew 1 none ∈ gw_tbl := gm 561 (rfl) rfl
set_option maxRecDepth 40000 in
theorem cdX6_clear : Cond.code yX6_clear cX6_clear 1 none ∈ gw_tbl := gm 565 (rfl) rfl
set_option maxRecDepth 40000 in
theorem cdX0_clear : Cond.code yX0_clear cX0_clear 1 none ∈ gw_tbl := gm 569 (rfl) rfl
set_option maxRecDepth 40000 in
theorem cdX9_clear : Cond.code yX9_clear cX9_clear 2 none ∈ gw_tbl := gm 573 (rfl) rfl
set_option maxRecDepth 40000 in
theorem cdX8_clear : Cond.code yX8_clear cX8_clear 1 none ∈ gw_tbl := gm 577 (rfl) rfl
set_option maxRecDepth 40000 in
theorem cdX9_size : Cond.code yX9_size cX9_size 1 (some .int) ∈ gw_tbl := gm 581 (rfl) rfl
set_option maxRecDepth 40000 in
theorem cdX5_size : Cond.code yX5_size cX5_size 1 (some .int) ∈ gw_tbl := gm 585 (rfl) rfl
set_option maxRecDepth 40000 in
theorem cdX11_fault : Cond.code yX11_fault cX11_fault 1 (some .int) ∈ gw_tbl := gm 590 (rfl) rfl
set_option maxRecDepth 40000 in
theorem cdX11_late : Cond.code yX11_late cX11_late 3 (some .int) ∈ gw_tbl := gm 594 (rfl) rfl
set_option maxRecDepth 40000 in
theorem cdX11_read : Cond.code yX11_read cX11_read 4 (some .int) ∈ gw_tbl := gm 598 (rfl) rfl
set_option maxRecDepth 40000 in
theorem cdX6_rowsRead : Cond.code yX6_rowsRead cX6_rowsRead 1 (some .int) ∈ gw_tbl := gm 602 (rfl) rfl
set_option maxRecDepth 40000 in
theorem cdX11_readNext : Cond.code yX11_readNext cX11_readNext 6 (some .boolean) ∈ gw_tbl := gm 607 (rfl) rfl
set_option maxRecDepth 40000 in
theorem cdX2_rowAt : Cond.code yX2_rowAt cX2_rowAt 2 (some .long) ∈ gw_tbl := gm 611 (rfl) rfl
set_option maxRecDepth 40000 in
theorem cdX7_timeOf : Cond.code yX7_timeOf cX7_timeOf 2 (some .int) ∈ gw_tbl := gm 615 (rfl) rfl
set_option maxRecDepth 40000 in
theorem cdX6_greatestTime : Cond.code yX6_greatestTime cX6_greatestTime 1 (some .int) ∈ gw_tbl := gm 620 (rfl) rfl
set_option maxRecDepth 40000 in
theorem cdX2_sourceAt : Cond.code yX2_sourceAt cX2_sourceAt 2 (some .int) ∈ gw_tbl := gm 624 (rfl) rfl
set_option maxRecDepth 40000 in
theorem cdX9_offer : Cond.code yX9_offer cX9_offer 7 (some .boolean) ∈ gw_tbl := gm 628 (rfl) rfl
set_option maxRecDepth 40000 in
theorem cdX9_touches : Cond.code yX9_touches cX9_touches 2 (some .boolean) ∈ gw_tbl := gm 633 (rfl) rfl
set_option maxRecDepth 40000 in
theorem cdX9_has : Cond.code yX9_has cX9_has 2 (some .boolean) ∈ gw_tbl := gm 637 (rfl) rfl
set_option maxRecDepth 40000 in
theorem cdX8_copy : Cond.code yX8_copy cX8_copy 2 none ∈ gw_tbl := gm 642 (rfl) rfl
set_option maxRecDepth 40000 in
theorem cdX8_add : Cond.code yX8_add cX8_add 3 none ∈ gw_tbl := gm 649 (rfl) rfl
set_option maxRecDepth 40000 in
theorem cdX9_offeredOf : Cond.code yX9_offeredOf cX9_offeredOf 2 (some (.object "TableStreams$Rows")) ∈ gw_tbl := gm 653 (rfl) rfl
set_option maxRecDepth 40000 in
theorem cdX9_rowsOf : Cond.code yX9_rowsOf cX9_rowsOf 2 (some (.object "TableStreams$Rows")) ∈ gw_tbl := gm 657 (rfl) rfl
set_option maxRecDepth 40000 in
theorem cdX3_fill : Cond.code yX3_fill cX3_fill 5 none ∈ gw_tbl := gm 661 (rfl) rfl
set_option maxRecDepth 40000 in
theorem cdX3_fillByGroup : Cond.code yX3_fillByGroup cX3_fillByGroup 12 none ∈ gw_tbl := gm 666 (rfl) rfl
set_option maxRecDepth 40000 in
theorem cdX8_size : Cond.code yX8_size cX8_size 1 (some .int) ∈ gw_tbl := gm 670 (rfl) rfl
set_option maxRecDepth 40000 in
theorem cdX8_at : Cond.code yX8_at cX8_at 2 (some .long) ∈ gw_tbl := gm 674 (rfl) rfl
set_option maxRecDepth 40000 in
theorem cdX7_valueOf : Cond.code yX7_valueOf cX7_valueOf 2 (some .int) ∈ gw_tbl := gm 678 (rfl) rfl
set_option maxRecDepth 40000 in
theorem cdX7_groupOf : Cond.code yX7_groupOf cX7_groupOf 2 (some .long) ∈ gw_tbl := gm 682 (rfl) rfl
set_option maxRecDepth 40000 in
theorem cdX7_keyOf : Cond.code yX7_keyOf cX7_keyOf 2 (some .int) ∈ gw_tbl := gm 685 (rfl) rfl
set_option maxRecDepth 40000 in
theorem cdX8_add_ : Cond.code yX8_add_ cX8_add_ 5 none ∈ gw_tbl := gm 690 (rfl) rfl
set_option maxRecDepth 40000 in
theorem cdX3_fillByKey : Cond.code yX3_fillByKey cX3_fillByKey 6 none ∈ gw_tbl := gm 698 (rfl) rfl
set_option maxRecDepth 40000 in
theorem cdX3_fillByPairs : Cond.code yX3_fillByPairs cX3_fillByPairs 14 none ∈ gw_tbl := gm 703 (rfl) rfl
set_option maxRecDepth 40000 in
theorem cdX8_isFull : Cond.code yX8_isFull cX8_isFull 1 (some .boolean) ∈ gw_tbl := gm 707 (rfl) rfl
set_option maxRecDepth 40000 in
theorem cdX8_keys : Cond.code yX8_keys cX8_keys 3 (some .int) ∈ gw_tbl := gm 712 (rfl) rfl
set_option maxRecDepth 40000 in
theorem cdX3_fillWithout : Cond.code yX3_fillWithout cX3_fillWithout 7 none ∈ gw_tbl := gm 717 (rfl) rfl
set_option maxRecDepth 40000 in
theorem cdX3_addOne : Cond.code yX3_addOne cX3_addOne 8 none ∈ gw_tbl := gm 721 (rfl) rfl
set_option maxRecDepth 40000 in
theorem cdX7_partOf : Cond.code yX7_partOf cX7_partOf 3 (some .int) ∈ gw_tbl := gm 724 (rfl) rfl
set_option maxRecDepth 40000 in
theorem cdX3_holdsOf : Cond.code yX3_holdsOf cX3_holdsOf 2 (some .boolean) ∈ gw_tbl := gm 732 (rfl) rfl
set_option maxRecDepth 40000 in
theorem cdX8_sort : Cond.code yX8_sort cX8_sort 4 none ∈ gw_tbl := gm 737 (rfl) rfl
set_option maxRecDepth 40000 in
theorem cdX8_merge : Cond.code yX8_merge cX8_merge 9 none ∈ gw_tbl := gm 742 (rfl) rfl
set_option maxRecDepth 40000 in
theorem cdX9_answer : Cond.code yX9_answer cX9_answer 1 (some (.object "TableStreams$Rows")) ∈ gw_tbl := gm 746 (rfl) rfl
set_option maxRecDepth 40000 in
theorem cdX9_answerOffered : Cond.code yX9_answerOffered cX9_answerOffered 1 (some (.object "TableStreams$Rows")) ∈ gw_tbl := gm 750 (rfl) rfl
set_option maxRecDepth 40000 in
theorem cdX0_addDifference : Cond.code yX0_addDifference cX0_addDifference 4 (some .boolean) ∈ gw_tbl := gm 754 (rfl) rfl
set_option maxRecDepth 40000 in
theorem cdX0_addMissing : Cond.code yX0_addMissing cX0_addMissing 8 (some .boolean) ∈ gw_tbl := gm 758 (rfl) rfl
set_option maxRecDepth 40000 in
theorem cdX9_acceptOffer : Cond.code yX9_acceptOffer cX9_acceptOffer 3 none ∈ gw_tbl := gm 764 (rfl) rfl
set_option maxRecDepth 40000 in
theorem cdX6_step : Cond.code yX6_step cX6_step 3 none ∈ gw_tbl := gm 768 (rfl) rfl
set_option maxRecDepth 40000 in
theorem cdX11_mark : Cond.code yX11_mark cX11_mark 1 (some .int) ∈ gw_tbl := gm 773 (rfl) rfl
set_option maxRecDepth 40000 in
theorem cdX0_addAll : Cond.code yX0_addAll cX0_addAll 2 (some .boolean) ∈ gw_tbl := gm 777 (rfl) rfl
set_option maxRecDepth 40000 in
theorem cdX6_copy : Cond.code yX6_copy cX6_copy 2 none ∈ gw_tbl := gm 782 (rfl) rfl
set_option maxRecDepth 40000 in
theorem cdX9_keep : Cond.code yX9_keep cX9_keep 2 none ∈ gw_tbl := gm 786 (rfl) rfl
set_option maxRecDepth 40000 in
theorem cdX0_size : Cond.code yX0_size cX0_size 1 (some .int) ∈ gw_tbl := gm 790 (rfl) rfl
set_option maxRecDepth 40000 in
theorem cdX11_fall : Cond.code yX11_fall cX11_fall 1 (some .int) ∈ gw_tbl := gm 794 (rfl) rfl
set_option maxRecDepth 40000 in
theorem cdX9_restore : Cond.code yX9_restore cX9_restore 2 none ∈ gw_tbl := gm 798 (rfl) rfl
set_option maxRecDepth 40000 in
theorem cdX11_rows : Cond.code yX11_rows cX11_rows 2 (some .int) ∈ gw_tbl := gm 802 (rfl) rfl
set_option maxRecDepth 40000 in
theorem cdX11_row : Cond.code yX11_row cX11_row 4 (some .int) ∈ gw_tbl := gm 809 (rfl) rfl
set_option maxRecDepth 40000 in
theorem cdX11_out : Cond.code yX11_out cX11_out 3 (some .int) ∈ gw_tbl := gm 816 (rfl) rfl
set_option maxRecDepth 40000 in
theorem cdX0_partOf : Cond.code yX0_partOf cX0_partOf 3 (some .int) ∈ gw_tbl := gm 820 (rfl) rfl
set_option maxRecDepth 40000 in
theorem cdX11_host : Cond.code yX11_host cX11_host 3 (some .int) ∈ gw_tbl := gm 827 (rfl) rfl
set_option maxRecDepth 40000 in
theorem cdX1_has : Cond.code yX1_has cX1_has 2 (some .boolean) ∈ gw_tbl := gm 831 (rfl) rfl
set_option maxRecDepth 40000 in
theorem cdX1_size : Cond.code yX1_size cX1_size 1 (some .int) ∈ gw_tbl := gm 836 (rfl) rfl
set_option maxRecDepth 40000 in
theorem cdX1_change : Cond.code yX1_change cX1_change 6 (some .int) ∈ gw_tbl := gm 840 (rfl) rfl
set_option maxRecDepth 40000 in
theorem cdX1_choose : Cond.code yX1_choose cX1_choose 6 (some .int) ∈ gw_tbl := gm 844 (rfl) rfl
set_option maxRecDepth 40000 in
theorem cdX9_countOfKeys : Cond.code yX9_countOfKeys cX9_countOfKeys 4 (some .int) ∈ gw_tbl := gm 848 (rfl) rfl
set_option maxRecDepth 40000 in
theorem cdX8_countOfKeys : Cond.code yX8_countOfKeys cX8_countOfKeys 4 (some .int) ∈ gw_tbl := gm 852 (rfl) rfl
set_option maxRecDepth 40000 in
theorem cdX11_owner : Cond.code yX11_owner cX11_owner 2 (some .int) ∈ gw_tbl := gm 856 (rfl) rfl
set_option maxRecDepth 40000 in
theorem cdX1_ownerOf : Cond.code yX1_ownerOf cX1_ownerOf 2 (some .int) ∈ gw_tbl := gm 860 (rfl) rfl
set_option maxRecDepth 40000 in
theorem cdX11_owns : Cond.code yX11_owns cX11_owns 2 (some .int) ∈ gw_tbl := gm 864 (rfl) rfl
set_option maxRecDepth 40000 in
theorem cdX1_keysOf : Cond.code yX1_keysOf cX1_keysOf 4 (some .int) ∈ gw_tbl := gm 868 (rfl) rfl
set_option maxRecDepth 40000 in
theorem cdX11_count : Cond.code yX11_count cX11_count 2 (some .int) ∈ gw_tbl := gm 872 (rfl) rfl
set_option maxRecDepth 40000 in
theorem cdX6_rowsLate : Cond.code yX6_rowsLate cX6_rowsLate 1 (some .int) ∈ gw_tbl := gm 876 (rfl) rfl
set_option maxRecDepth 40000 in
theorem cdX11_status : Cond.code yX11_status cX11_status 1 (some .int) ∈ gw_tbl := gm 880 (rfl) rfl
set_option maxRecDepth 40000 in
theorem cdX12_init : Cond.code yX12_init cX12_init 1 none ∈ gw_tbl := gm 885 (rfl) rfl
set_option maxRecDepth 40000 in
theorem cdX12_tell : Cond.code yX12_tell cX12_tell 5 (some .int) ∈ gw_tbl := gm 1047 (rfl) rfl
set_option maxRecDepth 40000 in
theorem cdX12_in : Cond.code yX12_in cX12_in 6 (some .boolean) ∈ gw_tbl := gm 1051 (rfl) rfl
set_option maxRecDepth 40000 in
theorem cdX12_told : Cond.code yX12_told cX12_told 2 (some .int) ∈ gw_tbl := gm 1059 (rfl) rfl
set_option maxRecDepth 40000 in
theorem cdX12_read : Cond.code yX12_read cX12_read 4 (some .int) ∈ gw_tbl := gm 1063 (rfl) rfl
set_option maxRecDepth 40000 in
theorem cdX12_readOne : Cond.code yX12_readOne cX12_readOne 3 (some .boolean) ∈ gw_tbl := gm 1068 (rfl) rfl
set_option maxRecDepth 40000 in
theorem cdX12_latest : Cond.code yX12_latest cX12_latest 4 (some .int) ∈ gw_tbl := gm 1072 (rfl) rfl
set_option maxRecDepth 40000 in
theorem cdX12_makeAll : Cond.code yX12_makeAll cX12_makeAll 3 (some .boolean) ∈ gw_tbl := gm 1076 (rfl) rfl
set_option maxRecDepth 40000 in
theorem cdX12_make : Cond.code yX12_make cX12_make 4 none ∈ gw_tbl := gm 1080 (rfl) rfl
set_option maxRecDepth 40000 in
theorem cdX12_add : Cond.code yX12_add cX12_add 7 none ∈ gw_tbl := gm 1084 (rfl) rfl
set_option maxRecDepth 40000 in
theorem cdX12_isBefore : Cond.code yX12_isBefore cX12_isBefore 5 (some .boolean) ∈ gw_tbl := gm 1090 (rfl) rfl
set_option maxRecDepth 40000 in
theorem cdX12_makeEach : Cond.code yX12_makeEach cX12_makeEach 5 none ∈ gw_tbl := gm 1094 (rfl) rfl
set_option maxRecDepth 40000 in
theorem cdX12_makeHeaps : Cond.code yX12_makeHeaps cX12_makeHeaps 10 none ∈ gw_tbl := gm 1098 (rfl) rfl
set_option maxRecDepth 40000 in
theorem cdX12_makeOfTwo : Cond.code yX12_makeOfTwo cX12_makeOfTwo 7 none ∈ gw_tbl := gm 1102 (rfl) rfl
set_option maxRecDepth 40000 in
theorem cdX12_change : Cond.code yX12_change cX12_change 6 (some .boolean) ∈ gw_tbl := gm 1106 (rfl) rfl
set_option maxRecDepth 40000 in
theorem cdX12_order : Cond.code yX12_order cX12_order 3 (some .int) ∈ gw_tbl := gm 1110 (rfl) rfl
set_option maxRecDepth 40000 in
theorem cdX12_keep : Cond.code yX12_keep cX12_keep 3 none ∈ gw_tbl := gm 1114 (rfl) rfl
set_option maxRecDepth 40000 in
theorem cdX12_mark : Cond.code yX12_mark cX12_mark 2 (some .int) ∈ gw_tbl := gm 1118 (rfl) rfl
set_option maxRecDepth 40000 in
theorem cdX12_fall : Cond.code yX12_fall cX12_fall 1 (some .int) ∈ gw_tbl := gm 1122 (rfl) rfl
set_option maxRecDepth 40000 in
theorem cdX12_goTo : Cond.code yX12_goTo cX12_goTo 2 none ∈ gw_tbl := gm 1126 (rfl) rfl
set_option maxRecDepth 40000 in
theorem cdX12_late : Cond.code yX12_late cX12_late 3 (some .int) ∈ gw_tbl := gm 1130 (rfl) rfl
set_option maxRecDepth 40000 in
theorem cdX12_begin : Cond.code yX12_begin cX12_begin 1 none ∈ gw_tbl := gm 1135 (rfl) rfl
set_option maxRecDepth 40000 in
theorem cdX12_feed : Cond.code yX12_feed cX12_feed 6 (some .int) ∈ gw_tbl := gm 1139 (rfl) rfl
set_option maxRecDepth 40000 in
theorem cdX12_four : Cond.code yX12_four cX12_four 3 none ∈ gw_tbl := gm 1143 (rfl) rfl
set_option maxRecDepth 40000 in
theorem cdX12_end : Cond.code yX12_end cX12_end 2 (some .int) ∈ gw_tbl := gm 1147 (rfl) rfl
set_option maxRecDepth 40000 in
theorem cdX12_tables : Cond.code yX12_tables cX12_tables 2 (some .int) ∈ gw_tbl := gm 1151 (rfl) rfl
set_option maxRecDepth 40000 in
theorem cdX12_next : Cond.code yX12_next cX12_next 1 none ∈ gw_tbl := gm 1155 (rfl) rfl
set_option maxRecDepth 40000 in
theorem cdX12_isSmall : Cond.code yX12_isSmall cX12_isSmall 1 (some .boolean) ∈ gw_tbl := gm 1158 (rfl) rfl
set_option maxRecDepth 40000 in
theorem cdX12_isDigit : Cond.code yX12_isDigit cX12_isDigit 1 (some .boolean) ∈ gw_tbl := gm 1161 (rfl) rfl
set_option maxRecDepth 40000 in
theorem cdX12_readTable : Cond.code yX12_readTable cX12_readTable 7 none ∈ gw_tbl := gm 1169 (rfl) rfl
set_option maxRecDepth 40000 in
theorem cdX12_isName : Cond.code yX12_isName cX12_isName 1 (some .boolean) ∈ gw_tbl := gm 1173 (rfl) rfl
set_option maxRecDepth 40000 in
theorem cdX12_must : Cond.code yX12_must cX12_must 2 none ∈ gw_tbl := gm 1177 (rfl) rfl
set_option maxRecDepth 40000 in
theorem cdX12_isSign : Cond.code yX12_isSign cX12_isSign 2 (some .boolean) ∈ gw_tbl := gm 1181 (rfl) rfl
set_option maxRecDepth 40000 in
theorem cdX12_kindAt : Cond.code yX12_kindAt cX12_kindAt 1 (some .int) ∈ gw_tbl := gm 1185 (rfl) rfl
set_option maxRecDepth 40000 in
theorem cdX12_isWord : Cond.code yX12_isWord cX12_isWord 9 (some .boolean) ∈ gw_tbl := gm 1189 (rfl) rfl
set_option maxRecDepth 40000 in
theorem cdX12_number : Cond.code yX12_number cX12_number 6 (some .int) ∈ gw_tbl := gm 1193 (rfl) rfl
set_option maxRecDepth 40000 in
theorem cdX12_name : Cond.code yX12_name cX12_name 2 (some .int) ∈ gw_tbl := gm 1197 (rfl) rfl
set_option maxRecDepth 40000 in
theorem cdX12_signed : Cond.code yX12_signed cX12_signed 3 (some .int) ∈ gw_tbl := gm 1201 (rfl) rfl
set_option maxRecDepth 40000 in
theorem cdX12_fault : Cond.code yX12_fault cX12_fault 1 (some .int) ∈ gw_tbl := gm 1205 (rfl) rfl
set_option maxRecDepth 40000 in
theorem cdX12_rows : Cond.code yX12_rows cX12_rows 2 (some .int) ∈ gw_tbl := gm 1209 (rfl) rfl
set_option maxRecDepth 40000 in
theorem cdX12_isTable : Cond.code yX12_isTable cX12_isTable 2 (some .boolean) ∈ gw_tbl := gm 1213 (rfl) rfl
set_option maxRecDepth 40000 in
theorem cdX12_row : Cond.code yX12_row cX12_row 5 (some .int) ∈ gw_tbl := gm 1217 (rfl) rfl
set_option maxRecDepth 40000 in
theorem cdX12_out : Cond.code yX12_out cX12_out 3 (some .int) ∈ gw_tbl := gm 1222 (rfl) rfl
set_option maxRecDepth 40000 in
theorem cdX12_host : Cond.code yX12_host cX12_host 7 (some .int) ∈ gw_tbl := gm 1226 (rfl) rfl
set_option maxRecDepth 40000 in
theorem cdX12_ownerBy : Cond.code yX12_ownerBy cX12_ownerBy 6 (some .int) ∈ gw_tbl := gm 1230 (rfl) rfl
set_option maxRecDepth 40000 in
theorem cdX12_owner : Cond.code yX12_owner cX12_owner 2 (some .int) ∈ gw_tbl := gm 1234 (rfl) rfl
set_option maxRecDepth 40000 in
theorem cdX12_owns : Cond.code yX12_owns cX12_owns 5 (some .int) ∈ gw_tbl := gm 1238 (rfl) rfl
set_option maxRecDepth 40000 in
theorem cdX12_count : Cond.code yX12_count cX12_count 4 (some .int) ∈ gw_tbl := gm 1242 (rfl) rfl
set_option maxRecDepth 40000 in
theorem cdX12_status : Cond.code yX12_status cX12_status 1 (some .int) ∈ gw_tbl := gm 1246 (rfl) rfl
theorem vL_9 : jIi RL 9 yX11_init cX11_init 1 0 := ⟨gms [78, 79, 56] (by decide +kernel) (by decide +kernel), cdX11_init, by decide +kernel, rfl⟩
theorem vX11_9 : jIi RX11 9 yX2_init cX2_init 1 0 := ⟨gms [86, 87, 57] (by decide +kernel) (by decide +kernel), cdX2_init, by decide +kernel, rfl⟩
theorem vX11_18 : jIi RX11 18 yX10_init cX10_init 1 0 := ⟨gms [104, 105, 58] (by decide +kernel) (by decide +kernel), cdX10_init, by decide +kernel, rfl⟩
theorem vX11_25 : jIi RX11 25 yX4_init cX4_init 1 0 := ⟨gms [124, 125, 59] (by decide +kernel) (by decide +kernel), cdX4_init, by decide +kernel, rfl⟩
theorem vX11_32 : jIi RX11 32 yX9_init cX9_init 2 0 := ⟨gms [134, 135, 60] (by decide +kernel) (by decide +kernel), cdX9_init, by decide +kernel, rfl⟩
theorem vX9_23 : jIi RX9 23 yX8_init cX8_init 1 0 := ⟨gms [141, 142, 61] (by decide +kernel) (by decide +kernel), cdX8_init, by decide +kernel, rfl⟩
theorem vX9_38 : jIi RX9 38 yX5_init cX5_init 2 0 := ⟨gms [157, 158, 62] (by decide +kernel) (by decide +kernel), cdX5_init, by decide +kernel, rfl⟩
theorem vX5_17 : jIn RX5 17 yX3_init cX3_init 1 0 := ⟨by decide +kernel, gm 165 (by decide +kernel) (by decide +kernel), gm 63 (by decide +kernel) (by decide +kernel), cdX3_init, by decide +kernel, rfl⟩
theorem vX11_39 : jIi RX11 39 yX0_init cX0_init 1 0 := ⟨gms [232, 233, 64] (by decide +kernel) (by decide +kernel), cdX0_init, by decide +kernel, rfl⟩
theorem vX11_49 : jIi RX11 49 yX1_init cX1_init 1 0 := ⟨gms [245, 246, 65] (by decide +kernel) (by decide +kernel), cdX1_init, by decide +kernel, rfl⟩
theorem vX11_56 : jIi RX11 56 yX6_init cX6_init 1 0 := ⟨gms [261, 262, 66] (by decide +kernel) (by decide +kernel), cdX6_init, by decide +kernel, rfl⟩
theorem vL_13 : jV RL 13 10 yX11_tell cX11_tell 5 (some .int) 4 := ⟨⟨TX11, 12, rfl⟩, by decide, gms [312, 313, 314, 56] (by decide +kernel) (by decide +kernel), cdX11_tell, by decide +kernel⟩
theorem vX11_74 : jSs RX11 74 yX11_isWithin cX11_isWithin 3 (some .boolean) 3 := ⟨gms [316, 317, 56] (by decide +kernel) (by decide +kernel), cdX11_isWithin, by decide +kernel⟩
theorem vX11_78 : jV RX11 78 10 yX11_refuse cX11_refuse 2 (some .int) 1 := ⟨⟨TX11, 12, rfl⟩, by decide, gms [319, 321, 0, 56] (by decide +kernel) (by decide +kernel), cdX11_refuse, by decide +kernel⟩
theorem vX11_82 : jSs RX11 82 yX7_pack cX7_pack 5 (some .long) 3 := ⟨gms [323, 324, 68] (by decide +kernel) (by decide +kernel), cdX7_pack, by decide +kernel⟩
theorem vX11_88 : jV RX11 88 2 yX2_add cX2_add 4 (some .boolean) 2 := ⟨⟨TX2, 3, rfl⟩, by decide, gms [327, 328, 329, 57] (by decide +kernel) (by decide +kernel), cdX2_add, by decide +kernel⟩
theorem vX11_92 : jV RX11 92 2 yX2_size cX2_size 1 (some .int) 0 := ⟨⟨TX2, 3, rfl⟩, by decide, gms [331, 332, 333, 57] (by decide +kernel) (by decide +kernel), cdX2_size, by decide +kernel⟩
theorem vX11_96 : jV RX11 96 10 yX11_grant cX11_grant 2 (some .int) 1 := ⟨⟨TX11, 12, rfl⟩, by decide, gms [335, 337, 1, 56] (by decide +kernel) (by decide +kernel), cdX11_grant, by decide +kernel⟩
theorem vL_18 : jV RL 18 10 yX11_feed cX11_feed 6 (some .int) 5 := ⟨⟨TX11, 12, rfl⟩, by decide, gms [339, 340, 341, 56] (by decide +kernel) (by decide +kernel), cdX11_feed, by decide +kernel⟩
theorem vX11_99 : jV RX11 99 9 yX10_hasRoomFor cX10_hasRoomFor 2 (some .boolean) 1 := ⟨⟨TX10, 4, rfl⟩, by decide, gms [343, 344, 345, 58] (by decide +kernel) (by decide +kernel), cdX10_hasRoomFor, by decide +kernel⟩
theorem vX11_103 : jV RX11 103 9 yX10_addNumber cX10_addNumber 3 none 1 := ⟨⟨TX10, 4, rfl⟩, by decide, gms [347, 348, 349, 58] (by decide +kernel) (by decide +kernel), cdX10_addNumber, by decide +kernel⟩
theorem vX11_107 : jV RX11 107 9 yX10_length cX10_length 1 (some .int) 0 := ⟨⟨TX10, 4, rfl⟩, by decide, gms [351, 352, 353, 58] (by decide +kernel) (by decide +kernel), cdX10_length, by decide +kernel⟩
theorem vL_23 : jV RL 23 10 yX11_end cX11_end 2 (some .int) 1 := ⟨⟨TX11, 12, rfl⟩, by decide, gms [355, 356, 357, 56] (by decide +kernel) (by decide +kernel), cdX11_end, by decide +kernel⟩
theorem vX11_110 : jV RX11 110 9 yX10_cut cX10_cut 2 none 1 := ⟨⟨TX10, 4, rfl⟩, by decide, gms [359, 360, 361, 58] (by decide +kernel) (by decide +kernel), cdX10_cut, by decide +kernel⟩
theorem vL_28 : jV RL 28 10 yX11_tables cX11_tables 1 (some .int) 0 := ⟨⟨TX11, 12, rfl⟩, by decide, gms [369, 370, 371, 56] (by decide +kernel) (by decide +kernel), cdX11_tables, by decide +kernel⟩
theorem vX11_113 : jV RX11 113 8 yX9_draft cX9_draft 1 (some (.object "TableStreams$Plan")) 0 := ⟨⟨TX9, 8, rfl⟩, by decide, gms [373, 374, 375, 60] (by decide +kernel) (by decide +kernel), cdX9_draft, by decide +kernel⟩
theorem vX11_117 : jV RX11 117 4 yX4_parse cX4_parse 6 (some .int) 2 := ⟨⟨TX4, 1, rfl⟩, by decide, gms [377, 378, 379, 59] (by decide +kernel) (by decide +kernel), cdX4_parse, by decide +kernel⟩
theorem vX4_15 : jV RX4 15 5 yX5_clear cX5_clear 1 none 0 := ⟨⟨TX5, 2, rfl⟩, by decide, gms [381, 382, 383, 62] (by decide +kernel) (by decide +kernel), cdX5_clear, by decide +kernel⟩
theorem vX4_20 : jSs RX4 20 yJ7_fill_53178 cJ7_fill_53178 4 none 2 := ⟨gms [385, 386, 70] (by decide +kernel) (by decide +kernel), cdJ7_fill_53178, by decide +kernel⟩
theorem vX4_26 : jV RX4 26 9 yX10_toFirstToken cX10_toFirstToken 1 none 0 := ⟨⟨TX10, 4, rfl⟩, by decide, gms [388, 389, 390, 58] (by decide +kernel) (by decide +kernel), cdX10_toFirstToken, by decide +kernel⟩
theorem vX10_31 : jV RX10 31 9 yX10_toNextToken cX10_toNextToken 1 none 0 := ⟨⟨TX10, 4, rfl⟩, by decide, gms [392, 393, 394, 58] (by decide +kernel) (by decide +kernel), cdX10_toNextToken, by decide +kernel⟩
theorem vX10_37 : jV RX10 37 9 yX10_isLetter cX10_isLetter 2 (some .boolean) 1 := ⟨⟨TX10, 4, rfl⟩, by decide, gms [396, 398, 2, 58] (by decide +kernel) (by decide +kernel), cdX10_isLetter, by decide +kernel⟩
theorem vX10_41 : jV RX10 41 9 yX10_isDigit cX10_isDigit 2 (some .boolean) 1 := ⟨⟨TX10, 4, rfl⟩, by decide, gms [400, 402, 3, 58] (by decide +kernel) (by decide +kernel), cdX10_isDigit, by decide +kernel⟩
theorem vX4_31 : jV RX4 31 5 yX5_at cX5_at 2 (some (.object "TableStreams$Making")) 1 := ⟨⟨TX5, 2, rfl⟩, by decide, gms [404, 405, 406, 62] (by decide +kernel) (by decide +kernel), cdX5_at, by decide +kernel⟩
theorem vX5_22 : jSn RX5 22 yX11_isWithin cX11_isWithin 3 (some .boolean) 3 := ⟨by decide +kernel, gm 317 (by decide +kernel) (by decide +kernel), gm 56 (by decide +kernel) (by decide +kernel), cdX11_isWithin, by decide +kernel⟩
theorem vX4_35 : jV RX4 35 3 yX3_clear cX3_clear 1 none 0 := ⟨⟨TX3, 6, rfl⟩, by decide, gms [409, 410, 411, 63] (by decide +kernel) (by decide +kernel), cdX3_clear, by decide +kernel⟩
theorem vX4_38 : jV RX4 38 4 yX4_takeNewName cX4_takeNewName 3 (some .int) 1 := ⟨⟨TX4, 1, rfl⟩, by decide, gms [413, 415, 4, 59] (by decide +kernel) (by decide +kernel), cdX4_takeNewName, by decide +kernel⟩
theorem vX4_64 : jV RX4 64 9 yX10_letter cX10_letter 1 (some .int) 0 := ⟨⟨TX10, 4, rfl⟩, by decide, gms [417, 418, 419, 58] (by decide +kernel) (by decide +kernel), cdX10_letter, by decide +kernel⟩
theorem vX4_67 : jV RX4 67 9 yX10_toNextToken cX10_toNextToken 1 none 0 := ⟨⟨TX10, 4, rfl⟩, by decide, gms [421, 393, 394, 58] (by decide +kernel) (by decide +kernel), cdX10_toNextToken, by decide +kernel⟩
theorem vX4_42 : jV RX4 42 4 yX4_takeSign cX4_takeSign 3 (some .boolean) 2 := ⟨⟨TX4, 1, rfl⟩, by decide, gms [422, 424, 5, 59] (by decide +kernel) (by decide +kernel), cdX4_takeSign, by decide +kernel⟩
theorem vX4_159 : jV RX4 159 9 yX10_isToken cX10_isToken 2 (some .boolean) 1 := ⟨⟨TX10, 4, rfl⟩, by decide, gms [426, 427, 428, 58] (by decide +kernel) (by decide +kernel), cdX10_isToken, by decide +kernel⟩
theorem vX4_46 : jV RX4 46 4 yX4_takeKind cX4_takeKind 4 (some .boolean) 2 := ⟨⟨TX4, 1, rfl⟩, by decide, gms [430, 432, 6, 59] (by decide +kernel) (by decide +kernel), cdX4_takeKind, by decide +kernel⟩
theorem vX4_70 : jSs RX4 70 yX4_wordOf cX4_wordOf 1 (some (.object "java/lang/String")) 1 := ⟨gms [434, 435, 59] (by decide +kernel) (by decide +kernel), cdX4_wordOf, by decide +kernel⟩
theorem vX4_74 : jV RX4 74 9 yX10_isToken_ cX10_isToken_ 3 (some .boolean) 1 := ⟨⟨TX10, 4, rfl⟩, by decide, gms [450, 451, 452, 58] (by decide +kernel) (by decide +kernel), cdX10_isToken_, by decide +kernel⟩
theorem vJ0_495 : jSs RJ0 495 yJ1_charAt_3b067 cJ1_charAt_3b067 2 (some .char) 2 := ⟨gms [472, 473, 72] (by decide +kernel) (by decide +kernel), cdJ1_charAt_3b067, by decide +kernel⟩
theorem vJ1_9 : jSs RJ1 9 yJ0_checkIndex_df160 cJ0_checkIndex_df160 2 none 2 := ⟨gms [475, 476, 71] (by decide +kernel) (by decide +kernel), cdJ0_checkIndex_df160, by decide +kernel⟩
theorem vJ0_1059 : jSs RJ0 1059 yJ3_checkIndex_8e157 cJ3_checkIndex_8e157 3 (some .int) 3 := ⟨gms [480, 481, 73] (by decide +kernel) (by decide +kernel), cdJ3_checkIndex_8e157, by decide +kernel⟩
theorem vJ0_498 : jSs RJ0 498 yJ2_charAt_3b067 cJ2_charAt_3b067 2 (some .char) 2 := ⟨gms [483, 484, 74] (by decide +kernel) (by decide +kernel), cdJ2_charAt_3b067, by decide +kernel⟩
theorem vJ2_67 : jSs RJ2 67 yJ2_checkIndex_2214a cJ2_checkIndex_2214a 2 none 2 := ⟨gms [486, 487, 74] (by decide +kernel) (by decide +kernel), cdJ2_checkIndex_2214a, by decide +kernel⟩
theorem vJ2_48 : jSs RJ2 48 yJ2_length_9d52b cJ2_length_9d52b 1 (some .int) 1 := ⟨gms [489, 490, 74] (by decide +kernel) (by decide +kernel), cdJ2_length_9d52b, by decide +kernel⟩
theorem vJ2_414 : jSs RJ2 414 yJ0_checkIndex_df160 cJ0_checkIndex_df160 2 none 2 := ⟨gms [492, 476, 71] (by decide +kernel) (by decide +kernel), cdJ0_checkIndex_df160, by decide +kernel⟩
theorem vJ2_71 : jSs RJ2 71 yJ2_getChar_3b067 cJ2_getChar_3b067 2 (some .char) 2 := ⟨gms [493, 494, 74] (by decide +kernel) (by decide +kernel), cdJ2_getChar_3b067, by decide +kernel⟩
theorem vX4_50 : jV RX4 50 4 yX4_takeParts cX4_takeParts 3 (some .boolean) 2 := ⟨⟨TX4, 1, rfl⟩, by decide, gms [502, 504, 7, 59] (by decide +kernel) (by decide +kernel), cdX4_takeParts, by decide +kernel⟩
theorem vX4_108 : jV RX4 108 4 yX4_takeDigits cX4_takeDigits 6 (some .boolean) 4 := ⟨⟨TX4, 1, rfl⟩, by decide, gms [506, 508, 8, 59] (by decide +kernel) (by decide +kernel), cdX4_takeDigits, by decide +kernel⟩
theorem vX4_152 : jV RX4 152 9 yX10_digits cX10_digits 3 (some .int) 0 := ⟨⟨TX10, 4, rfl⟩, by decide, gms [510, 511, 512, 58] (by decide +kernel) (by decide +kernel), cdX10_digits, by decide +kernel⟩
theorem vX4_155 : jSn RX4 155 yX11_isWithin cX11_isWithin 3 (some .boolean) 3 := ⟨by decide +kernel, gm 317 (by decide +kernel) (by decide +kernel), gm 56 (by decide +kernel) (by decide +kernel), cdX11_isWithin, by decide +kernel⟩
theorem vX4_112 : jV RX4 112 4 yX4_takeLeft cX4_takeLeft 3 (some .boolean) 2 := ⟨⟨TX4, 1, rfl⟩, by decide, gms [515, 517, 9, 59] (by decide +kernel) (by decide +kernel), cdX4_takeLeft, by decide +kernel⟩
theorem vX4_127 : jV RX4 127 4 yX4_takeName cX4_takeName 4 (some .int) 1 := ⟨⟨TX4, 1, rfl⟩, by decide, gms [519, 521, 10, 59] (by decide +kernel) (by decide +kernel), cdX4_takeName, by decide +kernel⟩
theorem vX4_115 : jV RX4 115 4 yX4_takeColumn cX4_takeColumn 3 (some .boolean) 2 := ⟨⟨TX4, 1, rfl⟩, by decide, gms [523, 525, 11, 59] (by decide +kernel) (by decide +kernel), cdX4_takeColumn, by decide +kernel⟩
theorem vX4_118 : jV RX4 118 4 yX4_takeRelation cX4_takeRelation 3 (some .boolean) 2 := ⟨⟨TX4, 1, rfl⟩, by decide, gms [530, 532, 12, 59] (by decide +kernel) (by decide +kernel), cdX4_takeRelation, by decide +kernel⟩
theorem vX4_121 : jV RX4 121 4 yX4_takeNumber cX4_takeNumber 4 (some .boolean) 2 := ⟨⟨TX4, 1, rfl⟩, by decide, gms [534, 536, 13, 59] (by decide +kernel) (by decide +kernel), cdX4_takeNumber, by decide +kernel⟩
theorem vX4_124 : jV RX4 124 4 yX4_takeRight cX4_takeRight 3 (some .boolean) 2 := ⟨⟨TX4, 1, rfl⟩, by decide, gms [538, 540, 14, 59] (by decide +kernel) (by decide +kernel), cdX4_takeRight, by decide +kernel⟩
theorem vX4_53 : jV RX4 53 9 yX10_place cX10_place 1 (some .int) 0 := ⟨⟨TX10, 4, rfl⟩, by decide, gms [542, 543, 544, 58] (by decide +kernel) (by decide +kernel), cdX10_place, by decide +kernel⟩
theorem vX4_57 : jV RX4 57 5 yX5_add cX5_add 1 none 0 := ⟨⟨TX5, 2, rfl⟩, by decide, gms [546, 547, 548, 62] (by decide +kernel) (by decide +kernel), cdX5_add, by decide +kernel⟩
theorem vX4_60 : jV RX4 60 9 yX10_isAtEnd cX10_isAtEnd 1 (some .boolean) 0 := ⟨⟨TX10, 4, rfl⟩, by decide, gms [550, 551, 552, 58] (by decide +kernel) (by decide +kernel), cdX10_isAtEnd, by decide +kernel⟩
theorem vX11_121 : jV RX11 121 8 yX9_takeDraft cX9_takeDraft 2 none 0 := ⟨⟨TX9, 8, rfl⟩, by decide, gms [554, 555, 556, 60] (by decide +kernel) (by decide +kernel), cdX9_takeDraft, by decide +kernel⟩
theorem vX11_124 : jV RX11 124 10 yX11_beginAnew cX11_beginAnew 1 none 0 := ⟨⟨TX11, 12, rfl⟩, by decide, gms [558, 560, 15, 56] (by decide +kernel) (by decide +kernel), cdX11_beginAnew, by decide +kernel⟩
theorem vX11_201 : jV RX11 201 6 yX6_clear cX6_clear 1 none 0 := ⟨⟨TX6, 3, rfl⟩, by decide, gms [562, 563, 564, 66] (by decide +kernel) (by decide +kernel), cdX6_clear, by decide +kernel⟩
theorem vX11_145 : jV RX11 145 0 yX0_clear cX0_clear 1 none 0 := ⟨⟨TX0, 2, rfl⟩, by decide, gms [566, 567, 568, 64] (by decide +kernel) (by decide +kernel), cdX0_clear, by decide +kernel⟩
theorem vX11_202 : jV RX11 202 8 yX9_clear cX9_clear 2 none 0 := ⟨⟨TX9, 8, rfl⟩, by decide, gms [570, 571, 572, 60] (by decide +kernel) (by decide +kernel), cdX9_clear, by decide +kernel⟩
theorem vX9_68 : jV RX9 68 7 yX8_clear cX8_clear 1 none 0 := ⟨⟨TX8, 3, rfl⟩, by decide, gms [574, 575, 576, 61] (by decide +kernel) (by decide +kernel), cdX8_clear, by decide +kernel⟩
theorem vX11_127 : jV RX11 127 8 yX9_size cX9_size 1 (some .int) 0 := ⟨⟨TX9, 8, rfl⟩, by decide, gms [578, 579, 580, 60] (by decide +kernel) (by decide +kernel), cdX9_size, by decide +kernel⟩
theorem vX9_46 : jV RX9 46 5 yX5_size cX5_size 1 (some .int) 0 := ⟨⟨TX5, 2, rfl⟩, by decide, gms [582, 583, 584, 62] (by decide +kernel) (by decide +kernel), cdX5_size, by decide +kernel⟩
theorem vL_33 : jV RL 33 10 yX11_fault cX11_fault 1 (some .int) 0 := ⟨⟨TX11, 12, rfl⟩, by decide, gms [587, 588, 589, 56] (by decide +kernel) (by decide +kernel), cdX11_fault, by decide +kernel⟩
theorem vL_37 : jV RL 37 10 yX11_late cX11_late 3 (some .int) 1 := ⟨⟨TX11, 12, rfl⟩, by decide, gms [591, 592, 593, 56] (by decide +kernel) (by decide +kernel), cdX11_late, by decide +kernel⟩
theorem vL_41 : jV RL 41 10 yX11_read cX11_read 4 (some .int) 1 := ⟨⟨TX11, 12, rfl⟩, by decide, gms [595, 596, 597, 56] (by decide +kernel) (by decide +kernel), cdX11_read, by decide +kernel⟩
theorem vX11_128 : jV RX11 128 6 yX6_rowsRead cX6_rowsRead 1 (some .int) 0 := ⟨⟨TX6, 3, rfl⟩, by decide, gms [599, 600, 601, 66] (by decide +kernel) (by decide +kernel), cdX6_rowsRead, by decide +kernel⟩
theorem vX11_137 : jV RX11 137 10 yX11_readNext cX11_readNext 6 (some .boolean) 0 := ⟨⟨TX11, 12, rfl⟩, by decide, gms [604, 606, 16, 56] (by decide +kernel) (by decide +kernel), cdX11_readNext, by decide +kernel⟩
theorem vX11_203 : jV RX11 203 2 yX2_rowAt cX2_rowAt 2 (some .long) 1 := ⟨⟨TX2, 3, rfl⟩, by decide, gms [608, 609, 610, 57] (by decide +kernel) (by decide +kernel), cdX2_rowAt, by decide +kernel⟩
theorem vX2_23 : jSn RX2 23 yX11_isWithin cX11_isWithin 3 (some .boolean) 3 := ⟨by decide +kernel, gm 317 (by decide +kernel) (by decide +kernel), gm 56 (by decide +kernel) (by decide +kernel), cdX11_isWithin, by decide +kernel⟩
theorem vX11_206 : jSs RX11 206 yX7_timeOf cX7_timeOf 2 (some .int) 1 := ⟨gms [613, 614, 68] (by decide +kernel) (by decide +kernel), cdX7_timeOf, by decide +kernel⟩
theorem vX11_198 : jV RX11 198 6 yX6_greatestTime cX6_greatestTime 1 (some .int) 0 := ⟨⟨TX6, 3, rfl⟩, by decide, gms [617, 618, 619, 66] (by decide +kernel) (by decide +kernel), cdX6_greatestTime, by decide +kernel⟩
theorem vX11_210 : jV RX11 210 2 yX2_sourceAt cX2_sourceAt 2 (some .int) 1 := ⟨⟨TX2, 3, rfl⟩, by decide, gms [621, 622, 623, 57] (by decide +kernel) (by decide +kernel), cdX2_sourceAt, by decide +kernel⟩
theorem vX11_213 : jV RX11 213 8 yX9_offer cX9_offer 7 (some .boolean) 2 := ⟨⟨TX9, 8, rfl⟩, by decide, gms [625, 626, 627, 60] (by decide +kernel) (by decide +kernel), cdX9_offer, by decide +kernel⟩
theorem vX9_75 : jV RX9 75 5 yX5_at cX5_at 2 (some (.object "TableStreams$Making")) 1 := ⟨⟨TX5, 2, rfl⟩, by decide, gms [629, 405, 406, 62] (by decide +kernel) (by decide +kernel), cdX5_at, by decide +kernel⟩
theorem vX9_65 : jV RX9 65 8 yX9_touches cX9_touches 2 (some .boolean) 1 := ⟨⟨TX9, 8, rfl⟩, by decide, gms [630, 632, 17, 60] (by decide +kernel) (by decide +kernel), cdX9_touches, by decide +kernel⟩
theorem vX9_54 : jV RX9 54 8 yX9_has cX9_has 2 (some .boolean) 1 := ⟨⟨TX9, 8, rfl⟩, by decide, gms [634, 635, 636, 60] (by decide +kernel) (by decide +kernel), cdX9_has, by decide +kernel⟩
theorem vX9_50 : jSn RX9 50 yX11_isWithin cX11_isWithin 3 (some .boolean) 3 := ⟨by decide +kernel, gm 317 (by decide +kernel) (by decide +kernel), gm 56 (by decide +kernel) (by decide +kernel), cdX11_isWithin, by decide +kernel⟩
theorem vX9_71 : jV RX9 71 7 yX8_copy cX8_copy 2 none 1 := ⟨⟨TX8, 3, rfl⟩, by decide, gms [639, 640, 641, 61] (by decide +kernel) (by decide +kernel), cdX8_copy, by decide +kernel⟩
theorem vX9_94 : jV RX9 94 7 yX8_add cX8_add 3 none 1 := ⟨⟨TX8, 3, rfl⟩, by decide, gms [646, 647, 648, 61] (by decide +kernel) (by decide +kernel), cdX8_add, by decide +kernel⟩
theorem vX9_62 : jV RX9 62 8 yX9_offeredOf cX9_offeredOf 2 (some (.object "TableStreams$Rows")) 1 := ⟨⟨TX9, 8, rfl⟩, by decide, gms [650, 652, 18, 60] (by decide +kernel) (by decide +kernel), cdX9_offeredOf, by decide +kernel⟩
theorem vX9_58 : jV RX9 58 8 yX9_rowsOf cX9_rowsOf 2 (some (.object "TableStreams$Rows")) 1 := ⟨⟨TX9, 8, rfl⟩, by decide, gms [654, 655, 656, 60] (by decide +kernel) (by decide +kernel), cdX9_rowsOf, by decide +kernel⟩
theorem vX9_98 : jV RX9 98 3 yX3_fill cX3_fill 5 none 3 := ⟨⟨TX3, 6, rfl⟩, by decide, gms [658, 659, 660, 63] (by decide +kernel) (by decide +kernel), cdX3_fill, by decide +kernel⟩
theorem vX3_31 : jV RX3 31 7 yX8_clear cX8_clear 1 none 0 := ⟨⟨TX8, 3, rfl⟩, by decide, gms [662, 575, 576, 61] (by decide +kernel) (by decide +kernel), cdX8_clear, by decide +kernel⟩
theorem vX3_36 : jV RX3 36 3 yX3_fillByGroup cX3_fillByGroup 12 none 2 := ⟨⟨TX3, 6, rfl⟩, by decide, gms [663, 665, 19, 63] (by decide +kernel) (by decide +kernel), cdX3_fillByGroup, by decide +kernel⟩
theorem vX3_55 : jV RX3 55 7 yX8_size cX8_size 1 (some .int) 0 := ⟨⟨TX8, 3, rfl⟩, by decide, gms [667, 668, 669, 61] (by decide +kernel) (by decide +kernel), cdX8_size, by decide +kernel⟩
theorem vX3_58 : jV RX3 58 7 yX8_at cX8_at 2 (some .long) 1 := ⟨⟨TX8, 3, rfl⟩, by decide, gms [671, 672, 673, 61] (by decide +kernel) (by decide +kernel), cdX8_at, by decide +kernel⟩
theorem vX8_23 : jSn RX8 23 yX11_isWithin cX11_isWithin 3 (some .boolean) 3 := ⟨by decide +kernel, gm 317 (by decide +kernel) (by decide +kernel), gm 56 (by decide +kernel) (by decide +kernel), cdX11_isWithin, by decide +kernel⟩
theorem vX3_75 : jSs RX3 75 yX7_valueOf cX7_valueOf 2 (some .int) 1 := ⟨gms [676, 677, 68] (by decide +kernel) (by decide +kernel), cdX7_valueOf, by decide +kernel⟩
theorem vX3_93 : jSs RX3 93 yX7_groupOf cX7_groupOf 2 (some .long) 1 := ⟨gms [680, 681, 68] (by decide +kernel) (by decide +kernel), cdX7_groupOf, by decide +kernel⟩
theorem vX3_66 : jSs RX3 66 yX7_keyOf cX7_keyOf 2 (some .int) 1 := ⟨gms [683, 684, 68] (by decide +kernel) (by decide +kernel), cdX7_keyOf, by decide +kernel⟩
theorem vX3_72 : jSs RX3 72 yX7_timeOf cX7_timeOf 2 (some .int) 1 := ⟨gms [686, 614, 68] (by decide +kernel) (by decide +kernel), cdX7_timeOf, by decide +kernel⟩
theorem vX3_90 : jV RX3 90 7 yX8_add_ cX8_add_ 5 none 3 := ⟨⟨TX8, 3, rfl⟩, by decide, gms [687, 688, 689, 61] (by decide +kernel) (by decide +kernel), cdX8_add_, by decide +kernel⟩
theorem vX8_31 : jSs RX8 31 yX7_pack cX7_pack 5 (some .long) 3 := ⟨gms [693, 324, 68] (by decide +kernel) (by decide +kernel), cdX7_pack, by decide +kernel⟩
theorem vX8_37 : jV RX8 37 7 yX8_add cX8_add 3 none 1 := ⟨⟨TX8, 3, rfl⟩, by decide, gms [694, 647, 648, 61] (by decide +kernel) (by decide +kernel), cdX8_add, by decide +kernel⟩
theorem vX3_40 : jV RX3 40 3 yX3_fillByKey cX3_fillByKey 6 none 2 := ⟨⟨TX3, 6, rfl⟩, by decide, gms [695, 697, 20, 63] (by decide +kernel) (by decide +kernel), cdX3_fillByKey, by decide +kernel⟩
theorem vX3_86 : jV RX3 86 7 yX8_add cX8_add 3 none 1 := ⟨⟨TX8, 3, rfl⟩, by decide, gms [699, 647, 648, 61] (by decide +kernel) (by decide +kernel), cdX8_add, by decide +kernel⟩
theorem vX3_43 : jV RX3 43 3 yX3_fillByPairs cX3_fillByPairs 14 none 3 := ⟨⟨TX3, 6, rfl⟩, by decide, gms [700, 702, 21, 63] (by decide +kernel) (by decide +kernel), cdX3_fillByPairs, by decide +kernel⟩
theorem vX3_97 : jV RX3 97 7 yX8_isFull cX8_isFull 1 (some .boolean) 0 := ⟨⟨TX8, 3, rfl⟩, by decide, gms [704, 705, 706, 61] (by decide +kernel) (by decide +kernel), cdX8_isFull, by decide +kernel⟩
theorem vX3_47 : jV RX3 47 7 yX8_keys cX8_keys 3 (some .int) 0 := ⟨⟨TX8, 3, rfl⟩, by decide, gms [709, 710, 711, 61] (by decide +kernel) (by decide +kernel), cdX8_keys, by decide +kernel⟩
theorem vX8_57 : jSs RX8 57 yX7_keyOf cX7_keyOf 2 (some .int) 1 := ⟨gms [713, 684, 68] (by decide +kernel) (by decide +kernel), cdX7_keyOf, by decide +kernel⟩
theorem vX3_51 : jV RX3 51 3 yX3_fillWithout cX3_fillWithout 7 none 3 := ⟨⟨TX3, 6, rfl⟩, by decide, gms [714, 716, 22, 63] (by decide +kernel) (by decide +kernel), cdX3_fillWithout, by decide +kernel⟩
theorem vX3_62 : jV RX3 62 3 yX3_addOne cX3_addOne 8 none 2 := ⟨⟨TX3, 6, rfl⟩, by decide, gms [718, 720, 23, 63] (by decide +kernel) (by decide +kernel), cdX3_addOne, by decide +kernel⟩
theorem vX3_78 : jSs RX3 78 yX7_partOf cX7_partOf 3 (some .int) 2 := ⟨gms [722, 723, 68] (by decide +kernel) (by decide +kernel), cdX7_partOf, by decide +kernel⟩
theorem vX7_16 : jSs RX7 16 yX7_keyOf cX7_keyOf 2 (some .int) 1 := ⟨gms [725, 684, 68] (by decide +kernel) (by decide +kernel), cdX7_keyOf, by decide +kernel⟩
theorem vX7_20 : jSs RX7 20 yX7_valueOf cX7_valueOf 2 (some .int) 1 := ⟨gms [726, 677, 68] (by decide +kernel) (by decide +kernel), cdX7_valueOf, by decide +kernel⟩
theorem vX7_23 : jSs RX7 23 yX7_timeOf cX7_timeOf 2 (some .int) 1 := ⟨gms [727, 614, 68] (by decide +kernel) (by decide +kernel), cdX7_timeOf, by decide +kernel⟩
theorem vX3_82 : jV RX3 82 3 yX3_holdsOf cX3_holdsOf 2 (some .boolean) 1 := ⟨⟨TX3, 6, rfl⟩, by decide, gms [729, 731, 24, 63] (by decide +kernel) (by decide +kernel), cdX3_holdsOf, by decide +kernel⟩
theorem vX9_102 : jV RX9 102 7 yX8_isFull cX8_isFull 1 (some .boolean) 0 := ⟨⟨TX8, 3, rfl⟩, by decide, gms [733, 705, 706, 61] (by decide +kernel) (by decide +kernel), cdX8_isFull, by decide +kernel⟩
theorem vX9_106 : jV RX9 106 7 yX8_sort cX8_sort 4 none 1 := ⟨⟨TX8, 3, rfl⟩, by decide, gms [734, 735, 736, 61] (by decide +kernel) (by decide +kernel), cdX8_sort, by decide +kernel⟩
theorem vX8_53 : jV RX8 53 7 yX8_merge cX8_merge 9 none 4 := ⟨⟨TX8, 3, rfl⟩, by decide, gms [739, 741, 25, 61] (by decide +kernel) (by decide +kernel), cdX8_merge, by decide +kernel⟩
theorem vX11_216 : jV RX11 216 8 yX9_answer cX9_answer 1 (some (.object "TableStreams$Rows")) 0 := ⟨⟨TX9, 8, rfl⟩, by decide, gms [743, 744, 745, 60] (by decide +kernel) (by decide +kernel), cdX9_answer, by decide +kernel⟩
theorem vX11_220 : jV RX11 220 8 yX9_answerOffered cX9_answerOffered 1 (some (.object "TableStreams$Rows")) 0 := ⟨⟨TX9, 8, rfl⟩, by decide, gms [747, 748, 749, 60] (by decide +kernel) (by decide +kernel), cdX9_answerOffered, by decide +kernel⟩
theorem vX11_223 : jV RX11 223 0 yX0_addDifference cX0_addDifference 4 (some .boolean) 2 := ⟨⟨TX0, 2, rfl⟩, by decide, gms [751, 752, 753, 64] (by decide +kernel) (by decide +kernel), cdX0_addDifference, by decide +kernel⟩
theorem vX0_36 : jV RX0 36 0 yX0_addMissing cX0_addMissing 8 (some .boolean) 3 := ⟨⟨TX0, 2, rfl⟩, by decide, gms [755, 757, 26, 64] (by decide +kernel) (by decide +kernel), cdX0_addMissing, by decide +kernel⟩
theorem vX0_40 : jV RX0 40 7 yX8_size cX8_size 1 (some .int) 0 := ⟨⟨TX8, 3, rfl⟩, by decide, gms [759, 668, 669, 61] (by decide +kernel) (by decide +kernel), cdX8_size, by decide +kernel⟩
theorem vX0_45 : jV RX0 45 7 yX8_at cX8_at 2 (some .long) 1 := ⟨⟨TX8, 3, rfl⟩, by decide, gms [760, 672, 673, 61] (by decide +kernel) (by decide +kernel), cdX8_at, by decide +kernel⟩
theorem vX11_227 : jV RX11 227 8 yX9_acceptOffer cX9_acceptOffer 3 none 0 := ⟨⟨TX9, 8, rfl⟩, by decide, gms [761, 762, 763, 60] (by decide +kernel) (by decide +kernel), cdX9_acceptOffer, by decide +kernel⟩
theorem vX11_230 : jV RX11 230 6 yX6_step cX6_step 3 none 2 := ⟨⟨TX6, 3, rfl⟩, by decide, gms [765, 766, 767, 66] (by decide +kernel) (by decide +kernel), cdX6_step, by decide +kernel⟩
theorem vL_45 : jV RL 45 10 yX11_mark cX11_mark 1 (some .int) 0 := ⟨⟨TX11, 12, rfl⟩, by decide, gms [770, 771, 772, 56] (by decide +kernel) (by decide +kernel), cdX11_mark, by decide +kernel⟩
theorem vX11_141 : jV RX11 141 0 yX0_addAll cX0_addAll 2 (some .boolean) 1 := ⟨⟨TX0, 2, rfl⟩, by decide, gms [774, 775, 776, 64] (by decide +kernel) (by decide +kernel), cdX0_addAll, by decide +kernel⟩
theorem vX11_148 : jV RX11 148 6 yX6_copy cX6_copy 2 none 1 := ⟨⟨TX6, 3, rfl⟩, by decide, gms [779, 780, 781, 66] (by decide +kernel) (by decide +kernel), cdX6_copy, by decide +kernel⟩
theorem vX11_152 : jV RX11 152 8 yX9_keep cX9_keep 2 none 0 := ⟨⟨TX9, 8, rfl⟩, by decide, gms [783, 784, 785, 60] (by decide +kernel) (by decide +kernel), cdX9_keep, by decide +kernel⟩
theorem vX11_155 : jV RX11 155 0 yX0_size cX0_size 1 (some .int) 0 := ⟨⟨TX0, 2, rfl⟩, by decide, gms [787, 788, 789, 64] (by decide +kernel) (by decide +kernel), cdX0_size, by decide +kernel⟩
theorem vL_49 : jV RL 49 10 yX11_fall cX11_fall 1 (some .int) 0 := ⟨⟨TX11, 12, rfl⟩, by decide, gms [791, 792, 793, 56] (by decide +kernel) (by decide +kernel), cdX11_fall, by decide +kernel⟩
theorem vX11_156 : jV RX11 156 8 yX9_restore cX9_restore 2 none 0 := ⟨⟨TX9, 8, rfl⟩, by decide, gms [795, 796, 797, 60] (by decide +kernel) (by decide +kernel), cdX9_restore, by decide +kernel⟩
theorem vL_53 : jV RL 53 10 yX11_rows cX11_rows 2 (some .int) 1 := ⟨⟨TX11, 12, rfl⟩, by decide, gms [799, 800, 801, 56] (by decide +kernel) (by decide +kernel), cdX11_rows, by decide +kernel⟩
theorem vX11_159 : jV RX11 159 8 yX9_has cX9_has 2 (some .boolean) 1 := ⟨⟨TX9, 8, rfl⟩, by decide, gms [803, 635, 636, 60] (by decide +kernel) (by decide +kernel), cdX9_has, by decide +kernel⟩
theorem vX11_162 : jV RX11 162 8 yX9_rowsOf cX9_rowsOf 2 (some (.object "TableStreams$Rows")) 1 := ⟨⟨TX9, 8, rfl⟩, by decide, gms [804, 655, 656, 60] (by decide +kernel) (by decide +kernel), cdX9_rowsOf, by decide +kernel⟩
theorem vX11_166 : jV RX11 166 7 yX8_size cX8_size 1 (some .int) 0 := ⟨⟨TX8, 3, rfl⟩, by decide, gms [805, 668, 669, 61] (by decide +kernel) (by decide +kernel), cdX8_size, by decide +kernel⟩
theorem vL_57 : jV RL 57 10 yX11_row cX11_row 4 (some .int) 3 := ⟨⟨TX11, 12, rfl⟩, by decide, gms [806, 807, 808, 56] (by decide +kernel) (by decide +kernel), cdX11_row, by decide +kernel⟩
theorem vX11_170 : jV RX11 170 7 yX8_at cX8_at 2 (some .long) 1 := ⟨⟨TX8, 3, rfl⟩, by decide, gms [811, 672, 673, 61] (by decide +kernel) (by decide +kernel), cdX8_at, by decide +kernel⟩
theorem vX11_174 : jSs RX11 174 yX7_partOf cX7_partOf 3 (some .int) 2 := ⟨gms [812, 723, 68] (by decide +kernel) (by decide +kernel), cdX7_partOf, by decide +kernel⟩
theorem vL_62 : jV RL 62 10 yX11_out cX11_out 3 (some .int) 2 := ⟨⟨TX11, 12, rfl⟩, by decide, gms [813, 814, 815, 56] (by decide +kernel) (by decide +kernel), cdX11_out, by decide +kernel⟩
theorem vX11_178 : jV RX11 178 0 yX0_partOf cX0_partOf 3 (some .int) 2 := ⟨⟨TX0, 2, rfl⟩, by decide, gms [817, 818, 819, 64] (by decide +kernel) (by decide +kernel), cdX0_partOf, by decide +kernel⟩
theorem vX0_19 : jSn RX0 19 yX11_isWithin cX11_isWithin 3 (some .boolean) 3 := ⟨by decide +kernel, gm 317 (by decide +kernel) (by decide +kernel), gm 56 (by decide +kernel) (by decide +kernel), cdX11_isWithin, by decide +kernel⟩
theorem vX0_24 : jSs RX0 24 yX7_partOf cX7_partOf 3 (some .int) 2 := ⟨gms [823, 723, 68] (by decide +kernel) (by decide +kernel), cdX7_partOf, by decide +kernel⟩
theorem vL_67 : jV RL 67 10 yX11_host cX11_host 3 (some .int) 2 := ⟨⟨TX11, 12, rfl⟩, by decide, gms [824, 825, 826, 56] (by decide +kernel) (by decide +kernel), cdX11_host, by decide +kernel⟩
theorem vX11_180 : jV RX11 180 1 yX1_has cX1_has 2 (some .boolean) 1 := ⟨⟨TX1, 3, rfl⟩, by decide, gms [828, 829, 830, 65] (by decide +kernel) (by decide +kernel), cdX1_has, by decide +kernel⟩
theorem vX1_23 : jSn RX1 23 yX11_isWithin cX11_isWithin 3 (some .boolean) 3 := ⟨by decide +kernel, gm 317 (by decide +kernel) (by decide +kernel), gm 56 (by decide +kernel) (by decide +kernel), cdX11_isWithin, by decide +kernel⟩
theorem vX11_181 : jV RX11 181 1 yX1_size cX1_size 1 (some .int) 0 := ⟨⟨TX1, 3, rfl⟩, by decide, gms [833, 834, 835, 65] (by decide +kernel) (by decide +kernel), cdX1_size, by decide +kernel⟩
theorem vX11_182 : jV RX11 182 1 yX1_change cX1_change 6 (some .int) 2 := ⟨⟨TX1, 3, rfl⟩, by decide, gms [837, 838, 839, 65] (by decide +kernel) (by decide +kernel), cdX1_change, by decide +kernel⟩
theorem vX1_27 : jV RX1 27 1 yX1_choose cX1_choose 6 (some .int) 1 := ⟨⟨TX1, 3, rfl⟩, by decide, gms [841, 843, 27, 65] (by decide +kernel) (by decide +kernel), cdX1_choose, by decide +kernel⟩
theorem vX11_186 : jV RX11 186 8 yX9_countOfKeys cX9_countOfKeys 4 (some .int) 1 := ⟨⟨TX9, 8, rfl⟩, by decide, gms [845, 846, 847, 60] (by decide +kernel) (by decide +kernel), cdX9_countOfKeys, by decide +kernel⟩
theorem vX9_110 : jV RX9 110 7 yX8_countOfKeys cX8_countOfKeys 4 (some .int) 1 := ⟨⟨TX8, 3, rfl⟩, by decide, gms [849, 850, 851, 61] (by decide +kernel) (by decide +kernel), cdX8_countOfKeys, by decide +kernel⟩
theorem vL_72 : jV RL 72 10 yX11_owner cX11_owner 2 (some .int) 1 := ⟨⟨TX11, 12, rfl⟩, by decide, gms [853, 854, 855, 56] (by decide +kernel) (by decide +kernel), cdX11_owner, by decide +kernel⟩
theorem vX11_189 : jV RX11 189 1 yX1_ownerOf cX1_ownerOf 2 (some .int) 1 := ⟨⟨TX1, 3, rfl⟩, by decide, gms [857, 858, 859, 65] (by decide +kernel) (by decide +kernel), cdX1_ownerOf, by decide +kernel⟩
theorem vL_76 : jV RL 76 10 yX11_owns cX11_owns 2 (some .int) 1 := ⟨⟨TX11, 12, rfl⟩, by decide, gms [861, 862, 863, 56] (by decide +kernel) (by decide +kernel), cdX11_owns, by decide +kernel⟩
theorem vX11_192 : jV RX11 192 1 yX1_keysOf cX1_keysOf 4 (some .int) 1 := ⟨⟨TX1, 3, rfl⟩, by decide, gms [865, 866, 867, 65] (by decide +kernel) (by decide +kernel), cdX1_keysOf, by decide +kernel⟩
theorem vL_80 : jV RL 80 10 yX11_count cX11_count 2 (some .int) 1 := ⟨⟨TX11, 12, rfl⟩, by decide, gms [869, 870, 871, 56] (by decide +kernel) (by decide +kernel), cdX11_count, by decide +kernel⟩
theorem vX11_195 : jV RX11 195 6 yX6_rowsLate cX6_rowsLate 1 (some .int) 0 := ⟨⟨TX6, 3, rfl⟩, by decide, gms [873, 874, 875, 66] (by decide +kernel) (by decide +kernel), cdX6_rowsLate, by decide +kernel⟩
theorem vL_84 : jV RL 84 10 yX11_status cX11_status 1 (some .int) 0 := ⟨⟨TX11, 12, rfl⟩, by decide, gms [877, 878, 879, 56] (by decide +kernel) (by decide +kernel), cdX11_status, by decide +kernel⟩
theorem vL_12 : jIi RL 12 yX12_init cX12_init 1 0 := ⟨gms [883, 884, 67] (by decide +kernel) (by decide +kernel), cdX12_init, by decide +kernel, rfl⟩
theorem vL_17 : jV RL 17 11 yX12_tell cX12_tell 5 (some .int) 4 := ⟨⟨TX12, 52, rfl⟩, by decide, gms [1044, 1045, 1046, 67] (by decide +kernel) (by decide +kernel), cdX12_tell, by decide +kernel⟩
theorem vX12_128 : jSs RX12 128 yX12_in cX12_in 6 (some .boolean) 3 := ⟨gms [1049, 1050, 67] (by decide +kernel) (by decide +kernel), cdX12_in, by decide +kernel⟩
theorem vX12_140 : jV RX12 140 11 yX12_told cX12_told 2 (some .int) 1 := ⟨⟨TX12, 52, rfl⟩, by decide, gms [1056, 1058, 28, 67] (by decide +kernel) (by decide +kernel), cdX12_told, by decide +kernel⟩
theorem vL_44 : jV RL 44 11 yX12_read cX12_read 4 (some .int) 1 := ⟨⟨TX12, 52, rfl⟩, by decide, gms [1060, 1061, 1062, 67] (by decide +kernel) (by decide +kernel), cdX12_read, by decide +kernel⟩
theorem vX12_205 : jV RX12 205 11 yX12_readOne cX12_readOne 3 (some .boolean) 0 := ⟨⟨TX12, 52, rfl⟩, by decide, gms [1065, 1067, 29, 67] (by decide +kernel) (by decide +kernel), cdX12_readOne, by decide +kernel⟩
theorem vX12_190 : jV RX12 190 11 yX12_latest cX12_latest 4 (some .int) 1 := ⟨⟨TX12, 52, rfl⟩, by decide, gms [1069, 1071, 30, 67] (by decide +kernel) (by decide +kernel), cdX12_latest, by decide +kernel⟩
theorem vX12_193 : jV RX12 193 11 yX12_makeAll cX12_makeAll 3 (some .boolean) 1 := ⟨⟨TX12, 52, rfl⟩, by decide, gms [1073, 1075, 31, 67] (by decide +kernel) (by decide +kernel), cdX12_makeAll, by decide +kernel⟩
theorem vX12_176 : jV RX12 176 11 yX12_make cX12_make 4 none 2 := ⟨⟨TX12, 52, rfl⟩, by decide, gms [1077, 1079, 32, 67] (by decide +kernel) (by decide +kernel), cdX12_make, by decide +kernel⟩
theorem vX12_159 : jV RX12 159 11 yX12_add cX12_add 7 none 4 := ⟨⟨TX12, 52, rfl⟩, by decide, gms [1081, 1083, 33, 67] (by decide +kernel) (by decide +kernel), cdX12_add, by decide +kernel⟩
theorem vX12_155 : jV RX12 155 11 yX12_isBefore cX12_isBefore 5 (some .boolean) 4 := ⟨⟨TX12, 52, rfl⟩, by decide, gms [1087, 1089, 34, 67] (by decide +kernel) (by decide +kernel), cdX12_isBefore, by decide +kernel⟩
theorem vX12_163 : jV RX12 163 11 yX12_makeEach cX12_makeEach 5 none 1 := ⟨⟨TX12, 52, rfl⟩, by decide, gms [1091, 1093, 35, 67] (by decide +kernel) (by decide +kernel), cdX12_makeEach, by decide +kernel⟩
theorem vX12_167 : jV RX12 167 11 yX12_makeHeaps cX12_makeHeaps 10 none 1 := ⟨⟨TX12, 52, rfl⟩, by decide, gms [1095, 1097, 36, 67] (by decide +kernel) (by decide +kernel), cdX12_makeHeaps, by decide +kernel⟩
theorem vX12_170 : jV RX12 170 11 yX12_makeOfTwo cX12_makeOfTwo 7 none 1 := ⟨⟨TX12, 52, rfl⟩, by decide, gms [1099, 1101, 37, 67] (by decide +kernel) (by decide +kernel), cdX12_makeOfTwo, by decide +kernel⟩
theorem vX12_197 : jV RX12 197 11 yX12_change cX12_change 6 (some .boolean) 1 := ⟨⟨TX12, 52, rfl⟩, by decide, gms [1103, 1105, 38, 67] (by decide +kernel) (by decide +kernel), cdX12_change, by decide +kernel⟩
theorem vX12_180 : jV RX12 180 11 yX12_order cX12_order 3 (some .int) 2 := ⟨⟨TX12, 52, rfl⟩, by decide, gms [1107, 1109, 39, 67] (by decide +kernel) (by decide +kernel), cdX12_order, by decide +kernel⟩
theorem vX12_200 : jV RX12 200 11 yX12_keep cX12_keep 3 none 0 := ⟨⟨TX12, 52, rfl⟩, by decide, gms [1111, 1113, 40, 67] (by decide +kernel) (by decide +kernel), cdX12_keep, by decide +kernel⟩
theorem vL_48 : jV RL 48 11 yX12_mark cX12_mark 2 (some .int) 0 := ⟨⟨TX12, 52, rfl⟩, by decide, gms [1115, 1116, 1117, 67] (by decide +kernel) (by decide +kernel), cdX12_mark, by decide +kernel⟩
theorem vL_52 : jV RL 52 11 yX12_fall cX12_fall 1 (some .int) 0 := ⟨⟨TX12, 52, rfl⟩, by decide, gms [1119, 1120, 1121, 67] (by decide +kernel) (by decide +kernel), cdX12_fall, by decide +kernel⟩
theorem vX12_215 : jV RX12 215 11 yX12_goTo cX12_goTo 2 none 1 := ⟨⟨TX12, 52, rfl⟩, by decide, gms [1123, 1125, 41, 67] (by decide +kernel) (by decide +kernel), cdX12_goTo, by decide +kernel⟩
theorem vL_40 : jV RL 40 11 yX12_late cX12_late 3 (some .int) 1 := ⟨⟨TX12, 52, rfl⟩, by decide, gms [1127, 1128, 1129, 67] (by decide +kernel) (by decide +kernel), cdX12_late, by decide +kernel⟩
theorem vX12_220 : jV RX12 220 11 yX12_begin cX12_begin 1 none 0 := ⟨⟨TX12, 52, rfl⟩, by decide, gms [1132, 1134, 42, 67] (by decide +kernel) (by decide +kernel), cdX12_begin, by decide +kernel⟩
theorem vL_22 : jV RL 22 11 yX12_feed cX12_feed 6 (some .int) 5 := ⟨⟨TX12, 52, rfl⟩, by decide, gms [1136, 1137, 1138, 67] (by decide +kernel) (by decide +kernel), cdX12_feed, by decide +kernel⟩
theorem vX12_226 : jV RX12 226 11 yX12_four cX12_four 3 none 1 := ⟨⟨TX12, 52, rfl⟩, by decide, gms [1140, 1142, 43, 67] (by decide +kernel) (by decide +kernel), cdX12_four, by decide +kernel⟩
theorem vL_27 : jV RL 27 11 yX12_end cX12_end 2 (some .int) 1 := ⟨⟨TX12, 52, rfl⟩, by decide, gms [1144, 1145, 1146, 67] (by decide +kernel) (by decide +kernel), cdX12_end, by decide +kernel⟩
theorem vL_32 : jV RL 32 11 yX12_tables cX12_tables 2 (some .int) 0 := ⟨⟨TX12, 52, rfl⟩, by decide, gms [1148, 1149, 1150, 67] (by decide +kernel) (by decide +kernel), cdX12_tables, by decide +kernel⟩
theorem vX12_259 : jV RX12 259 11 yX12_next cX12_next 1 none 0 := ⟨⟨TX12, 52, rfl⟩, by decide, gms [1152, 1154, 44, 67] (by decide +kernel) (by decide +kernel), cdX12_next, by decide +kernel⟩
theorem vX12_239 : jSs RX12 239 yX12_isSmall cX12_isSmall 1 (some .boolean) 1 := ⟨gms [1156, 1157, 67] (by decide +kernel) (by decide +kernel), cdX12_isSmall, by decide +kernel⟩
theorem vX12_242 : jSs RX12 242 yX12_isDigit cX12_isDigit 1 (some .boolean) 1 := ⟨gms [1159, 1160, 67] (by decide +kernel) (by decide +kernel), cdX12_isDigit, by decide +kernel⟩
theorem vX12_293 : jV RX12 293 11 yX12_readTable cX12_readTable 7 none 0 := ⟨⟨TX12, 52, rfl⟩, by decide, gms [1166, 1168, 45, 67] (by decide +kernel) (by decide +kernel), cdX12_readTable, by decide +kernel⟩
theorem vX12_273 : jV RX12 273 11 yX12_isName cX12_isName 1 (some .boolean) 0 := ⟨⟨TX12, 52, rfl⟩, by decide, gms [1170, 1172, 46, 67] (by decide +kernel) (by decide +kernel), cdX12_isName, by decide +kernel⟩
theorem vX12_262 : jV RX12 262 11 yX12_must cX12_must 2 none 1 := ⟨⟨TX12, 52, rfl⟩, by decide, gms [1174, 1176, 47, 67] (by decide +kernel) (by decide +kernel), cdX12_must, by decide +kernel⟩
theorem vX12_266 : jV RX12 266 11 yX12_isSign cX12_isSign 2 (some .boolean) 1 := ⟨⟨TX12, 52, rfl⟩, by decide, gms [1178, 1180, 48, 67] (by decide +kernel) (by decide +kernel), cdX12_isSign, by decide +kernel⟩
theorem vX12_283 : jV RX12 283 11 yX12_kindAt cX12_kindAt 1 (some .int) 0 := ⟨⟨TX12, 52, rfl⟩, by decide, gms [1182, 1184, 49, 67] (by decide +kernel) (by decide +kernel), cdX12_kindAt, by decide +kernel⟩
theorem vX12_276 : jV RX12 276 11 yX12_isWord cX12_isWord 9 (some .boolean) 6 := ⟨⟨TX12, 52, rfl⟩, by decide, gms [1186, 1188, 50, 67] (by decide +kernel) (by decide +kernel), cdX12_isWord, by decide +kernel⟩
theorem vX12_269 : jV RX12 269 11 yX12_number cX12_number 6 (some .int) 2 := ⟨⟨TX12, 52, rfl⟩, by decide, gms [1190, 1192, 51, 67] (by decide +kernel) (by decide +kernel), cdX12_number, by decide +kernel⟩
theorem vX12_287 : jV RX12 287 11 yX12_name cX12_name 2 (some .int) 0 := ⟨⟨TX12, 52, rfl⟩, by decide, gms [1194, 1196, 52, 67] (by decide +kernel) (by decide +kernel), cdX12_name, by decide +kernel⟩
theorem vX12_290 : jV RX12 290 11 yX12_signed cX12_signed 3 (some .int) 0 := ⟨⟨TX12, 52, rfl⟩, by decide, gms [1198, 1200, 53, 67] (by decide +kernel) (by decide +kernel), cdX12_signed, by decide +kernel⟩
theorem vL_36 : jV RL 36 11 yX12_fault cX12_fault 1 (some .int) 0 := ⟨⟨TX12, 52, rfl⟩, by decide, gms [1202, 1203, 1204, 67] (by decide +kernel) (by decide +kernel), cdX12_fault, by decide +kernel⟩
theorem vL_56 : jV RL 56 11 yX12_rows cX12_rows 2 (some .int) 1 := ⟨⟨TX12, 52, rfl⟩, by decide, gms [1206, 1207, 1208, 67] (by decide +kernel) (by decide +kernel), cdX12_rows, by decide +kernel⟩
theorem vX12_296 : jV RX12 296 11 yX12_isTable cX12_isTable 2 (some .boolean) 1 := ⟨⟨TX12, 52, rfl⟩, by decide, gms [1210, 1212, 54, 67] (by decide +kernel) (by decide +kernel), cdX12_isTable, by decide +kernel⟩
theorem vL_61 : jV RL 61 11 yX12_row cX12_row 5 (some .int) 3 := ⟨⟨TX12, 52, rfl⟩, by decide, gms [1214, 1215, 1216, 67] (by decide +kernel) (by decide +kernel), cdX12_row, by decide +kernel⟩
theorem vL_66 : jV RL 66 11 yX12_out cX12_out 3 (some .int) 2 := ⟨⟨TX12, 52, rfl⟩, by decide, gms [1219, 1220, 1221, 67] (by decide +kernel) (by decide +kernel), cdX12_out, by decide +kernel⟩
theorem vL_71 : jV RL 71 11 yX12_host cX12_host 7 (some .int) 2 := ⟨⟨TX12, 52, rfl⟩, by decide, gms [1223, 1224, 1225, 67] (by decide +kernel) (by decide +kernel), cdX12_host, by decide +kernel⟩
theorem vX12_302 : jSs RX12 302 yX12_ownerBy cX12_ownerBy 6 (some .int) 2 := ⟨gms [1228, 1229, 67] (by decide +kernel) (by decide +kernel), cdX12_ownerBy, by decide +kernel⟩
theorem vL_75 : jV RL 75 11 yX12_owner cX12_owner 2 (some .int) 1 := ⟨⟨TX12, 52, rfl⟩, by decide, gms [1231, 1232, 1233, 67] (by decide +kernel) (by decide +kernel), cdX12_owner, by decide +kernel⟩
theorem vL_79 : jV RL 79 11 yX12_owns cX12_owns 5 (some .int) 1 := ⟨⟨TX12, 52, rfl⟩, by decide, gms [1235, 1236, 1237, 67] (by decide +kernel) (by decide +kernel), cdX12_owns, by decide +kernel⟩
theorem vL_83 : jV RL 83 11 yX12_count cX12_count 4 (some .int) 1 := ⟨⟨TX12, 52, rfl⟩, by decide, gms [1239, 1240, 1241, 67] (by decide +kernel) (by decide +kernel), cdX12_count, by decide +kernel⟩
theorem vL_87 : jV RL 87 11 yX12_status cX12_status 1 (some .int) 0 := ⟨⟨TX12, 52, rfl⟩, by decide, gms [1243, 1244, 1245, 67] (by decide +kernel) (by decide +kernel), cdX12_status, by decide +kernel⟩
end
section
/-! ===== the JDK's own: Math.max, Math.min, System.arraycopy; Object(); switches; new things ===== -/
theorem wM_max : Cond.static Lib.Math.max.name ∈ gw_tbl ∧ Cond.initialized "java/lang/Math" ∈ gw_tbl := ⟨gm 367 (by decide +kernel) (by decide +kernel), gm 69 (by decide +kernel) (by decide +kernel)⟩
set_option maxRecDepth 40000 in
theorem wC_max : Cond.code Lib.Math.max.name Lib.Math.max.code 2 (some .int) ∈ gw_tbl := gm 368 (by decide +kernel) rfl
theorem wM_min : Cond.static Lib.Math.min.name ∈ gw_tbl ∧ Cond.initialized "java/lang/Math" ∈ gw_tbl := ⟨gm 364 (by decide +kernel) (by decide +kernel), gm 69 (by decide +kernel) (by decide +kernel)⟩
set_option maxRecDepth 40000 in
theorem wC_min : Cond.code Lib.Math.min.name Lib.Math.min.code 2 (some .int) ∈ gw_tbl := gm 365 (by decide +kernel) rfl
theorem wAC : Cond.native arraycopyName ∈ gw_tbl ∧ Cond.static arraycopyName ∈ gw_tbl ∧ Cond.initialized "java/lang/System" ∈ gw_tbl := ⟨gm 645 (by decide +kernel) (by decide +kernel), gm 644 (by decide +kernel) (by decide +kernel), gm 75 (by decide +kernel) (by decide +kernel)⟩
theorem wOI : Cond.instanceMethod objectInit ∈ gw_tbl ∧ Cond.code objectInit ⟨#[0xb1]⟩ 1 none ∈ gw_tbl := ⟨gm 82 (by decide +kernel) (by decide +kernel), gm 83 (by decide +kernel) rfl⟩
theorem vX11_1 : Cond.methodLink RX11 1 objectInit ∈ gw_tbl := gm 81 (by decide +kernel) (by decide +kernel)
theorem vX2_3 : Cond.methodLink RX2 3 objectInit ∈ gw_tbl := gm 89 (by decide +kernel) (by decide +kernel)
theorem vX10_3 : Cond.methodLink RX10 3 objectInit ∈ gw_tbl := gm 107 (by decide +kernel) (by decide +kernel)
theorem vX4_3 : Cond.methodLink RX4 3 objectInit ∈ gw_tbl := gm 127 (by decide +kernel) (by decide +kernel)
theorem vX9_3 : Cond.methodLink RX9 3 objectInit ∈ gw_tbl := gm 137 (by decide +kernel) (by decide +kernel)
theorem vX8_3 : Cond.methodLink RX8 3 objectInit ∈ gw_tbl := gm 144 (by decide +kernel) (by decide +kernel)
theorem vX5_3 : Cond.methodLink RX5 3 objectInit ∈ gw_tbl := gm 160 (by decide +kernel) (by decide +kernel)
theorem vX3_3 : Cond.methodLink RX3 3 objectInit ∈ gw_tbl := gm 167 (by decide +kernel) (by decide +kernel)
theorem vX0_3 : Cond.methodLink RX0 3 objectInit ∈ gw_tbl := gm 235 (by decide +kernel) (by decide +kernel)
theorem vX1_3 : Cond.methodLink RX1 3 objectInit ∈ gw_tbl := gm 248 (by decide +kernel) (by decide +kernel)
theorem vX6_3 : Cond.methodLink RX6 3 objectInit ∈ gw_tbl := gm 264 (by decide +kernel) (by decide +kernel)
theorem vX10_19 : Cond.methodLink RX10 19 Lib.Math.min.name ∈ gw_tbl := gm 363 (by decide +kernel) (by decide +kernel)
theorem vX10_25 : Cond.methodLink RX10 25 Lib.Math.max.name ∈ gw_tbl := gm 366 (by decide +kernel) (by decide +kernel)
theorem vX11_131 : Cond.methodLink RX11 131 Lib.Math.min.name ∈ gw_tbl := gm 603 (by decide +kernel) (by decide +kernel)
theorem vX8_41 : Cond.methodLink RX8 41 arraycopyName ∈ gw_tbl := gm 643 (by decide +kernel) (by decide +kernel)
theorem vX3_101 : Cond.methodLink RX3 101 Lib.Math.max.name ∈ gw_tbl := gm 708 (by decide +kernel) (by decide +kernel)
theorem vX8_47 : Cond.methodLink RX8 47 Lib.Math.min.name ∈ gw_tbl := gm 738 (by decide +kernel) (by decide +kernel)
theorem vX6_21 : Cond.methodLink RX6 21 Lib.Math.max.name ∈ gw_tbl := gm 769 (by decide +kernel) (by decide +kernel)
theorem vX0_30 : Cond.methodLink RX0 30 arraycopyName ∈ gw_tbl := gm 778 (by decide +kernel) (by decide +kernel)
theorem vX12_1 : Cond.methodLink RX12 1 objectInit ∈ gw_tbl := gm 886 (by decide +kernel) (by decide +kernel)
section JM
variable {G : JG} {l : Launch} {E : JE} {cc : ByteArray} {own : String} {nL : Nat} {rm : Room} {k n : Nat} {f : Hp} {pc : Nat} {lv : List (Nat × Value)} {st : List Value}
theorem j_max (hG : jX G l E cc own nL rm) {idx : Nat} {a b : Int} (hw : Cond.methodLink own idx Lib.Math.max.name ∈ gw_tbl) (hd : decode cc pc = .ok (.invokestatic idx, 3)) (ha : -2147483648 ≤ a ∧ a < 2147483648) (hb0 : -2147483648 ≤ b ∧ b < 2147483648) (hfr : 1 ≤ rm.frames) (hlo : 21 ≤ rm.locals) (hrs : (st.map fun v => v.category).sum ≤ 8) (hkc : k ≤ rm.cells) (hks : n ≤ rm.slots) (kk : J G k n f (pc + 3) lv (.int (iZ (max a b)) :: st)) : J G k n f pc lv (.int (iZ b) :: .int (iZ a) :: st) := by
  obtain ⟨p, l', e, R, s, m, args, below, meth, c, E', A, Z⟩ := G
  obtain ⟨rfl, rfl, rfl, hx, hb, hml, hown, hlocks, hts, hK, hA, hNw, hRs, hSS⟩ := hG
  intro L H locs ls hdm hP hD hS hl
  refine va_mmax hx hb hl.1.symm hown (hts _ hw) (hts _ wM_max.1) (hts _ wM_max.2) (hts _ wC_max) hfr (by omega) hkc hks hd ?_
  have e : (if iZ a < iZ b then iZ b else iZ a) = iZ (max a b) := by
    by_cases h : iZ a < iZ b
    · rw [if_pos h]
      rw [iZ_lt ha hb0] at h
      congr 1; omega
    · rw [if_neg h]
      rw [iZ_lt ha hb0] at h
      congr 1; omega
  rw [e]
  exact kk L H locs ls hdm hP hD hS hl
theorem j_min (hG : jX G l E cc own nL rm) {idx : Nat} {a b : Int} (hw : Cond.methodLink own idx Lib.Math.min.name ∈ gw_tbl) (hd : decode cc pc = .ok (.invokestatic idx, 3)) (ha : -2147483648 ≤ a ∧ a < 2147483648) (hb0 : -2147483648 ≤ b ∧ b < 2147483648) (hfr : 1 ≤ rm.frames) (hlo : 21 ≤ rm.locals) (hrs : (st.map fun v => v.category).sum ≤ 8) (hkc : k ≤ rm.cells) (hks : n ≤ rm.slots) (kk : J G k n f (pc + 3) lv (.int (iZ (min a b)) :: st)) : J G k n f pc lv (.int (iZ b) :: .int (iZ a) :: st) := by
  obtain ⟨p, l', e, R, s, m, args, below, meth, c, E', A, Z⟩ := G
  obtain ⟨rfl, rfl, rfl, hx, hb, hml, hown, hlocks, hts, hK, hA, hNw, hRs, hSS⟩ := hG
  intro L H locs ls hdm hP hD hS hl
  refine va_mmin hx hb hl.1.symm hown (hts _ hw) (hts _ wM_min.1) (hts _ wM_min.2) (hts _ wC_min) hfr (by omega) hkc hks hd ?_
  have e : (if iZ b < iZ a then iZ b else iZ a) = iZ (min a b) := by
    by_cases h : iZ b < iZ a
    · rw [if_pos h]
      rw [iZ_lt hb0 ha] at h
      congr 1; omega
    · rw [if_neg h]
      rw [iZ_lt hb0 ha] at h
      congr 1; omega
  rw [e]
  exact kk L H locs ls hdm hP hD hS hl
def fcp (g h : Int → Int) (sp dp m : Int) : Int → Int := fun j => if dp ≤ j ∧ j < dp + m then g (sp + (j - dp)) else h j
theorem j_copyl (hG : jX G l E cc own nL rm) {idx a b N M : Nat} {sp dp u : Int} {g h : Int → Int} (hw : Cond.methodLink own idx arraycopyName ∈ gw_tbl) (hd : decode cc pc = .ok (.invokestatic idx, 3)) (ha : f a = aJ (E.2.1 1) N g) (hb0 : f b = aJ (E.2.1 1) M h) (h1 : 0 ≤ sp ∧ 0 ≤ dp ∧ 0 ≤ u) (h2 : sp + u ≤ N) (h3 : dp + u ≤ M) (hN : N < 2147483648) (hM : M < 2147483648) (hfr : 1 ≤ rm.frames) (hlo : (st.map fun v => v.category).sum + (nativeFrameWords "java/lang/System" "arraycopy" 5 + 11) ≤ rm.locals) (kk : ∀ f' : Hp, f' b = aJ (E.2.1 1) M (fcp g h sp dp u) → (∀ q, q ≠ b → f' q = f q) → J G k n f' (pc + 3) lv st) : J G k n f pc lv (.int (iZ u) :: .int (iZ dp) :: .ref b :: .int (iZ sp) :: .ref a :: st) := by
  obtain ⟨p, l', e, R, s, m, args, below, meth, c, E', A, Z⟩ := G
  obtain ⟨rfl, rfl, rfl, hx, hb, hml, hown, hlocks, hts, hK, hA, hNw, hRs, hSS⟩ := hG
  intro L H locs ls hdm hP hD hS hl
  obtain ⟨-, q0, hq0⟩ := jmem hdm ha aJ_ne
  obtain ⟨hbL, q1, hq1⟩ := jmem hdm hb0 aJ_ne
  have c1 := iZ_cl (a := sp) (by omega)
  have c2 := iZ_cl (a := dp) (by omega)
  have c3 := iZ_cl (a := u) (by omega)
  have z0 : ∀ z : Int, 0 ≤ z ∧ z < 2147483648 → ¬ iZ z < 0 := fun z hz h => by
    rw [iZ_0, iZ_lt (by omega) (by omega)] at h
    omega
  refine va_copyl hx hb hl.1.symm hown (hts _ hw) (hts _ wAC.1) (hts _ wAC.2.1) (hts _ wAC.2.2) hK hP hD hS q0 q1 1 1 hq0 hq1 (ty := .long) rfl rfl rfl (z0 _ (by omega)) (z0 _ (by omega)) (z0 _ (by omega)) (by rw [c1, c3]; omega) (by rw [c2, c3]; omega) (fun _ _ => rfl) hfr hlo hd (fun H1 locs1 hP1 hD1 hS1 => ?_)
  have e : va_cpy (fun j : Nat => lZ (g j)) (fun j : Nat => lZ (h j)) (iZ sp).toNatClampNeg (iZ dp).toNatClampNeg (iZ u).toNatClampNeg = fun j : Nat => lZ (fcp g h sp dp u j) := by
    rw [c1, c2, c3]
    funext j
    unfold va_cpy fcp
    by_cases hj : dp.toNat ≤ j ∧ j < dp.toNat + u.toNat
    · rw [if_pos hj, if_pos (by omega)]
      have e9 : ((sp.toNat + (j - dp.toNat) : Nat) : Int) = sp + ((j : Int) - dp) := by omega
      exact congrArg (fun z => lZ (g z)) e9
    · rw [if_neg hj, if_neg (by omega)]
  rw [e] at hP1 hD1
  obtain ⟨e1, e2, e3⟩ := jset (x := aJ (E'.2.1 1) M (fcp g h sp dp u)) hdm hbL (by rw [hb0]; exact hq1) hD aJ_ne hP1 hD1
  exact kk _ (va_up_self _ _ _) (fun b hb => va_up_ne _ _ hb) L H1 locs1 ls e1 e2 e3 hS1 hl
theorem j_objInit (hG : jX G l E cc own nL rm) {idx a : Nat} (hw : Cond.methodLink own idx objectInit ∈ gw_tbl) (hd : decode cc pc = .ok (.invokespecial idx, 3)) (hfr : 1 ≤ rm.frames) (hlo : (st.map fun v => v.category).sum + 12 ≤ rm.locals) (kk : J G k n f (pc + 3) lv st) : J G k n f pc lv (.ref a :: st) := by
  obtain ⟨p, l', e, R, s, m, args, below, meth, c, E', A, Z⟩ := G
  obtain ⟨rfl, rfl, rfl, hx, hb, hml, hown, hlocks, hts, hK, hA, hNw, hRs, hSS⟩ := hG
  intro L H locs ls hdm hP hD hS hl
  exact W.objInit hx hb hown (hts _ hw) (hts _ wOI.1) (hts _ wOI.2) rfl hl.1 rfl hd hfr (by show 2 * 0 + _ + 12 ≤ _; omega) (kk L H locs ls hdm hP hD hS hl)
theorem j_ldcw (hG : jX G l E cc own nL rm) {i : Nat} {x : Int32} {z : Int} (hd : decode cc pc = .ok (.ldc_w i, 3)) (hw : Cond.constant own i x ∈ gw_tbl) (hz : x = iZ z) (kk : J G k n f (pc + 3) lv (.int (iZ z) :: st)) : J G k n f pc lv st := by
  obtain ⟨p, l', e, R, s, m, args, below, meth, c, E', A, Z⟩ := G
  obtain ⟨rfl, rfl, rfl, hx, hb, hml, hown, hlocks, hts, hK, hA, hNw, hRs, hSS⟩ := hG
  intro L H locs ls hdm hP hD hS hl
  subst hz
  exact lv_ldcw hx hb hown (hts _ hw) hd (kk L H locs ls hdm hP hD hS hl)
theorem j_ldcS (hG : jX G l E cc RX4 nL rm) {i idx : Nat} {tx : String} (hd : decode cc pc = .ok (.ldc idx, 2)) (hi : strQ[i]? = some (idx, tx)) (kk : J G k n f (pc + 2) lv (.ref (E.2.2.1 i) :: st)) : J G k n f pc lv st := by
  obtain ⟨p, l', e, R, s, m, args, below, meth, c, E', A, Z⟩ := G
  obtain ⟨rfl, rfl, rfl, hx, hb, hml, hown, hlocks, hts, hK, hA, hNw, hRs, hSS⟩ := hG
  intro L H locs ls hdm hP hD hS hl
  exact va_ldcS hx hb hown (hRs i _ hi) hd (kk L H locs ls hdm hP hD hS hl)
theorem j_tswIn (hG : jX G l E cc own nL rm) {a : Int} {dflt lo hi off : Int} {offs : Array Int} {len tgt : Nat} (z : Int) (hd : decode cc pc = .ok (.tableswitch dflt lo hi offs, len)) (hz : a = z) (h1 : lo ≤ z ∧ z ≤ hi) (hr : -2147483648 ≤ z ∧ z < 2147483648) (ho : offs[(z - lo).toNat]? = some off) (ht : (pc : Int) + off = (tgt : Int)) (kk : J G k n f tgt lv st) : J G k n f pc lv (.int (iZ a) :: st) := by
  obtain ⟨p, l', e, R, s, m, args, below, meth, c, E', A, Z⟩ := G
  obtain ⟨rfl, rfl, rfl, hx, hb, hml, hown, hlocks, hts, hK, hA, hNw, hRs, hSS⟩ := hG
  intro L H locs ls hdm hP hD hS hl
  subst hz
  have e := iZ_toInt hr
  exact lv_tableIn hx hb hd (by rw [e]; omega) (by rw [e]; omega) (by rw [e]; exact ho) ht (kk L H locs ls hdm hP hD hS hl)
theorem j_tswOut (hG : jX G l E cc own nL rm) {a : Int} {dflt lo hi : Int} {offs : Array Int} {len tgt : Nat} (hd : decode cc pc = .ok (.tableswitch dflt lo hi offs, len)) (hz : a < lo ∨ hi < a) (hr : -2147483648 ≤ a ∧ a < 2147483648) (ht : (pc : Int) + dflt = (tgt : Int)) (kk : J G k n f tgt lv st) : J G k n f pc lv (.int (iZ a) :: st) := by
  obtain ⟨p, l', e, R, s, m, args, below, meth, c, E', A, Z⟩ := G
  obtain ⟨rfl, rfl, rfl, hx, hb, hml, hown, hlocks, hts, hK, hA, hNw, hRs, hSS⟩ := hG
  intro L H locs ls hdm hP hD hS hl
  have e := iZ_toInt hr
  exact lv_tableOut hx hb hd (by rw [e]; exact hz) ht (kk L H locs ls hdm hP hD hS hl)
theorem jpush {L : List Nat} {f : Hp} {A : Nat → Prop} {D : va_G} {H : Heap} {a : Nat} {x : va_E} (hdm : jdom L f) (hx : x ≠ eN) (hP : va_P D vwCl (va_pl L f ++ [(a, x)]) H) (hD : va_D A (va_pl L f ++ [(a, x)])) : f a = eN ∧ ∃ L', jdom L' (va_up f a x) ∧ va_P D vwCl (va_pl L' (va_up f a x)) H ∧ va_D A (va_pl L' (va_up f a x)) := by
  have hn : a ∉ L := fun h => by
    obtain ⟨i, hi⟩ := va_pl_get (X := []) (f := f) h
    rw [List.nil_append] at hi
    have hl := (List.getElem?_eq_some_iff.mp hi).1
    have h1 : (va_pl L f ++ [(a, x)])[i]? = some (a, f a) := by rw [List.getElem?_append_left hl]; exact hi
    have h2 : (va_pl L f ++ [(a, x)])[(va_pl L f).length]? = some (a, x) := by simp
    have := hD.1 i _ _ _ h1 h2 rfl
    omega
  have hf : f a = eN := by
    by_cases h : f a = eN
    · exact h
    · exact absurd ((hdm a).mpr h) hn
  rw [va_pl_push hn] at hP hD
  refine ⟨hf, L ++ [a], fun b => ?_, hP, hD⟩
  by_cases hb : b = a
  · subst hb
    rw [va_up_self]
    exact ⟨fun _ => hx, fun _ => by simp⟩
  · rw [va_up_ne _ _ hb]
    constructor
    · intro h
      rcases List.mem_append.mp h with h | h
      · exact (hdm b).mp h
      · exact absurd (List.mem_singleton.mp h) hb
    · intro h
      exact List.mem_append_left _ ((hdm b).mpr h)
def jNw (own : String) (idx ci : Nat) (fs : List Value) : Prop := ∃ (C : String) (T : u_T) (N : Nat) (ty : Nat → FieldType), vwCl[ci]? = some (C, T, N) ∧ ci < 999 ∧ (∀ w ∈ u_ws C T N, w ∈ gw_tbl) ∧ (∀ k, k < N → parseFieldDescriptor (T k).2.2.1 = some (ty k)) ∧ (∀ w ∈ [Cond.classLink own idx C, Cond.instantiable C N, Cond.initialized C], w ∈ gw_tbl) ∧ (∀ j, j < N → defaultValue (ty j) = vp_V fs j) ∧ fs.length = N
theorem j_new (hG : jX G l E cc own nL rm) {idx ci : Nat} {fs : List Value} (hF : jNw own idx ci fs) (hd : decode cc pc = .ok (.new idx, 3)) (hkc : k + 1 ≤ rm.cells) (hks : n + fs.length ≤ rm.slots) (kk : ∀ (q : Nat) (f' : Hp), f q = eN → f' q = oB ci fs → (∀ b, b ≠ q → f' b = f b) → J G (k + 1) (n + fs.length) f' (pc + 3) lv (.ref q :: st)) : J G k n f pc lv st := by
  obtain ⟨p, l', e, R, s, m, args, below, meth, c, E', A, Z⟩ := G
  obtain ⟨rfl, rfl, rfl, hx, hb, hml, hown, hlocks, hts, hK, hA, hNw, hRs, hSS⟩ := hG
  intro L H locs ls hdm hP hD hS hl
  obtain ⟨C, T, N, ty, h1, h2, h3, h4, h5, h6, h7⟩ := hF
  subst h7
  refine va_new (C := C) (T := T) (fs := fs) hx hb hts h3 ty h4 hown (hts _ (h5 _ List.mem_cons_self)) (hts _ (h5 _ (List.mem_cons_of_mem _ List.mem_cons_self))) (hts _ (h5 _ (List.mem_cons_of_mem _ (List.mem_cons_of_mem _ List.mem_cons_self)))) hK hP hD hS hA h1 h6 hkc hks hd (fun q H1 hP1 hD1 hS1 => ?_)
  obtain ⟨e0, L', e1, e2, e3⟩ := jpush (x := oB ci fs) hdm (oB_ne h2) hP1 hD1
  exact kk q _ e0 (va_up_self _ _ _) (fun b hb => va_up_ne _ _ hb) L' H1 locs ls e1 e2 e3 hS1 hl
theorem j_newI (hG : jX G l E cc own nL rm) {N : Nat} (hw : Cond.arrayClass .int ∈ gw_tbl) (hd : decode cc pc = .ok (.newarray .int, 2)) (hN : N < 100000) (hkc : k + 1 ≤ rm.cells) (hks : n + N ≤ rm.slots) (kk : ∀ (q : Nat) (f' : Hp), f q = eN → f' q = aI (E.2.1 0) N (fun _ => 0) → (∀ b, b ≠ q → f' b = f b) → J G (k + 1) (n + N) f' (pc + 2) lv (.ref q :: st)) : J G k n f pc lv (.int (iZ N) :: st) := by
  obtain ⟨p, l', e, R, s, m, args, below, meth, c, E', A, Z⟩ := G
  obtain ⟨rfl, rfl, rfl, hx, hb, hml, hown, hlocks, hts, hK, hA, hNw, hRs, hSS⟩ := hG
  intro L H locs ls hdm hP hD hS hl
  refine va_newa (atype := .int) (ty := .int) (a0 := (N, .inl (fun _ => 0))) hx hb (hts _ hw) rfl hK hP hD hS hA (fun cA => by first | rfl | (rw [vp_cell_i]; rfl) | (rw [vp_cell_l]; rfl)) (fun h => ?_) (by rw [iZ_cl (by omega)]; omega) (by show N * 4 ≤ _; omega) hkc hks hd (fun q cA H1 hK1 hP1 hD1 hS1 => ?_)
  · rw [iZ_0, iZ_lt (by omega) (by omega)] at h
    omega
  · have k1 := (hK1.2 6 (cA, .int) rfl).2
    have k2 := (hK.2 0 (E'.2.1 0, .int) rfl).2
    have ec : cA = E'.2.1 0 := Option.some.inj (k1.symm.trans k2)
    subst ec
    obtain ⟨e0, L', e1, e2, e3⟩ := jpush (x := aI (E'.2.1 0) N (fun _ => 0)) hdm aI_ne hP1 hD1
    exact kk q _ e0 (va_up_self _ _ _) (fun b hb => va_up_ne _ _ hb) L' H1 locs ls e1 e2 e3 hS1 hl
theorem j_newJ (hG : jX G l E cc own nL rm) {N : Nat} (hw : Cond.arrayClass .long ∈ gw_tbl) (hd : decode cc pc = .ok (.newarray .long, 2)) (hN : N < 100000) (hkc : k + 1 ≤ rm.cells) (hks : n + N ≤ rm.slots) (kk : ∀ (q : Nat) (f' : Hp), f q = eN → f' q = aJ (E.2.1 1) N (fun _ => 0) → (∀ b, b ≠ q → f' b = f b) → J G (k + 1) (n + N) f' (pc + 2) lv (.ref q :: st)) : J G k n f pc lv (.int (iZ N) :: st) := by
  obtain ⟨p, l', e, R, s, m, args, below, meth, c, E', A, Z⟩ := G
  obtain ⟨rfl, rfl, rfl, hx, hb, hml, hown, hlocks, hts, hK, hA, hNw, hRs, hSS⟩ := hG
  intro L H locs ls hdm hP hD hS hl
  refine va_newa (atype := .long) (ty := .long) (a0 := (N, .inr (.inl (fun _ => 0)))) hx hb (hts _ hw) rfl hK hP hD hS hA (fun cA => by first | rfl | (rw [vp_cell_i]; rfl) | (rw [vp_cell_l]; rfl)) (fun h => ?_) (by rw [iZ_cl (by omega)]; omega) (by show N * 8 ≤ _; omega) hkc hks hd (fun q cA H1 hK1 hP1 hD1 hS1 => ?_)
  · rw [iZ_0, iZ_lt (by omega) (by omega)] at h
    omega
  · have k1 := (hK1.2 6 (cA, .long) rfl).2
    have k2 := (hK.2 1 (E'.2.1 1, .long) rfl).2
    have ec : cA = E'.2.1 1 := Option.some.inj (k1.symm.trans k2)
    subst ec
    obtain ⟨e0, L', e1, e2, e3⟩ := jpush (x := aJ (E'.2.1 1) N (fun _ => 0)) hdm aJ_ne hP1 hD1
    exact kk q _ e0 (va_up_self _ _ _) (fun b hb => va_up_ne _ _ hb) L' H1 locs ls e1 e2 e3 hS1 hl
theorem j_newZ (hG : jX G l E cc own nL rm) {N : Nat} (hw : Cond.arrayClass .boolean ∈ gw_tbl) (hd : decode cc pc = .ok (.newarray .boolean, 2)) (hN : N < 100000) (hkc : k + 1 ≤ rm.cells) (hks : n + N ≤ rm.slots) (kk : ∀ (q : Nat) (f' : Hp), f q = eN → f' q = aI (E.2.1 2) N (fun _ => 0) → (∀ b, b ≠ q → f' b = f b) → J G (k + 1) (n + N) f' (pc + 2) lv (.ref q :: st)) : J G k n f pc lv (.int (iZ N) :: st) := by
  obtain ⟨p, l', e, R, s, m, args, below, meth, c, E', A, Z⟩ := G
  obtain ⟨rfl, rfl, rfl, hx, hb, hml, hown, hlocks, hts, hK, hA, hNw, hRs, hSS⟩ := hG
  intro L H locs ls hdm hP hD hS hl
  refine va_newa (atype := .boolean) (ty := .boolean) (a0 := (N, .inl (fun _ => 0))) hx hb (hts _ hw) rfl hK hP hD hS hA (fun cA => by first | rfl | (rw [vp_cell_i]; rfl) | (rw [vp_cell_l]; rfl)) (fun h => ?_) (by rw [iZ_cl (by omega)]; omega) (by show N * 1 ≤ _; omega) hkc hks hd (fun q cA H1 hK1 hP1 hD1 hS1 => ?_)
  · rw [iZ_0, iZ_lt (by omega) (by omega)] at h
    omega
  · have k1 := (hK1.2 6 (cA, .boolean) rfl).2
    have k2 := (hK.2 2 (E'.2.1 2, .boolean) rfl).2
    have ec : cA = E'.2.1 2 := Option.some.inj (k1.symm.trans k2)
    subst ec
    obtain ⟨e0, L', e1, e2, e3⟩ := jpush (x := aI (E'.2.1 2) N (fun _ => 0)) hdm aI_ne hP1 hD1
    exact kk q _ e0 (va_up_self _ _ _) (fun b hb => va_up_ne _ _ hb) L' H1 locs ls e1 e2 e3 hS1 hl
theorem j_newC (hG : jX G l E cc own nL rm) {N : Nat} (hw : Cond.arrayClass .char ∈ gw_tbl) (hd : decode cc pc = .ok (.newarray .char, 2)) (hN : N < 100000) (hkc : k + 1 ≤ rm.cells) (hks : n + N ≤ rm.slots) (kk : ∀ (q : Nat) (f' : Hp), f q = eN → f' q = aI (E.2.1 3) N (fun _ => 0) → (∀ b, b ≠ q → f' b = f b) → J G (k + 1) (n + N) f' (pc + 2) lv (.ref q :: st)) : J G k n f pc lv (.int (iZ N) :: st) := by
  obtain ⟨p, l', e, R, s, m, args, below, meth, c, E', A, Z⟩ := G
  obtain ⟨rfl, rfl, rfl, hx, hb, hml, hown, hlocks, hts, hK, hA, hNw, hRs, hSS⟩ := hG
  intro L H locs ls hdm hP hD hS hl
  refine va_newa (atype := .char) (ty := .char) (a0 := (N, .inl (fun _ => 0))) hx hb (hts _ hw) rfl hK hP hD hS hA (fun cA => by first | rfl | (rw [vp_cell_i]; rfl) | (rw [vp_cell_l]; rfl)) (fun h => ?_) (by rw [iZ_cl (by omega)]; omega) (by show N * 2 ≤ _; omega) hkc hks hd (fun q cA H1 hK1 hP1 hD1 hS1 => ?_)
  · rw [iZ_0, iZ_lt (by omega) (by omega)] at h
    omega
  · have k1 := (hK1.2 6 (cA, .char) rfl).2
    have k2 := (hK.2 3 (E'.2.1 3, .char) rfl).2
    have ec : cA = E'.2.1 3 := Option.some.inj (k1.symm.trans k2)
    subst ec
    obtain ⟨e0, L', e1, e2, e3⟩ := jpush (x := aI (E'.2.1 3) N (fun _ => 0)) hdm aI_ne hP1 hD1
    exact kk q _ e0 (va_up_self _ _ _) (fun b hb => va_up_ne _ _ hb) L' H1 locs ls e1 e2 e3 hS1 hl
theorem j_newQ4 (hG : jX G l E cc own nL rm) {idx N : Nat} (hw : Cond.classLink own idx "TableStreams$Rows" ∈ gw_tbl) (hd : decode cc pc = .ok (.anewarray idx, 3)) (hN : N < 100000) (hkc : k + 1 ≤ rm.cells) (hks : n + N ≤ rm.slots) (kk : ∀ (q : Nat) (f' : Hp), f q = eN → f' q = aQ (E.2.1 4) N (fun _ => none) → (∀ b, b ≠ q → f' b = f b) → J G (k + 1) (n + N) f' (pc + 3) lv (.ref q :: st)) : J G k n f pc lv (.int (iZ N) :: st) := by
  obtain ⟨p, l', e, R, s, m, args, below, meth, c, E', A, Z⟩ := G
  obtain ⟨rfl, rfl, rfl, hx, hb, hml, hown, hlocks, hts, hK, hA, hNw, hRs, hSS⟩ := hG
  intro L H locs ls hdm hP hD hS hl
  refine va_newq hx hb hown (hts _ hw) hNw.2.1 hK hP hD hS hA (N' := N) (fun h => ?_) (by rw [iZ_cl (by omega)]; omega) (by omega) hkc hks hd (fun q cA H1 hK1 hP1 hD1 hS1 => ?_)
  · rw [iZ_0, iZ_lt (by omega) (by omega)] at h
    omega
  · obtain ⟨_, _, -, -, -, k1⟩ := (hK1.2 6 (cA, .object "TableStreams$Rows") rfl).2
    obtain ⟨_, _, -, -, -, k2⟩ := (hK.2 4 (E'.2.1 4, .object "TableStreams$Rows") rfl).2
    have ec : cA = E'.2.1 4 := Option.some.inj (k1.symm.trans k2)
    subst ec
    obtain ⟨e0, L', e1, e2, e3⟩ := jpush (x := aQ (E'.2.1 4) N (fun _ => none)) hdm aQ_ne hP1 hD1
    exact kk q _ e0 (va_up_self _ _ _) (fun b hb => va_up_ne _ _ hb) L' H1 locs ls e1 e2 e3 hS1 hl
theorem j_newQ5 (hG : jX G l E cc own nL rm) {idx N : Nat} (hw : Cond.classLink own idx "TableStreams$Making" ∈ gw_tbl) (hd : decode cc pc = .ok (.anewarray idx, 3)) (hN : N < 100000) (hkc : k + 1 ≤ rm.cells) (hks : n + N ≤ rm.slots) (kk : ∀ (q : Nat) (f' : Hp), f q = eN → f' q = aQ (E.2.1 5) N (fun _ => none) → (∀ b, b ≠ q → f' b = f b) → J G (k + 1) (n + N) f' (pc + 3) lv (.ref q :: st)) : J G k n f pc lv (.int (iZ N) :: st) := by
  obtain ⟨p, l', e, R, s, m, args, below, meth, c, E', A, Z⟩ := G
  obtain ⟨rfl, rfl, rfl, hx, hb, hml, hown, hlocks, hts, hK, hA, hNw, hRs, hSS⟩ := hG
  intro L H locs ls hdm hP hD hS hl
  refine va_newq hx hb hown (hts _ hw) hNw.2.2 hK hP hD hS hA (N' := N) (fun h => ?_) (by rw [iZ_cl (by omega)]; omega) (by omega) hkc hks hd (fun q cA H1 hK1 hP1 hD1 hS1 => ?_)
  · rw [iZ_0, iZ_lt (by omega) (by omega)] at h
    omega
  · obtain ⟨_, _, -, -, -, k1⟩ := (hK1.2 6 (cA, .object "TableStreams$Making") rfl).2
    obtain ⟨_, _, -, -, -, k2⟩ := (hK.2 5 (E'.2.1 5, .object "TableStreams$Making") rfl).2
    have ec : cA = E'.2.1 5 := Option.some.inj (k1.symm.trans k2)
    subst ec
    obtain ⟨e0, L', e1, e2, e3⟩ := jpush (x := aQ (E'.2.1 5) N (fun _ => none)) hdm aQ_ne hP1 hD1
    exact kk q _ e0 (va_up_self _ _ _) (fun b hb => va_up_ne _ _ hb) L' H1 locs ls e1 e2 e3 hS1 hl
end JM
end
section
abbrev rmX11_init : Room := ⟨6, 124, 24226, 92⟩
abbrev KX11_init (l : Launch) (E : JE) (av : List Value) (f : Hp) (P : Option Value → Hp → Prop) : Prop := Ct l E yX11_init cX11_init 1 none rmX11_init av f P
abbrev rmX2_init : Room := ⟨3, 2, 300, 30⟩
abbrev KX2_init (l : Launch) (E : JE) (av : List Value) (f : Hp) (P : Option Value → Hp → Prop) : Prop := Ct l E yX2_init cX2_init 1 none rmX2_init av f P
abbrev rmX10_init : Room := ⟨3, 1, 300, 30⟩
abbrev KX10_init (l : Launch) (E : JE) (av : List Value) (f : Hp) (P : Option Value → Hp → Prop) : Prop := Ct l E yX10_init cX10_init 1 none rmX10_init av f P
abbrev rmX4_init : Room := ⟨3, 1, 26, 30⟩
abbrev KX4_init (l : Launch) (E : JE) (av : List Value) (f : Hp) (P : Option Value → Hp → Prop) : Prop := Ct l E yX4_init cX4_init 1 none rmX4_init av f P
abbrev rmX9_init : Room := ⟨5, 107, 15531, 71⟩
abbrev KX9_init (l : Launch) (E : JE) (av : List Value) (f : Hp) (P : Option Value → Hp → Prop) : Prop := Ct l E yX9_init cX9_init 2 none rmX9_init av f P
abbrev rmX8_init : Room := ⟨3, 1, 400, 30⟩
abbrev KX8_init (l : Launch) (E : JE) (av : List Value) (f : Hp) (P : Option Value → Hp → Prop) : Prop := Ct l E yX8_init cX8_init 1 none rmX8_init av f P
abbrev rmX5_init : Room := ⟨4, 13, 84, 50⟩
abbrev KX5_init (l : Launch) (E : JE) (av : List Value) (f : Hp) (P : Option Value → Hp → Prop) : Prop := Ct l E yX5_init cX5_init 2 none rmX5_init av f P
abbrev rmX3_init : Room := ⟨3, 0, 0, 30⟩
abbrev KX3_init (l : Launch) (E : JE) (av : List Value) (f : Hp) (P : Option Value → Hp → Prop) : Prop := Ct l E yX3_init cX3_init 1 none rmX3_init av f P
abbrev rmX0_init : Room := ⟨3, 1, 4000, 30⟩
abbrev KX0_init (l : Launch) (E : JE) (av : List Value) (f : Hp) (P : Option Value → Hp → Prop) : Prop := Ct l E yX0_init cX0_init 1 none rmX0_init av f P
abbrev rmX1_init : Room := ⟨3, 2, 40, 30⟩
abbrev KX1_init (l : Launch) (E : JE) (av : List Value) (f : Hp) (P : Option Value → Hp → Prop) : Prop := Ct l E yX1_init cX1_init 1 none rmX1_init av f P
abbrev rmX6_init : Room := ⟨3, 0, 0, 30⟩
abbrev KX6_init (l : Launch) (E : JE) (av : List Value) (f : Hp) (P : Option Value → Hp → Prop) : Prop := Ct l E yX6_init cX6_init 1 none rmX6_init av f P
abbrev rmX11_tell : Room := ⟨1, 0, 0, 24⟩
abbrev KX11_tell (l : Launch) (E : JE) (av : List Value) (f : Hp) (P : Option Value → Hp → Prop) : Prop := Ct l E yX11_tell cX11_tell 5 (some .int) rmX11_tell av f P
abbrev rmX11_isWithin : Room := ⟨0, 0, 0, 0⟩
abbrev KX11_isWithin (l : Launch) (E : JE) (av : List Value) (f : Hp) (P : Option Value → Hp → Prop) : Prop := Ct l E yX11_isWithin cX11_isWithin 3 (some .boolean) rmX11_isWithin av f P
abbrev rmX11_refuse : Room := ⟨0, 0, 0, 0⟩
abbrev KX11_refuse (l : Launch) (E : JE) (av : List Value) (f : Hp) (P : Option Value → Hp → Prop) : Prop := Ct l E yX11_refuse cX11_refuse 2 (some .int) rmX11_refuse av f P
abbrev rmX7_pack : Room := ⟨0, 0, 0, 0⟩
abbrev KX7_pack (l : Launch) (E : JE) (av : List Value) (f : Hp) (P : Option Value → Hp → Prop) : Prop := Ct l E yX7_pack cX7_pack 5 (some .long) rmX7_pack av f P
abbrev rmX2_add : Room := ⟨0, 0, 0, 0⟩
abbrev KX2_add (l : Launch) (E : JE) (av : List Value) (f : Hp) (P : Option Value → Hp → Prop) : Prop := Ct l E yX2_add cX2_add 4 (some .boolean) rmX2_add av f P
abbrev rmX2_size : Room := ⟨0, 0, 0, 0⟩
abbrev KX2_size (l : Launch) (E : JE) (av : List Value) (f : Hp) (P : Option Value → Hp → Prop) : Prop := Ct l E yX2_size cX2_size 1 (some .int) rmX2_size av f P
abbrev rmX11_grant : Room := ⟨0, 0, 0, 0⟩
abbrev KX11_grant (l : Launch) (E : JE) (av : List Value) (f : Hp) (P : Option Value → Hp → Prop) : Prop := Ct l E yX11_grant cX11_grant 2 (some .int) rmX11_grant av f P
abbrev rmX11_feed : Room := ⟨1, 0, 0, 22⟩
abbrev KX11_feed (l : Launch) (E : JE) (av : List Value) (f : Hp) (P : Option Value → Hp → Prop) : Prop := Ct l E yX11_feed cX11_feed 6 (some .int) rmX11_feed av f P
abbrev rmX10_hasRoomFor : Room := ⟨0, 0, 0, 0⟩
abbrev KX10_hasRoomFor (l : Launch) (E : JE) (av : List Value) (f : Hp) (P : Option Value → Hp → Prop) : Prop := Ct l E yX10_hasRoomFor cX10_hasRoomFor 2 (some .boolean) rmX10_hasRoomFor av f P
abbrev rmX10_addNumber : Room := ⟨0, 0, 0, 0⟩
abbrev KX10_addNumber (l : Launch) (E : JE) (av : List Value) (f : Hp) (P : Option Value → Hp → Prop) : Prop := Ct l E yX10_addNumber cX10_addNumber 3 none rmX10_addNumber av f P
abbrev rmX10_length : Room := ⟨0, 0, 0, 0⟩
abbrev KX10_length (l : Launch) (E : JE) (av : List Value) (f : Hp) (P : Option Value → Hp → Prop) : Prop := Ct l E yX10_length cX10_length 1 (some .int) rmX10_length av f P
abbrev rmX11_end : Room := ⟨4, 0, 0, 51⟩
abbrev KX11_end (l : Launch) (E : JE) (av : List Value) (f : Hp) (P : Option Value → Hp → Prop) : Prop := Ct l E yX11_end cX11_end 2 (some .int) rmX11_end av f P
abbrev rmX10_cut : Room := ⟨3, 0, 0, 30⟩
abbrev KX10_cut (l : Launch) (E : JE) (av : List Value) (f : Hp) (P : Option Value → Hp → Prop) : Prop := Ct l E yX10_cut cX10_cut 2 none rmX10_cut av f P
abbrev rmX11_tables : Room := ⟨8, 0, 0, 181⟩
abbrev KX11_tables (l : Launch) (E : JE) (av : List Value) (f : Hp) (P : Option Value → Hp → Prop) : Prop := Ct l E yX11_tables cX11_tables 1 (some .int) rmX11_tables av f P
abbrev rmX9_draft : Room := ⟨0, 0, 0, 0⟩
abbrev KX9_draft (l : Launch) (E : JE) (av : List Value) (f : Hp) (P : Option Value → Hp → Prop) : Prop := Ct l E yX9_draft cX9_draft 1 (some (.object "TableStreams$Plan")) rmX9_draft av f P
abbrev rmX4_parse : Room := ⟨7, 0, 0, 156⟩
abbrev KX4_parse (l : Launch) (E : JE) (av : List Value) (f : Hp) (P : Option Value → Hp → Prop) : Prop := Ct l E yX4_parse cX4_parse 6 (some .int) rmX4_parse av f P
abbrev rmX5_clear : Room := ⟨0, 0, 0, 0⟩
abbrev KX5_clear (l : Launch) (E : JE) (av : List Value) (f : Hp) (P : Option Value → Hp → Prop) : Prop := Ct l E yX5_clear cX5_clear 1 none rmX5_clear av f P
abbrev rmX10_toFirstToken : Room := ⟨4, 0, 0, 50⟩
abbrev KX10_toFirstToken (l : Launch) (E : JE) (av : List Value) (f : Hp) (P : Option Value → Hp → Prop) : Prop := Ct l E yX10_toFirstToken cX10_toFirstToken 1 none rmX10_toFirstToken av f P
abbrev rmX10_toNextToken : Room := ⟨3, 0, 0, 30⟩
abbrev KX10_toNextToken (l : Launch) (E : JE) (av : List Value) (f : Hp) (P : Option Value → Hp → Prop) : Prop := Ct l E yX10_toNextToken cX10_toNextToken 1 none rmX10_toNextToken av f P
abbrev rmX10_isLetter : Room := ⟨0, 0, 0, 0⟩
abbrev KX10_isLetter (l : Launch) (E : JE) (av : List Value) (f : Hp) (P : Option Value → Hp → Prop) : Prop := Ct l E yX10_isLetter cX10_isLetter 2 (some .boolean) rmX10_isLetter av f P
abbrev rmX10_isDigit : Room := ⟨0, 0, 0, 0⟩
abbrev KX10_isDigit (l : Launch) (E : JE) (av : List Value) (f : Hp) (P : Option Value → Hp → Prop) : Prop := Ct l E yX10_isDigit cX10_isDigit 2 (some .boolean) rmX10_isDigit av f P
abbrev rmX5_at : Room := ⟨1, 0, 0, 22⟩
abbrev KX5_at (l : Launch) (E : JE) (av : List Value) (f : Hp) (P : Option Value → Hp → Prop) : Prop := Ct l E yX5_at cX5_at 2 (some (.object "TableStreams$Making")) rmX5_at av f P
abbrev rmX3_clear : Room := ⟨0, 0, 0, 0⟩
abbrev KX3_clear (l : Launch) (E : JE) (av : List Value) (f : Hp) (P : Option Value → Hp → Prop) : Prop := Ct l E yX3_clear cX3_clear 1 none rmX3_clear av f P
abbrev rmX4_takeNewName : Room := ⟨4, 0, 0, 50⟩
abbrev KX4_takeNewName (l : Launch) (E : JE) (av : List Value) (f : Hp) (P : Option Value → Hp → Prop) : Prop := Ct l E yX4_takeNewName cX4_takeNewName 3 (some .int) rmX4_takeNewName av f P
abbrev rmX10_letter : Room := ⟨1, 0, 0, 21⟩
abbrev KX10_letter (l : Launch) (E : JE) (av : List Value) (f : Hp) (P : Option Value → Hp → Prop) : Prop := Ct l E yX10_letter cX10_letter 1 (some .int) rmX10_letter av f P
abbrev rmX4_takeSign : Room := ⟨4, 0, 0, 50⟩
abbrev KX4_takeSign (l : Launch) (E : JE) (av : List Value) (f : Hp) (P : Option Value → Hp → Prop) : Prop := Ct l E yX4_takeSign cX4_takeSign 3 (some .boolean) rmX4_takeSign av f P
abbrev rmX10_isToken : Room := ⟨0, 0, 0, 0⟩
abbrev KX10_isToken (l : Launch) (E : JE) (av : List Value) (f : Hp) (P : Option Value → Hp → Prop) : Prop := Ct l E yX10_isToken cX10_isToken 2 (some .boolean) rmX10_isToken av f P
abbrev rmX4_takeKind : Room := ⟨4, 0, 0, 112⟩
abbrev KX4_takeKind (l : Launch) (E : JE) (av : List Value) (f : Hp) (P : Option Value → Hp → Prop) : Prop := Ct l E yX4_takeKind cX4_takeKind 4 (some .boolean) rmX4_takeKind av f P
abbrev rmX4_wordOf : Room := ⟨0, 0, 0, 0⟩
abbrev KX4_wordOf (l : Launch) (E : JE) (av : List Value) (f : Hp) (P : Option Value → Hp → Prop) : Prop := Ct l E yX4_wordOf cX4_wordOf 1 (some (.object "java/lang/String")) rmX4_wordOf av f P
abbrev rmX10_isToken_ : Room := ⟨3, 0, 0, 90⟩
abbrev KX10_isToken_ (l : Launch) (E : JE) (av : List Value) (f : Hp) (P : Option Value → Hp → Prop) : Prop := Ct l E yX10_isToken_ cX10_isToken_ 3 (some .boolean) rmX10_isToken_ av f P
abbrev rmX4_takeParts : Room := ⟨6, 0, 0, 134⟩
abbrev KX4_takeParts (l : Launch) (E : JE) (av : List Value) (f : Hp) (P : Option Value → Hp → Prop) : Prop := Ct l E yX4_takeParts cX4_takeParts 3 (some .boolean) rmX4_takeParts av f P
abbrev rmX4_takeDigits : Room := ⟨4, 0, 0, 52⟩
abbrev KX4_takeDigits (l : Launch) (E : JE) (av : List Value) (f : Hp) (P : Option Value → Hp → Prop) : Prop := Ct l E yX4_takeDigits cX4_takeDigits 6 (some .boolean) rmX4_takeDigits av f P
abbrev rmX10_digits : Room := ⟨3, 0, 0, 30⟩
abbrev KX10_digits (l : Launch) (E : JE) (av : List Value) (f : Hp) (P : Option Value → Hp → Prop) : Prop := Ct l E yX10_digits cX10_digits 3 (some .int) rmX10_digits av f P
abbrev rmX4_takeLeft : Room := ⟨5, 0, 0, 73⟩
abbrev KX4_takeLeft (l : Launch) (E : JE) (av : List Value) (f : Hp) (P : Option Value → Hp → Prop) : Prop := Ct l E yX4_takeLeft cX4_takeLeft 3 (some .boolean) rmX4_takeLeft av f P
abbrev rmX4_takeName : Room := ⟨4, 0, 0, 50⟩
abbrev KX4_takeName (l : Launch) (E : JE) (av : List Value) (f : Hp) (P : Option Value → Hp → Prop) : Prop := Ct l E yX4_takeName cX4_takeName 4 (some .int) rmX4_takeName av f P
abbrev rmX4_takeColumn : Room := ⟨4, 0, 0, 112⟩
abbrev KX4_takeColumn (l : Launch) (E : JE) (av : List Value) (f : Hp) (P : Option Value → Hp → Prop) : Prop := Ct l E yX4_takeColumn cX4_takeColumn 3 (some .boolean) rmX4_takeColumn av f P
abbrev rmX4_takeRelation : Room := ⟨5, 0, 0, 72⟩
abbrev KX4_takeRelation (l : Launch) (E : JE) (av : List Value) (f : Hp) (P : Option Value → Hp → Prop) : Prop := Ct l E yX4_takeRelation cX4_takeRelation 3 (some .boolean) rmX4_takeRelation av f P
abbrev rmX4_takeNumber : Room := ⟨5, 0, 0, 77⟩
abbrev KX4_takeNumber (l : Launch) (E : JE) (av : List Value) (f : Hp) (P : Option Value → Hp → Prop) : Prop := Ct l E yX4_takeNumber cX4_takeNumber 4 (some .boolean) rmX4_takeNumber av f P
abbrev rmX4_takeRight : Room := ⟨5, 0, 0, 73⟩
abbrev KX4_takeRight (l : Launch) (E : JE) (av : List Value) (f : Hp) (P : Option Value → Hp → Prop) : Prop := Ct l E yX4_takeRight cX4_takeRight 3 (some .boolean) rmX4_takeRight av f P
abbrev rmX10_place : Room := ⟨0, 0, 0, 0⟩
abbrev KX10_place (l : Launch) (E : JE) (av : List Value) (f : Hp) (P : Option Value → Hp → Prop) : Prop := Ct l E yX10_place cX10_place 1 (some .int) rmX10_place av f P
abbrev rmX5_add : Room := ⟨0, 0, 0, 0⟩
abbrev KX5_add (l : Launch) (E : JE) (av : List Value) (f : Hp) (P : Option Value → Hp → Prop) : Prop := Ct l E yX5_add cX5_add 1 none rmX5_add av f P
abbrev rmX10_isAtEnd : Room := ⟨0, 0, 0, 0⟩
abbrev KX10_isAtEnd (l : Launch) (E : JE) (av : List Value) (f : Hp) (P : Option Value → Hp → Prop) : Prop := Ct l E yX10_isAtEnd cX10_isAtEnd 1 (some .boolean) rmX10_isAtEnd av f P
abbrev rmX9_takeDraft : Room := ⟨0, 0, 0, 0⟩
abbrev KX9_takeDraft (l : Launch) (E : JE) (av : List Value) (f : Hp) (P : Option Value → Hp → Prop) : Prop := Ct l E yX9_takeDraft cX9_takeDraft 2 none rmX9_takeDraft av f P
abbrev rmX11_beginAnew : Room := ⟨2, 0, 0, 41⟩
abbrev KX11_beginAnew (l : Launch) (E : JE) (av : List Value) (f : Hp) (P : Option Value → Hp → Prop) : Prop := Ct l E yX11_beginAnew cX11_beginAnew 1 none rmX11_beginAnew av f P
abbrev rmX6_clear : Room := ⟨0, 0, 0, 0⟩
abbrev KX6_clear (l : Launch) (E : JE) (av : List Value) (f : Hp) (P : Option Value → Hp → Prop) : Prop := Ct l E yX6_clear cX6_clear 1 none rmX6_clear av f P
abbrev rmX0_clear : Room := ⟨0, 0, 0, 0⟩
abbrev KX0_clear (l : Launch) (E : JE) (av : List Value) (f : Hp) (P : Option Value → Hp → Prop) : Prop := Ct l E yX0_clear cX0_clear 1 none rmX0_clear av f P
abbrev rmX9_clear : Room := ⟨1, 0, 0, 20⟩
abbrev KX9_clear (l : Launch) (E : JE) (av : List Value) (f : Hp) (P : Option Value → Hp → Prop) : Prop := Ct l E yX9_clear cX9_clear 2 none rmX9_clear av f P
abbrev rmX8_clear : Room := ⟨0, 0, 0, 0⟩
abbrev KX8_clear (l : Launch) (E : JE) (av : List Value) (f : Hp) (P : Option Value → Hp → Prop) : Prop := Ct l E yX8_clear cX8_clear 1 none rmX8_clear av f P
abbrev rmX9_size : Room := ⟨1, 0, 0, 20⟩
abbrev KX9_size (l : Launch) (E : JE) (av : List Value) (f : Hp) (P : Option Value → Hp → Prop) : Prop := Ct l E yX9_size cX9_size 1 (some .int) rmX9_size av f P
abbrev rmX5_size : Room := ⟨0, 0, 0, 0⟩
abbrev KX5_size (l : Launch) (E : JE) (av : List Value) (f : Hp) (P : Option Value → Hp → Prop) : Prop := Ct l E yX5_size cX5_size 1 (some .int) rmX5_size av f P
abbrev rmX11_fault : Room := ⟨0, 0, 0, 0⟩
abbrev KX11_fault (l : Launch) (E : JE) (av : List Value) (f : Hp) (P : Option Value → Hp → Prop) : Prop := Ct l E yX11_fault cX11_fault 1 (some .int) rmX11_fault av f P
abbrev rmX11_late : Room := ⟨3, 0, 0, 61⟩
abbrev KX11_late (l : Launch) (E : JE) (av : List Value) (f : Hp) (P : Option Value → Hp → Prop) : Prop := Ct l E yX11_late cX11_late 3 (some .int) rmX11_late av f P
abbrev rmX11_read : Room := ⟨7, 0, 0, 156⟩
abbrev KX11_read (l : Launch) (E : JE) (av : List Value) (f : Hp) (P : Option Value → Hp → Prop) : Prop := Ct l E yX11_read cX11_read 4 (some .int) rmX11_read av f P
abbrev rmX6_rowsRead : Room := ⟨0, 0, 0, 0⟩
abbrev KX6_rowsRead (l : Launch) (E : JE) (av : List Value) (f : Hp) (P : Option Value → Hp → Prop) : Prop := Ct l E yX6_rowsRead cX6_rowsRead 1 (some .int) rmX6_rowsRead av f P
abbrev rmX11_readNext : Room := ⟨6, 0, 0, 131⟩
abbrev KX11_readNext (l : Launch) (E : JE) (av : List Value) (f : Hp) (P : Option Value → Hp → Prop) : Prop := Ct l E yX11_readNext cX11_readNext 6 (some .boolean) rmX11_readNext av f P
abbrev rmX2_rowAt : Room := ⟨1, 0, 0, 22⟩
abbrev KX2_rowAt (l : Launch) (E : JE) (av : List Value) (f : Hp) (P : Option Value → Hp → Prop) : Prop := Ct l E yX2_rowAt cX2_rowAt 2 (some .long) rmX2_rowAt av f P
abbrev rmX7_timeOf : Room := ⟨0, 0, 0, 0⟩
abbrev KX7_timeOf (l : Launch) (E : JE) (av : List Value) (f : Hp) (P : Option Value → Hp → Prop) : Prop := Ct l E yX7_timeOf cX7_timeOf 2 (some .int) rmX7_timeOf av f P
abbrev rmX6_greatestTime : Room := ⟨0, 0, 0, 0⟩
abbrev KX6_greatestTime (l : Launch) (E : JE) (av : List Value) (f : Hp) (P : Option Value → Hp → Prop) : Prop := Ct l E yX6_greatestTime cX6_greatestTime 1 (some .int) rmX6_greatestTime av f P
abbrev rmX2_sourceAt : Room := ⟨1, 0, 0, 22⟩
abbrev KX2_sourceAt (l : Launch) (E : JE) (av : List Value) (f : Hp) (P : Option Value → Hp → Prop) : Prop := Ct l E yX2_sourceAt cX2_sourceAt 2 (some .int) rmX2_sourceAt av f P
abbrev rmX9_offer : Room := ⟨5, 0, 0, 105⟩
abbrev KX9_offer (l : Launch) (E : JE) (av : List Value) (f : Hp) (P : Option Value → Hp → Prop) : Prop := Ct l E yX9_offer cX9_offer 7 (some .boolean) rmX9_offer av f P
abbrev rmX9_touches : Room := ⟨2, 0, 0, 43⟩
abbrev KX9_touches (l : Launch) (E : JE) (av : List Value) (f : Hp) (P : Option Value → Hp → Prop) : Prop := Ct l E yX9_touches cX9_touches 2 (some .boolean) rmX9_touches av f P
abbrev rmX9_has : Room := ⟨1, 0, 0, 22⟩
abbrev KX9_has (l : Launch) (E : JE) (av : List Value) (f : Hp) (P : Option Value → Hp → Prop) : Prop := Ct l E yX9_has cX9_has 2 (some .boolean) rmX9_has av f P
abbrev rmX8_copy : Room := ⟨3, 0, 0, 30⟩
abbrev KX8_copy (l : Launch) (E : JE) (av : List Value) (f : Hp) (P : Option Value → Hp → Prop) : Prop := Ct l E yX8_copy cX8_copy 2 none rmX8_copy av f P
abbrev rmX8_add : Room := ⟨0, 0, 0, 0⟩
abbrev KX8_add (l : Launch) (E : JE) (av : List Value) (f : Hp) (P : Option Value → Hp → Prop) : Prop := Ct l E yX8_add cX8_add 3 none rmX8_add av f P
abbrev rmX9_offeredOf : Room := ⟨3, 0, 0, 64⟩
abbrev KX9_offeredOf (l : Launch) (E : JE) (av : List Value) (f : Hp) (P : Option Value → Hp → Prop) : Prop := Ct l E yX9_offeredOf cX9_offeredOf 2 (some (.object "TableStreams$Rows")) rmX9_offeredOf av f P
abbrev rmX9_rowsOf : Room := ⟨2, 0, 0, 43⟩
abbrev KX9_rowsOf (l : Launch) (E : JE) (av : List Value) (f : Hp) (P : Option Value → Hp → Prop) : Prop := Ct l E yX9_rowsOf cX9_rowsOf 2 (some (.object "TableStreams$Rows")) rmX9_rowsOf av f P
abbrev rmX3_fill : Room := ⟨4, 0, 0, 81⟩
abbrev KX3_fill (l : Launch) (E : JE) (av : List Value) (f : Hp) (P : Option Value → Hp → Prop) : Prop := Ct l E yX3_fill cX3_fill 5 none rmX3_fill av f P
abbrev rmX3_fillByGroup : Room := ⟨2, 0, 0, 48⟩
abbrev KX3_fillByGroup (l : Launch) (E : JE) (av : List Value) (f : Hp) (P : Option Value → Hp → Prop) : Prop := Ct l E yX3_fillByGroup cX3_fillByGroup 12 none rmX3_fillByGroup av f P
abbrev rmX8_size : Room := ⟨0, 0, 0, 0⟩
abbrev KX8_size (l : Launch) (E : JE) (av : List Value) (f : Hp) (P : Option Value → Hp → Prop) : Prop := Ct l E yX8_size cX8_size 1 (some .int) rmX8_size av f P
abbrev rmX8_at : Room := ⟨1, 0, 0, 22⟩
abbrev KX8_at (l : Launch) (E : JE) (av : List Value) (f : Hp) (P : Option Value → Hp → Prop) : Prop := Ct l E yX8_at cX8_at 2 (some .long) rmX8_at av f P
abbrev rmX7_valueOf : Room := ⟨0, 0, 0, 0⟩
abbrev KX7_valueOf (l : Launch) (E : JE) (av : List Value) (f : Hp) (P : Option Value → Hp → Prop) : Prop := Ct l E yX7_valueOf cX7_valueOf 2 (some .int) rmX7_valueOf av f P
abbrev rmX7_groupOf : Room := ⟨0, 0, 0, 0⟩
abbrev KX7_groupOf (l : Launch) (E : JE) (av : List Value) (f : Hp) (P : Option Value → Hp → Prop) : Prop := Ct l E yX7_groupOf cX7_groupOf 2 (some .long) rmX7_groupOf av f P
abbrev rmX7_keyOf : Room := ⟨0, 0, 0, 0⟩
abbrev KX7_keyOf (l : Launch) (E : JE) (av : List Value) (f : Hp) (P : Option Value → Hp → Prop) : Prop := Ct l E yX7_keyOf cX7_keyOf 2 (some .int) rmX7_keyOf av f P
abbrev rmX8_add_ : Room := ⟨1, 0, 0, 24⟩
abbrev KX8_add_ (l : Launch) (E : JE) (av : List Value) (f : Hp) (P : Option Value → Hp → Prop) : Prop := Ct l E yX8_add_ cX8_add_ 5 none rmX8_add_ av f P
abbrev rmX3_fillByKey : Room := ⟨2, 0, 0, 43⟩
abbrev KX3_fillByKey (l : Launch) (E : JE) (av : List Value) (f : Hp) (P : Option Value → Hp → Prop) : Prop := Ct l E yX3_fillByKey cX3_fillByKey 6 none rmX3_fillByKey av f P
abbrev rmX3_fillByPairs : Room := ⟨3, 0, 0, 48⟩
abbrev KX3_fillByPairs (l : Launch) (E : JE) (av : List Value) (f : Hp) (P : Option Value → Hp → Prop) : Prop := Ct l E yX3_fillByPairs cX3_fillByPairs 14 none rmX3_fillByPairs av f P
abbrev rmX8_isFull : Room := ⟨0, 0, 0, 0⟩
abbrev KX8_isFull (l : Launch) (E : JE) (av : List Value) (f : Hp) (P : Option Value → Hp → Prop) : Prop := Ct l E yX8_isFull cX8_isFull 1 (some .boolean) rmX8_isFull av f P
abbrev rmX8_keys : Room := ⟨1, 0, 0, 21⟩
abbrev KX8_keys (l : Launch) (E : JE) (av : List Value) (f : Hp) (P : Option Value → Hp → Prop) : Prop := Ct l E yX8_keys cX8_keys 3 (some .int) rmX8_keys av f P
abbrev rmX3_fillWithout : Room := ⟨2, 0, 0, 43⟩
abbrev KX3_fillWithout (l : Launch) (E : JE) (av : List Value) (f : Hp) (P : Option Value → Hp → Prop) : Prop := Ct l E yX3_fillWithout cX3_fillWithout 7 none rmX3_fillWithout av f P
abbrev rmX3_addOne : Room := ⟨2, 0, 0, 48⟩
abbrev KX3_addOne (l : Launch) (E : JE) (av : List Value) (f : Hp) (P : Option Value → Hp → Prop) : Prop := Ct l E yX3_addOne cX3_addOne 8 none rmX3_addOne av f P
abbrev rmX7_partOf : Room := ⟨1, 0, 0, 21⟩
abbrev KX7_partOf (l : Launch) (E : JE) (av : List Value) (f : Hp) (P : Option Value → Hp → Prop) : Prop := Ct l E yX7_partOf cX7_partOf 3 (some .int) rmX7_partOf av f P
abbrev rmX3_holdsOf : Room := ⟨0, 0, 0, 0⟩
abbrev KX3_holdsOf (l : Launch) (E : JE) (av : List Value) (f : Hp) (P : Option Value → Hp → Prop) : Prop := Ct l E yX3_holdsOf cX3_holdsOf 2 (some .boolean) rmX3_holdsOf av f P
abbrev rmX8_sort : Room := ⟨4, 0, 0, 58⟩
abbrev KX8_sort (l : Launch) (E : JE) (av : List Value) (f : Hp) (P : Option Value → Hp → Prop) : Prop := Ct l E yX8_sort cX8_sort 4 none rmX8_sort av f P
abbrev rmX8_merge : Room := ⟨3, 0, 0, 30⟩
abbrev KX8_merge (l : Launch) (E : JE) (av : List Value) (f : Hp) (P : Option Value → Hp → Prop) : Prop := Ct l E yX8_merge cX8_merge 9 none rmX8_merge av f P
abbrev rmX9_answer : Room := ⟨3, 0, 0, 64⟩
abbrev KX9_answer (l : Launch) (E : JE) (av : List Value) (f : Hp) (P : Option Value → Hp → Prop) : Prop := Ct l E yX9_answer cX9_answer 1 (some (.object "TableStreams$Rows")) rmX9_answer av f P
abbrev rmX9_answerOffered : Room := ⟨4, 0, 0, 85⟩
abbrev KX9_answerOffered (l : Launch) (E : JE) (av : List Value) (f : Hp) (P : Option Value → Hp → Prop) : Prop := Ct l E yX9_answerOffered cX9_answerOffered 1 (some (.object "TableStreams$Rows")) rmX9_answerOffered av f P
abbrev rmX0_addDifference : Room := ⟨3, 0, 0, 70⟩
abbrev KX0_addDifference (l : Launch) (E : JE) (av : List Value) (f : Hp) (P : Option Value → Hp → Prop) : Prop := Ct l E yX0_addDifference cX0_addDifference 4 (some .boolean) rmX0_addDifference av f P
abbrev rmX0_addMissing : Room := ⟨2, 0, 0, 43⟩
abbrev KX0_addMissing (l : Launch) (E : JE) (av : List Value) (f : Hp) (P : Option Value → Hp → Prop) : Prop := Ct l E yX0_addMissing cX0_addMissing 8 (some .boolean) rmX0_addMissing av f P
abbrev rmX9_acceptOffer : Room := ⟨1, 0, 0, 20⟩
abbrev KX9_acceptOffer (l : Launch) (E : JE) (av : List Value) (f : Hp) (P : Option Value → Hp → Prop) : Prop := Ct l E yX9_acceptOffer cX9_acceptOffer 3 none rmX9_acceptOffer av f P
abbrev rmX6_step : Room := ⟨3, 0, 0, 30⟩
abbrev KX6_step (l : Launch) (E : JE) (av : List Value) (f : Hp) (P : Option Value → Hp → Prop) : Prop := Ct l E yX6_step cX6_step 3 none rmX6_step av f P
abbrev rmX11_mark : Room := ⟨5, 0, 0, 72⟩
abbrev KX11_mark (l : Launch) (E : JE) (av : List Value) (f : Hp) (P : Option Value → Hp → Prop) : Prop := Ct l E yX11_mark cX11_mark 1 (some .int) rmX11_mark av f P
abbrev rmX0_addAll : Room := ⟨3, 0, 0, 30⟩
abbrev KX0_addAll (l : Launch) (E : JE) (av : List Value) (f : Hp) (P : Option Value → Hp → Prop) : Prop := Ct l E yX0_addAll cX0_addAll 2 (some .boolean) rmX0_addAll av f P
abbrev rmX6_copy : Room := ⟨0, 0, 0, 0⟩
abbrev KX6_copy (l : Launch) (E : JE) (av : List Value) (f : Hp) (P : Option Value → Hp → Prop) : Prop := Ct l E yX6_copy cX6_copy 2 none rmX6_copy av f P
abbrev rmX9_keep : Room := ⟨4, 0, 0, 51⟩
abbrev KX9_keep (l : Launch) (E : JE) (av : List Value) (f : Hp) (P : Option Value → Hp → Prop) : Prop := Ct l E yX9_keep cX9_keep 2 none rmX9_keep av f P
abbrev rmX0_size : Room := ⟨0, 0, 0, 0⟩
abbrev KX0_size (l : Launch) (E : JE) (av : List Value) (f : Hp) (P : Option Value → Hp → Prop) : Prop := Ct l E yX0_size cX0_size 1 (some .int) rmX0_size av f P
abbrev rmX11_fall : Room := ⟨5, 0, 0, 72⟩
abbrev KX11_fall (l : Launch) (E : JE) (av : List Value) (f : Hp) (P : Option Value → Hp → Prop) : Prop := Ct l E yX11_fall cX11_fall 1 (some .int) rmX11_fall av f P
abbrev rmX9_restore : Room := ⟨4, 0, 0, 51⟩
abbrev KX9_restore (l : Launch) (E : JE) (av : List Value) (f : Hp) (P : Option Value → Hp → Prop) : Prop := Ct l E yX9_restore cX9_restore 2 none rmX9_restore av f P
abbrev rmX11_rows : Room := ⟨3, 0, 0, 64⟩
abbrev KX11_rows (l : Launch) (E : JE) (av : List Value) (f : Hp) (P : Option Value → Hp → Prop) : Prop := Ct l E yX11_rows cX11_rows 2 (some .int) rmX11_rows av f P
abbrev rmX11_row : Room := ⟨3, 0, 0, 64⟩
abbrev KX11_row (l : Launch) (E : JE) (av : List Value) (f : Hp) (P : Option Value → Hp → Prop) : Prop := Ct l E yX11_row cX11_row 4 (some .int) rmX11_row av f P
abbrev rmX11_out : Room := ⟨3, 0, 0, 65⟩
abbrev KX11_out (l : Launch) (E : JE) (av : List Value) (f : Hp) (P : Option Value → Hp → Prop) : Prop := Ct l E yX11_out cX11_out 3 (some .int) rmX11_out av f P
abbrev rmX0_partOf : Room := ⟨2, 0, 0, 43⟩
abbrev KX0_partOf (l : Launch) (E : JE) (av : List Value) (f : Hp) (P : Option Value → Hp → Prop) : Prop := Ct l E yX0_partOf cX0_partOf 3 (some .int) rmX0_partOf av f P
abbrev rmX11_host : Room := ⟨3, 0, 0, 67⟩
abbrev KX11_host (l : Launch) (E : JE) (av : List Value) (f : Hp) (P : Option Value → Hp → Prop) : Prop := Ct l E yX11_host cX11_host 3 (some .int) rmX11_host av f P
abbrev rmX1_has : Room := ⟨1, 0, 0, 22⟩
abbrev KX1_has (l : Launch) (E : JE) (av : List Value) (f : Hp) (P : Option Value → Hp → Prop) : Prop := Ct l E yX1_has cX1_has 2 (some .boolean) rmX1_has av f P
abbrev rmX1_size : Room := ⟨0, 0, 0, 0⟩
abbrev KX1_size (l : Launch) (E : JE) (av : List Value) (f : Hp) (P : Option Value → Hp → Prop) : Prop := Ct l E yX1_size cX1_size 1 (some .int) rmX1_size av f P
abbrev rmX1_change : Room := ⟨1, 0, 0, 25⟩
abbrev KX1_change (l : Launch) (E : JE) (av : List Value) (f : Hp) (P : Option Value → Hp → Prop) : Prop := Ct l E yX1_change cX1_change 6 (some .int) rmX1_change av f P
abbrev rmX1_choose : Room := ⟨0, 0, 0, 0⟩
abbrev KX1_choose (l : Launch) (E : JE) (av : List Value) (f : Hp) (P : Option Value → Hp → Prop) : Prop := Ct l E yX1_choose cX1_choose 6 (some .int) rmX1_choose av f P
abbrev rmX9_countOfKeys : Room := ⟨2, 0, 0, 44⟩
abbrev KX9_countOfKeys (l : Launch) (E : JE) (av : List Value) (f : Hp) (P : Option Value → Hp → Prop) : Prop := Ct l E yX9_countOfKeys cX9_countOfKeys 4 (some .int) rmX9_countOfKeys av f P
abbrev rmX8_countOfKeys : Room := ⟨1, 0, 0, 21⟩
abbrev KX8_countOfKeys (l : Launch) (E : JE) (av : List Value) (f : Hp) (P : Option Value → Hp → Prop) : Prop := Ct l E yX8_countOfKeys cX8_countOfKeys 4 (some .int) rmX8_countOfKeys av f P
abbrev rmX11_owner : Room := ⟨2, 0, 0, 43⟩
abbrev KX11_owner (l : Launch) (E : JE) (av : List Value) (f : Hp) (P : Option Value → Hp → Prop) : Prop := Ct l E yX11_owner cX11_owner 2 (some .int) rmX11_owner av f P
abbrev rmX1_ownerOf : Room := ⟨1, 0, 0, 22⟩
abbrev KX1_ownerOf (l : Launch) (E : JE) (av : List Value) (f : Hp) (P : Option Value → Hp → Prop) : Prop := Ct l E yX1_ownerOf cX1_ownerOf 2 (some .int) rmX1_ownerOf av f P
abbrev rmX11_owns : Room := ⟨3, 0, 0, 67⟩
abbrev KX11_owns (l : Launch) (E : JE) (av : List Value) (f : Hp) (P : Option Value → Hp → Prop) : Prop := Ct l E yX11_owns cX11_owns 2 (some .int) rmX11_owns av f P
abbrev rmX1_keysOf : Room := ⟨0, 0, 0, 0⟩
abbrev KX1_keysOf (l : Launch) (E : JE) (av : List Value) (f : Hp) (P : Option Value → Hp → Prop) : Prop := Ct l E yX1_keysOf cX1_keysOf 4 (some .int) rmX1_keysOf av f P
abbrev rmX11_count : Room := ⟨2, 0, 0, 40⟩
abbrev KX11_count (l : Launch) (E : JE) (av : List Value) (f : Hp) (P : Option Value → Hp → Prop) : Prop := Ct l E yX11_count cX11_count 2 (some .int) rmX11_count av f P
abbrev rmX6_rowsLate : Room := ⟨0, 0, 0, 0⟩
abbrev KX6_rowsLate (l : Launch) (E : JE) (av : List Value) (f : Hp) (P : Option Value → Hp → Prop) : Prop := Ct l E yX6_rowsLate cX6_rowsLate 1 (some .int) rmX6_rowsLate av f P
abbrev rmX11_status : Room := ⟨0, 0, 0, 0⟩
abbrev KX11_status (l : Launch) (E : JE) (av : List Value) (f : Hp) (P : Option Value → Hp → Prop) : Prop := Ct l E yX11_status cX11_status 1 (some .int) rmX11_status av f P
abbrev rmX12_init : Room := ⟨3, 33, 62020, 30⟩
abbrev KX12_init (l : Launch) (E : JE) (av : List Value) (f : Hp) (P : Option Value → Hp → Prop) : Prop := Ct l E yX12_init cX12_init 1 none rmX12_init av f P
abbrev rmX12_tell : Room := ⟨1, 0, 0, 25⟩
abbrev KX12_tell (l : Launch) (E : JE) (av : List Value) (f : Hp) (P : Option Value → Hp → Prop) : Prop := Ct l E yX12_tell cX12_tell 5 (some .int) rmX12_tell av f P
abbrev rmX12_in : Room := ⟨0, 0, 0, 0⟩
abbrev KX12_in (l : Launch) (E : JE) (av : List Value) (f : Hp) (P : Option Value → Hp → Prop) : Prop := Ct l E yX12_in cX12_in 6 (some .boolean) rmX12_in av f P
abbrev rmX12_told : Room := ⟨0, 0, 0, 0⟩
abbrev KX12_told (l : Launch) (E : JE) (av : List Value) (f : Hp) (P : Option Value → Hp → Prop) : Prop := Ct l E yX12_told cX12_told 2 (some .int) rmX12_told av f P
abbrev rmX12_read : Room := ⟨6, 0, 0, 147⟩
abbrev KX12_read (l : Launch) (E : JE) (av : List Value) (f : Hp) (P : Option Value → Hp → Prop) : Prop := Ct l E yX12_read cX12_read 4 (some .int) rmX12_read av f P
abbrev rmX12_readOne : Room := ⟨5, 0, 0, 125⟩
abbrev KX12_readOne (l : Launch) (E : JE) (av : List Value) (f : Hp) (P : Option Value → Hp → Prop) : Prop := Ct l E yX12_readOne cX12_readOne 3 (some .boolean) rmX12_readOne av f P
abbrev rmX12_latest : Room := ⟨0, 0, 0, 0⟩
abbrev KX12_latest (l : Launch) (E : JE) (av : List Value) (f : Hp) (P : Option Value → Hp → Prop) : Prop := Ct l E yX12_latest cX12_latest 4 (some .int) rmX12_latest av f P
abbrev rmX12_makeAll : Room := ⟨4, 0, 0, 103⟩
abbrev KX12_makeAll (l : Launch) (E : JE) (av : List Value) (f : Hp) (P : Option Value → Hp → Prop) : Prop := Ct l E yX12_makeAll cX12_makeAll 3 (some .boolean) rmX12_makeAll av f P
abbrev rmX12_make : Room := ⟨3, 0, 0, 80⟩
abbrev KX12_make (l : Launch) (E : JE) (av : List Value) (f : Hp) (P : Option Value → Hp → Prop) : Prop := Ct l E yX12_make cX12_make 4 none rmX12_make av f P
abbrev rmX12_add : Room := ⟨1, 0, 0, 25⟩
abbrev KX12_add (l : Launch) (E : JE) (av : List Value) (f : Hp) (P : Option Value → Hp → Prop) : Prop := Ct l E yX12_add cX12_add 7 none rmX12_add av f P
abbrev rmX12_isBefore : Room := ⟨0, 0, 0, 0⟩
abbrev KX12_isBefore (l : Launch) (E : JE) (av : List Value) (f : Hp) (P : Option Value → Hp → Prop) : Prop := Ct l E yX12_isBefore cX12_isBefore 5 (some .boolean) rmX12_isBefore av f P
abbrev rmX12_makeEach : Room := ⟨2, 0, 0, 51⟩
abbrev KX12_makeEach (l : Launch) (E : JE) (av : List Value) (f : Hp) (P : Option Value → Hp → Prop) : Prop := Ct l E yX12_makeEach cX12_makeEach 5 none rmX12_makeEach av f P
abbrev rmX12_makeHeaps : Room := ⟨2, 0, 0, 51⟩
abbrev KX12_makeHeaps (l : Launch) (E : JE) (av : List Value) (f : Hp) (P : Option Value → Hp → Prop) : Prop := Ct l E yX12_makeHeaps cX12_makeHeaps 10 none rmX12_makeHeaps av f P
abbrev rmX12_makeOfTwo : Room := ⟨2, 0, 0, 51⟩
abbrev KX12_makeOfTwo (l : Launch) (E : JE) (av : List Value) (f : Hp) (P : Option Value → Hp → Prop) : Prop := Ct l E yX12_makeOfTwo cX12_makeOfTwo 7 none rmX12_makeOfTwo av f P
abbrev rmX12_change : Room := ⟨1, 0, 0, 22⟩
abbrev KX12_change (l : Launch) (E : JE) (av : List Value) (f : Hp) (P : Option Value → Hp → Prop) : Prop := Ct l E yX12_change cX12_change 6 (some .boolean) rmX12_change av f P
abbrev rmX12_order : Room := ⟨0, 0, 0, 0⟩
abbrev KX12_order (l : Launch) (E : JE) (av : List Value) (f : Hp) (P : Option Value → Hp → Prop) : Prop := Ct l E yX12_order cX12_order 3 (some .int) rmX12_order av f P
abbrev rmX12_keep : Room := ⟨0, 0, 0, 0⟩
abbrev KX12_keep (l : Launch) (E : JE) (av : List Value) (f : Hp) (P : Option Value → Hp → Prop) : Prop := Ct l E yX12_keep cX12_keep 3 none rmX12_keep av f P
abbrev rmX12_mark : Room := ⟨1, 0, 0, 21⟩
abbrev KX12_mark (l : Launch) (E : JE) (av : List Value) (f : Hp) (P : Option Value → Hp → Prop) : Prop := Ct l E yX12_mark cX12_mark 2 (some .int) rmX12_mark av f P
abbrev rmX12_fall : Room := ⟨6, 0, 0, 146⟩
abbrev KX12_fall (l : Launch) (E : JE) (av : List Value) (f : Hp) (P : Option Value → Hp → Prop) : Prop := Ct l E yX12_fall cX12_fall 1 (some .int) rmX12_fall av f P
abbrev rmX12_goTo : Room := ⟨5, 0, 0, 125⟩
abbrev KX12_goTo (l : Launch) (E : JE) (av : List Value) (f : Hp) (P : Option Value → Hp → Prop) : Prop := Ct l E yX12_goTo cX12_goTo 2 none rmX12_goTo av f P
abbrev rmX12_late : Room := ⟨7, 0, 0, 166⟩
abbrev KX12_late (l : Launch) (E : JE) (av : List Value) (f : Hp) (P : Option Value → Hp → Prop) : Prop := Ct l E yX12_late cX12_late 3 (some .int) rmX12_late av f P
abbrev rmX12_begin : Room := ⟨6, 0, 0, 146⟩
abbrev KX12_begin (l : Launch) (E : JE) (av : List Value) (f : Hp) (P : Option Value → Hp → Prop) : Prop := Ct l E yX12_begin cX12_begin 1 none rmX12_begin av f P
abbrev rmX12_feed : Room := ⟨1, 0, 0, 22⟩
abbrev KX12_feed (l : Launch) (E : JE) (av : List Value) (f : Hp) (P : Option Value → Hp → Prop) : Prop := Ct l E yX12_feed cX12_feed 6 (some .int) rmX12_feed av f P
abbrev rmX12_four : Room := ⟨0, 0, 0, 0⟩
abbrev KX12_four (l : Launch) (E : JE) (av : List Value) (f : Hp) (P : Option Value → Hp → Prop) : Prop := Ct l E yX12_four cX12_four 3 none rmX12_four av f P
abbrev rmX12_end : Room := ⟨0, 0, 0, 0⟩
abbrev KX12_end (l : Launch) (E : JE) (av : List Value) (f : Hp) (P : Option Value → Hp → Prop) : Prop := Ct l E yX12_end cX12_end 2 (some .int) rmX12_end av f P
abbrev rmX12_tables : Room := ⟨7, 0, 0, 166⟩
abbrev KX12_tables (l : Launch) (E : JE) (av : List Value) (f : Hp) (P : Option Value → Hp → Prop) : Prop := Ct l E yX12_tables cX12_tables 2 (some .int) rmX12_tables av f P
abbrev rmX12_next : Room := ⟨1, 0, 0, 20⟩
abbrev KX12_next (l : Launch) (E : JE) (av : List Value) (f : Hp) (P : Option Value → Hp → Prop) : Prop := Ct l E yX12_next cX12_next 1 none rmX12_next av f P
abbrev rmX12_isSmall : Room := ⟨0, 0, 0, 0⟩
abbrev KX12_isSmall (l : Launch) (E : JE) (av : List Value) (f : Hp) (P : Option Value → Hp → Prop) : Prop := Ct l E yX12_isSmall cX12_isSmall 1 (some .boolean) rmX12_isSmall av f P
abbrev rmX12_isDigit : Room := ⟨0, 0, 0, 0⟩
abbrev KX12_isDigit (l : Launch) (E : JE) (av : List Value) (f : Hp) (P : Option Value → Hp → Prop) : Prop := Ct l E yX12_isDigit cX12_isDigit 1 (some .boolean) rmX12_isDigit av f P
abbrev rmX12_readTable : Room := ⟨5, 0, 0, 108⟩
abbrev KX12_readTable (l : Launch) (E : JE) (av : List Value) (f : Hp) (P : Option Value → Hp → Prop) : Prop := Ct l E yX12_readTable cX12_readTable 7 none rmX12_readTable av f P
abbrev rmX12_isName : Room := ⟨0, 0, 0, 0⟩
abbrev KX12_isName (l : Launch) (E : JE) (av : List Value) (f : Hp) (P : Option Value → Hp → Prop) : Prop := Ct l E yX12_isName cX12_isName 1 (some .boolean) rmX12_isName av f P
abbrev rmX12_must : Room := ⟨2, 0, 0, 40⟩
abbrev KX12_must (l : Launch) (E : JE) (av : List Value) (f : Hp) (P : Option Value → Hp → Prop) : Prop := Ct l E yX12_must cX12_must 2 none rmX12_must av f P
abbrev rmX12_isSign : Room := ⟨0, 0, 0, 0⟩
abbrev KX12_isSign (l : Launch) (E : JE) (av : List Value) (f : Hp) (P : Option Value → Hp → Prop) : Prop := Ct l E yX12_isSign cX12_isSign 2 (some .boolean) rmX12_isSign av f P
abbrev rmX12_kindAt : Room := ⟨1, 0, 0, 28⟩
abbrev KX12_kindAt (l : Launch) (E : JE) (av : List Value) (f : Hp) (P : Option Value → Hp → Prop) : Prop := Ct l E yX12_kindAt cX12_kindAt 1 (some .int) rmX12_kindAt av f P
abbrev rmX12_isWord : Room := ⟨0, 0, 0, 0⟩
abbrev KX12_isWord (l : Launch) (E : JE) (av : List Value) (f : Hp) (P : Option Value → Hp → Prop) : Prop := Ct l E yX12_isWord cX12_isWord 9 (some .boolean) rmX12_isWord av f P
abbrev rmX12_number : Room := ⟨3, 0, 0, 61⟩
abbrev KX12_number (l : Launch) (E : JE) (av : List Value) (f : Hp) (P : Option Value → Hp → Prop) : Prop := Ct l E yX12_number cX12_number 6 (some .int) rmX12_number av f P
abbrev rmX12_name : Room := ⟨3, 0, 0, 61⟩
abbrev KX12_name (l : Launch) (E : JE) (av : List Value) (f : Hp) (P : Option Value → Hp → Prop) : Prop := Ct l E yX12_name cX12_name 2 (some .int) rmX12_name av f P
abbrev rmX12_signed : Room := ⟨4, 0, 0, 86⟩
abbrev KX12_signed (l : Launch) (E : JE) (av : List Value) (f : Hp) (P : Option Value → Hp → Prop) : Prop := Ct l E yX12_signed cX12_signed 3 (some .int) rmX12_signed av f P
abbrev rmX12_fault : Room := ⟨0, 0, 0, 0⟩
abbrev KX12_fault (l : Launch) (E : JE) (av : List Value) (f : Hp) (P : Option Value → Hp → Prop) : Prop := Ct l E yX12_fault cX12_fault 1 (some .int) rmX12_fault av f P
abbrev rmX12_rows : Room := ⟨2, 0, 0, 46⟩
abbrev KX12_rows (l : Launch) (E : JE) (av : List Value) (f : Hp) (P : Option Value → Hp → Prop) : Prop := Ct l E yX12_rows cX12_rows 2 (some .int) rmX12_rows av f P
abbrev rmX12_isTable : Room := ⟨1, 0, 0, 25⟩
abbrev KX12_isTable (l : Launch) (E : JE) (av : List Value) (f : Hp) (P : Option Value → Hp → Prop) : Prop := Ct l E yX12_isTable cX12_isTable 2 (some .boolean) rmX12_isTable av f P
abbrev rmX12_row : Room := ⟨2, 0, 0, 46⟩
abbrev KX12_row (l : Launch) (E : JE) (av : List Value) (f : Hp) (P : Option Value → Hp → Prop) : Prop := Ct l E yX12_row cX12_row 5 (some .int) rmX12_row av f P
abbrev rmX12_out : Room := ⟨1, 0, 0, 25⟩
abbrev KX12_out (l : Launch) (E : JE) (av : List Value) (f : Hp) (P : Option Value → Hp → Prop) : Prop := Ct l E yX12_out cX12_out 3 (some .int) rmX12_out av f P
abbrev rmX12_host : Room := ⟨1, 0, 0, 25⟩
abbrev KX12_host (l : Launch) (E : JE) (av : List Value) (f : Hp) (P : Option Value → Hp → Prop) : Prop := Ct l E yX12_host cX12_host 7 (some .int) rmX12_host av f P
abbrev rmX12_ownerBy : Room := ⟨0, 0, 0, 0⟩
abbrev KX12_ownerBy (l : Launch) (E : JE) (av : List Value) (f : Hp) (P : Option Value → Hp → Prop) : Prop := Ct l E yX12_ownerBy cX12_ownerBy 6 (some .int) rmX12_ownerBy av f P
abbrev rmX12_owner : Room := ⟨1, 0, 0, 25⟩
abbrev KX12_owner (l : Launch) (E : JE) (av : List Value) (f : Hp) (P : Option Value → Hp → Prop) : Prop := Ct l E yX12_owner cX12_owner 2 (some .int) rmX12_owner av f P
abbrev rmX12_owns : Room := ⟨1, 0, 0, 25⟩
abbrev KX12_owns (l : Launch) (E : JE) (av : List Value) (f : Hp) (P : Option Value → Hp → Prop) : Prop := Ct l E yX12_owns cX12_owns 5 (some .int) rmX12_owns av f P
abbrev rmX12_count : Room := ⟨1, 0, 0, 23⟩
abbrev KX12_count (l : Launch) (E : JE) (av : List Value) (f : Hp) (P : Option Value → Hp → Prop) : Prop := Ct l E yX12_count cX12_count 4 (some .int) rmX12_count av f P
abbrev rmX12_status : Room := ⟨0, 0, 0, 0⟩
abbrev KX12_status (l : Launch) (E : JE) (av : List Value) (f : Hp) (P : Option Value → Hp → Prop) : Prop := Ct l E yX12_status cX12_status 1 (some .int) rmX12_status av f P
theorem cge {a b : Int} (h : 0 ≤ cI a b) : b ≤ a := by
  have := cI_lt (a := a) (b := b); omega
theorem cgt {a b : Int} (h : 0 < cI a b) : b < a := by
  have := cI_le (a := a) (b := b); omega
theorem ct_mono {l : Launch} {E : JE} {y : MethodName} {cc : ByteArray} {maxL : Nat} {ret : Option FieldType} {rm : Room} {av : List Value} {f : Hp} {P Q : Option Value → Hp → Prop} (h : Ct l E y cc maxL ret rm av f P) (hPQ : ∀ v f', P v f' → Q v f') : Ct l E y cc maxL ret rm av f Q := by
  intro sz p e ha hc hk s m args below hf happ hP hK
  obtain ⟨k, o, h1, h2, h3, ⟨⟨v, f', L, h4, h5, h6⟩, h7⟩, h8⟩ := h sz p e ha hc hk s m args below hf happ hP hK
  exact ⟨k, o, h1, h2, h3, ⟨⟨v, f', L, h4, hPQ v f' h5, h6⟩, h7⟩, h8⟩
theorem nar_cr {v : Int} (h : 0 ≤ v ∧ v < 65536) : narrow .char (.int (iZ v)) = .int (iZ v) := by
  obtain ⟨m, rfl⟩ := Int.eq_ofNat_of_zero_le h.1
  rw [← iZ_nI]
  exact (pk_charN (q := m) (by omega)).1
theorem fit_c {v : Int} (h : 0 ≤ v ∧ v < 65536) : fits .char (.int (iZ v)) = true := by
  obtain ⟨m, rfl⟩ := Int.eq_ofNat_of_zero_le h.1
  rw [← iZ_nI]
  exact (pk_charN (q := m) (by omega)).2
theorem fit_z {v : Int} (h : v = 0 ∨ v = 1) : fits .boolean (.int (iZ v)) = true := by rcases h with rfl | rfl <;> decide
theorem j_kn {G : JG} {k n k' n' : Nat} {f : Hp} {pc : Nat} {lv : List (Nat × Value)} {st : List Value} (h1 : k' = k) (h2 : n' = n) (kk : J G k n f pc lv st) : J G k' n' f pc lv st := by subst h1; subst h2; exact kk
theorem wA_I : Cond.arrayClass .int ∈ gw_tbl := gm 100 (by decide +kernel) (by decide +kernel)
theorem wA_J : Cond.arrayClass .long ∈ gw_tbl := gm 101 (by decide +kernel) (by decide +kernel)
theorem wA_Z : Cond.arrayClass .boolean ∈ gw_tbl := gm 197 (by decide +kernel) (by decide +kernel)
theorem wA_C : Cond.arrayClass .char ∈ gw_tbl := gm 121 (by decide +kernel) (by decide +kernel)
theorem dfl_L_7 : ∀ j, j < 12 → defaultValue (tyX11 j) = vp_V [.null, .null, .null, .null, .null, .null, .null, .null, .null, .int (iZ 0), .int (iZ 0), .int (iZ 0)] j := by decide +kernel
theorem nL_7 : jNw RL 7 10 [.null, .null, .null, .null, .null, .null, .null, .null, .null, .int (iZ 0), .int (iZ 0), .int (iZ 0)] := ⟨RX11, TX11, 12, tyX11, rfl, by decide, inX11, tyX11_ok, gms [76, 77, 56] (by decide +kernel) (by decide +kernel), dfl_L_7, rfl⟩
theorem nqL_7 : Cond.classLink RL 7 RX11 ∈ gw_tbl := gm 76 (by decide +kernel) (by decide +kernel)
theorem dfl_X11_7 : ∀ j, j < 3 → defaultValue (tyX2 j) = vp_V [.null, .null, .int (iZ 0)] j := by decide +kernel
theorem nX11_7 : jNw RX11 7 2 [.null, .null, .int (iZ 0)] := ⟨RX2, TX2, 3, tyX2, rfl, by decide, inX2, tyX2_ok, gms [84, 85, 57] (by decide +kernel) (by decide +kernel), dfl_X11_7, rfl⟩
theorem nqX11_7 : Cond.classLink RX11 7 RX2 ∈ gw_tbl := gm 84 (by decide +kernel) (by decide +kernel)
theorem dfl_X11_16 : ∀ j, j < 4 → defaultValue (tyX10 j) = vp_V [.null, .int (iZ 0), .int (iZ 0), .int (iZ 0)] j := by decide +kernel
theorem nX11_16 : jNw RX11 16 9 [.null, .int (iZ 0), .int (iZ 0), .int (iZ 0)] := ⟨RX10, TX10, 4, tyX10, rfl, by decide, inX10, tyX10_ok, gms [102, 103, 58] (by decide +kernel) (by decide +kernel), dfl_X11_16, rfl⟩
theorem nqX11_16 : Cond.classLink RX11 16 RX10 ∈ gw_tbl := gm 102 (by decide +kernel) (by decide +kernel)
theorem dfl_X11_23 : ∀ j, j < 1 → defaultValue (tyX4 j) = vp_V [.null] j := by decide +kernel
theorem nX11_23 : jNw RX11 23 4 [.null] := ⟨RX4, TX4, 1, tyX4, rfl, by decide, inX4, tyX4_ok, gms [122, 123, 59] (by decide +kernel) (by decide +kernel), dfl_X11_23, rfl⟩
theorem nqX11_23 : Cond.classLink RX11 23 RX4 ∈ gw_tbl := gm 122 (by decide +kernel) (by decide +kernel)
theorem dfl_X11_30 : ∀ j, j < 8 → defaultValue (tyX9 j) = vp_V [.null, .null, .null, .null, .null, .null, .null, .null] j := by decide +kernel
theorem nX11_30 : jNw RX11 30 8 [.null, .null, .null, .null, .null, .null, .null, .null] := ⟨RX9, TX9, 8, tyX9, rfl, by decide, inX9, tyX9_ok, gms [132, 133, 60] (by decide +kernel) (by decide +kernel), dfl_X11_30, rfl⟩
theorem nqX11_30 : Cond.classLink RX11 30 RX9 ∈ gw_tbl := gm 132 (by decide +kernel) (by decide +kernel)
theorem dfl_X9_9 : ∀ j, j < 3 → defaultValue (tyX8 j) = vp_V [.null, .int (iZ 0), .int (iZ 0)] j := by decide +kernel
theorem nX9_9 : jNw RX9 9 7 [.null, .int (iZ 0), .int (iZ 0)] := ⟨RX8, TX8, 3, tyX8, rfl, by decide, inX8, tyX8_ok, gms [138, 140, 61] (by decide +kernel) (by decide +kernel), dfl_X9_9, rfl⟩
theorem nqX9_9 : Cond.classLink RX9 9 RX8 ∈ gw_tbl := gm 138 (by decide +kernel) (by decide +kernel)
theorem dfl_X9_36 : ∀ j, j < 2 → defaultValue (tyX5 j) = vp_V [.null, .int (iZ 0)] j := by decide +kernel
theorem nX9_36 : jNw RX9 36 5 [.null, .int (iZ 0)] := ⟨RX5, TX5, 2, tyX5, rfl, by decide, inX5, tyX5_ok, gms [155, 156, 62] (by decide +kernel) (by decide +kernel), dfl_X9_36, rfl⟩
theorem nqX9_36 : Cond.classLink RX9 36 RX5 ∈ gw_tbl := gm 155 (by decide +kernel) (by decide +kernel)
theorem dfl_X5_9 : ∀ j, j < 6 → defaultValue (tyX3 j) = vp_V [.int (iZ 0), .int (iZ 0), .int (iZ 0), .int (iZ 0), .int (iZ 0), .int (iZ 0)] j := by decide +kernel
theorem nX5_9 : jNw RX5 9 3 [.int (iZ 0), .int (iZ 0), .int (iZ 0), .int (iZ 0), .int (iZ 0), .int (iZ 0)] := ⟨RX3, TX3, 6, tyX3, rfl, by decide, inX3, tyX3_ok, gms [161, 163, 63] (by decide +kernel) (by decide +kernel), dfl_X5_9, rfl⟩
theorem nqX5_9 : Cond.classLink RX5 9 RX3 ∈ gw_tbl := gm 161 (by decide +kernel) (by decide +kernel)
theorem dfl_X11_37 : ∀ j, j < 2 → defaultValue (tyX0 j) = vp_V [.null, .int (iZ 0)] j := by decide +kernel
theorem nX11_37 : jNw RX11 37 0 [.null, .int (iZ 0)] := ⟨RX0, TX0, 2, tyX0, rfl, by decide, inX0, tyX0_ok, gms [230, 231, 64] (by decide +kernel) (by decide +kernel), dfl_X11_37, rfl⟩
theorem nqX11_37 : Cond.classLink RX11 37 RX0 ∈ gw_tbl := gm 230 (by decide +kernel) (by decide +kernel)
theorem dfl_X11_47 : ∀ j, j < 3 → defaultValue (tyX1 j) = vp_V [.null, .null, .int (iZ 0)] j := by decide +kernel
theorem nX11_47 : jNw RX11 47 1 [.null, .null, .int (iZ 0)] := ⟨RX1, TX1, 3, tyX1, rfl, by decide, inX1, tyX1_ok, gms [243, 244, 65] (by decide +kernel) (by decide +kernel), dfl_X11_47, rfl⟩
theorem nqX11_47 : Cond.classLink RX11 47 RX1 ∈ gw_tbl := gm 243 (by decide +kernel) (by decide +kernel)
theorem dfl_X11_54 : ∀ j, j < 3 → defaultValue (tyX6 j) = vp_V [.int (iZ 0), .int (iZ 0), .int (iZ 0)] j := by decide +kernel
theorem nX11_54 : jNw RX11 54 6 [.int (iZ 0), .int (iZ 0), .int (iZ 0)] := ⟨RX6, TX6, 3, tyX6, rfl, by decide, inX6, tyX6_ok, gms [259, 260, 66] (by decide +kernel) (by decide +kernel), dfl_X11_54, rfl⟩
theorem nqX11_54 : Cond.classLink RX11 54 RX6 ∈ gw_tbl := gm 259 (by decide +kernel) (by decide +kernel)
theorem dfl_L_10 : ∀ j, j < 52 → defaultValue (tyX12 j) = vp_V [.int (iZ 0), .int (iZ 0), .int (iZ 0), .null, .null, .null, .null, .null, .int (iZ 0), .int (iZ 0), .int (iZ 0), .int (iZ 0), .null, .null, .null, .null, .null, .null, .null, .null, .null, .null, .null, .null, .null, .int (iZ 0), .int (iZ 0), .null, .null, .null, .null, .int (iZ 0), .null, .null, .null, .null, .int (iZ 0), .null, .null, .null, .null, .null, .null, .null, .int (iZ 0), .int (iZ 0), .int (iZ 0), .int (iZ 0), .long (lZ 0), .int (iZ 0), .int (iZ 0), .int (iZ 0)] j := by decide +kernel
theorem nL_10 : jNw RL 10 11 [.int (iZ 0), .int (iZ 0), .int (iZ 0), .null, .null, .null, .null, .null, .int (iZ 0), .int (iZ 0), .int (iZ 0), .int (iZ 0), .null, .null, .null, .null, .null, .null, .null, .null, .null, .null, .null, .null, .null, .int (iZ 0), .int (iZ 0), .null, .null, .null, .null, .int (iZ 0), .null, .null, .null, .null, .int (iZ 0), .null, .null, .null, .null, .null, .null, .null, .int (iZ 0), .int (iZ 0), .int (iZ 0), .int (iZ 0), .long (lZ 0), .int (iZ 0), .int (iZ 0), .int (iZ 0)] := ⟨RX12, TX12, 52, tyX12, rfl, by decide, inX12, tyX12_ok, gms [881, 882, 67] (by decide +kernel) (by decide +kernel), dfl_L_10, rfl⟩
theorem nqL_10 : Cond.classLink RL 10 RX12 ∈ gw_tbl := gm 881 (by decide +kernel) (by decide +kernel)
/-! ===== lN n to 2^64: shifts, and, or, masks, one bit ===== -/
theorem wb_tb (n : Nat) : (lN n).toBitVec = BitVec.ofNat 64 n := rfl
theorem wb_inj {a b : Int64} (h : a.toBitVec = b.toBitVec) : a = b := Int64.toBitVec_inj.mp h
theorem wb_tn {n : Nat} (h : n < 2 ^ 64) : (lN n).toBitVec.toNat = n := by rw [wb_tb, BitVec.toNat_ofNat, Nat.mod_eq_of_lt h]
theorem wb_of (x : Int64) : ∃ n, n < 2 ^ 64 ∧ x = lN n := ⟨x.toBitVec.toNat, x.toBitVec.isLt, wb_inj (by rw [wb_tb]; simp)⟩
theorem wb_of32 (x : Int32) : ∃ n, n < 2 ^ 32 ∧ x = nI n := ⟨x.toBitVec.toNat, x.toBitVec.isLt, Int32.toBitVec_inj.mp (by show _ = BitVec.ofNat 32 _; simp)⟩
theorem wb_c : ∀ k, k < 64 → ((nI k).toInt64 &&& 63) = lN k := by decide +kernel
theorem wb_cu : ∀ k, k < 64 → ((nI k).toInt64.toUInt64 &&& Int64.toUInt64 63) = UInt64.ofNat k := by decide +kernel
theorem wb_sm : ∀ k, k < 64 → (BitVec.ofNat 64 k).smod 64 = BitVec.ofNat 64 k := by decide +kernel
theorem wb_pw {a b : Nat} (h : a ≤ b) : 2 ^ b = 2 ^ a * 2 ^ (b - a) := by rw [← Nat.pow_add]; congr 1; omega
theorem wb_lt2 {a b : Nat} (h : a < b) : 2 ^ a < 2 ^ b := Nat.pow_lt_pow_right (by decide) h
theorem wb_mod (n : Nat) : lN n = lN (n % 2 ^ 64) := wb_inj (by rw [wb_tb, wb_tb]; apply BitVec.eq_of_toNat_eq; rw [BitVec.toNat_ofNat, BitVec.toNat_ofNat, Nat.mod_mod])
theorem wb_shr {n k : Nat} (hn : n < 2 ^ 64) (hk : k < 64) : ((lN n).toUInt64 >>> ((nI k).toInt64.toUInt64 &&& Int64.toUInt64 63)).toInt64 = lN (n / 2 ^ k) := by
  rw [wb_cu k hk]
  apply wb_inj
  apply BitVec.eq_of_toNat_eq
  show ((lN n).toUInt64 >>> UInt64.ofNat k).toNat = (BitVec.ofNat 64 _).toNat
  have h1 : (UInt64.ofNat k).toNat = k := by
    show (BitVec.ofNat 64 k).toNat = k
    rw [BitVec.toNat_ofNat, Nat.mod_eq_of_lt (by omega)]
  have h2 : (lN n).toUInt64.toNat = n := wb_tn hn
  rw [UInt64.toNat_shiftRight, h1, h2, Nat.mod_eq_of_lt hk, Nat.shiftRight_eq_div_pow, BitVec.toNat_ofNat, Nat.mod_eq_of_lt (Nat.lt_of_le_of_lt (Nat.div_le_self _ _) hn)]
theorem wb_shl (n : Nat) {k : Nat} (hk : k < 64) : lN n <<< ((nI k).toInt64 &&& 63) = lN (n * 2 ^ k) := by
  rw [wb_c k hk]
  apply wb_inj
  rw [Int64.toBitVec_shiftLeft, wb_tb, wb_tb, wb_tb, wb_sm k hk]
  apply BitVec.eq_of_toNat_eq
  rw [BitVec.shiftLeft_eq', BitVec.toNat_shiftLeft, BitVec.toNat_ofNat, BitVec.toNat_ofNat, BitVec.toNat_ofNat, Nat.mod_eq_of_lt (show k < 2 ^ 64 by omega), Nat.shiftLeft_eq, Nat.mul_mod, Nat.mod_mod, ← Nat.mul_mod]
theorem wb_and {a b : Nat} (ha : a < 2 ^ 64) (hb : b < 2 ^ 64) : lN a &&& lN b = lN (a &&& b) := by
  apply wb_inj
  rw [Int64.toBitVec_and, wb_tb, wb_tb, wb_tb]
  apply BitVec.eq_of_toNat_eq
  rw [BitVec.toNat_and, BitVec.toNat_ofNat, BitVec.toNat_ofNat, BitVec.toNat_ofNat, Nat.mod_eq_of_lt ha, Nat.mod_eq_of_lt hb, Nat.mod_eq_of_lt (Nat.and_lt_two_pow _ hb)]
theorem wb_or {a b : Nat} (ha : a < 2 ^ 64) (hb : b < 2 ^ 64) : lN a ||| lN b = lN (a ||| b) := by
  apply wb_inj
  rw [Int64.toBitVec_or, wb_tb, wb_tb, wb_tb]
  apply BitVec.eq_of_toNat_eq
  rw [BitVec.toNat_or, BitVec.toNat_ofNat, BitVec.toNat_ofNat, BitVec.toNat_ofNat, Nat.mod_eq_of_lt ha, Nat.mod_eq_of_lt hb, Nat.mod_eq_of_lt (Nat.or_lt_two_pow ha hb)]
theorem wb_mask {n k : Nat} (hn : n < 2 ^ 64) (hk : k < 64) : lN n &&& lN (2 ^ k - 1) = lN (n % 2 ^ k) := by
  rw [wb_and hn (by have := wb_lt2 hk; omega), Nat.and_two_pow_sub_one_eq_mod]
theorem wb_a1 {n : Nat} (hn : n < 2 ^ 64) : lN n &&& 1 = lN (n % 2) := wb_mask (k := 1) hn (by decide)
theorem wb_bit {n k : Nat} (hn : n < 2 ^ 64) (hk : k < 64) : ((lN n).toUInt64 >>> ((nI k).toInt64.toUInt64 &&& Int64.toUInt64 63)).toInt64 &&& 1 = lN (n / 2 ^ k % 2) := by
  rw [wb_shr hn hk, wb_a1 (Nat.lt_of_le_of_lt (Nat.div_le_self _ _) hn)]
/-! ===== lN: masks, 'or' of parts that don't overlap is a sum ===== -/
theorem u_tn {n : Nat} (h : n < 2 ^ 64) : (UInt64.ofNat n).toNat = n := Nat.mod_eq_of_lt h
theorem g_and {a b c : Nat} (ha : a < 2 ^ 64) (hb : b < 2 ^ 64) (hc : a &&& b = c) : lN a &&& lN b = lN c := by
  subst hc
  have h : UInt64.ofNat a &&& UInt64.ofNat b = UInt64.ofNat (a &&& b) := UInt64.toNat_inj.mp (by rw [UInt64.toNat_and, u_tn ha, u_tn hb, u_tn (Nat.and_lt_two_pow a hb)])
  have h2 := congrArg UInt64.toInt64 h
  exact h2
theorem g_and1 {a : Nat} (ha : a < 2 ^ 64) : lN a &&& 1 = lN (a % 2) := g_and (b := 1) ha (by decide) (Nat.and_two_pow_sub_one_eq_mod a 1)
theorem g_mask {a s p : Nat} (hp : 2 ^ s = p) (hs : s < 64) (ha : a < 2 ^ 64) : lN a &&& lN (p - 1) = lN (a % p) := by
  subst hp
  have := Nat.pow_lt_pow_right (show 1 < 2 by decide) hs
  exact g_and ha (by omega) (Nat.and_two_pow_sub_one_eq_mod a s)
theorem g_or {k p a b : Nat} (hp : 2 ^ k = p) (ha : a < p) (h : b * p + a < 2 ^ 64) : lN (b * p) ||| lN a = lN (b * p + a) := by
  subst hp
  have h1 : b * 2 ^ k ||| a = b * 2 ^ k + a := by rw [← Nat.shiftLeft_eq, Nat.shiftLeft_add_eq_or_of_lt ha]
  have h3 : UInt64.ofNat (b * 2 ^ k) ||| UInt64.ofNat a = UInt64.ofNat (b * 2 ^ k + a) := UInt64.toNat_inj.mp (by rw [UInt64.toNat_or, u_tn (by omega), u_tn (by omega), u_tn h, h1])
  have h2 := congrArg UInt64.toInt64 h3
  exact h2
theorem g_or' {k p a b : Nat} (hp : 2 ^ k = p) (ha : a < p) (h : a + b * p < 2 ^ 64) : lN a ||| lN (b * p) = lN (a + b * p) := by
  rw [Int64.or_comm, g_or hp ha (by omega), Nat.add_comm]
theorem g_ushr {a k p : Nat} {y : UInt64} (hy : y = UInt64.ofNat k) (hk : k < 64) (hp : 2 ^ k = p) (ha : a < 2 ^ 64) : ((lN a).toUInt64 >>> y).toInt64 = lN (a / p) := by
  subst hy hp
  have h : UInt64.ofNat a >>> UInt64.ofNat k = UInt64.ofNat (a / 2 ^ k) := UInt64.toNat_inj.mp (by rw [UInt64.toNat_shiftRight, u_tn ha, u_tn (by omega), u_tn (Nat.lt_of_le_of_lt (Nat.div_le_self _ _) ha), Nat.mod_eq_of_lt hk, Nat.shiftRight_eq_div_pow])
  have h2 := congrArg UInt64.toInt64 h
  exact h2
theorem g_shl {a k p : Nat} {y : Int64} (hy : y.toBitVec.smod 64 = BitVec.ofNat 64 k) (hk : k < 64) (hp : 2 ^ k = p) (ha : a < 2 ^ 64) : lN a <<< y = lN (a * p) := by
  subst hp
  apply Int64.toBitVec_inj.mp
  rw [Int64.toBitVec_shiftLeft, hy]
  apply BitVec.eq_of_toNat_eq
  have hb : (lN a).toBitVec.toNat = a := Nat.mod_eq_of_lt ha
  have hk' : (BitVec.ofNat 64 k).toNat = k := Nat.mod_eq_of_lt (by omega)
  have h : ((lN a).toBitVec <<< BitVec.ofNat 64 k).toNat = (a * 2 ^ k) % 2 ^ 64 := by simp only [BitVec.shiftLeft_eq', BitVec.toNat_shiftLeft, hb, hk', Nat.shiftLeft_eq]
  exact h
theorem lZ_nat (n : Nat) : lN n = lZ n := by
  show Int64.ofNat n = Int64.ofInt n
  first | rfl | simp
theorem lZ_shl {a : Int} (k : Nat) (ha : 0 ≤ a) (hk : k < 64) : lZ a <<< ((iZ k).toInt64 &&& 63) = lZ (a * 2 ^ k) := by
  obtain ⟨m, rfl⟩ := Int.eq_ofNat_of_zero_le ha
  have h := wb_shl m hk
  rw [lZ_nat, lZ_nat, iZ_nI] at h
  rw [h]
  congr 1
theorem lZ_ushr {a : Int} (k : Nat) (ha : 0 ≤ a ∧ a < 9223372036854775808) (hk : k < 64) : ((lZ a).toUInt64 >>> ((iZ k).toInt64.toUInt64 &&& Int64.toUInt64 63)).toInt64 = lZ (a / 2 ^ k) := by
  obtain ⟨m, rfl⟩ := Int.eq_ofNat_of_zero_le ha.1
  have h := wb_shr (n := m) (k := k) (by omega) hk
  rw [lZ_nat, lZ_nat, iZ_nI] at h
  rw [h]
  congr 1
theorem lZ_or {a b p : Int} (k : Nat) (hp : 2 ^ k = p) (ha : 0 ≤ a ∧ a < p) (hb : 0 ≤ b) (h : b * p + a < 9223372036854775808) : lZ (b * p) ||| lZ a = lZ (b * p + a) := by
  obtain ⟨m, rfl⟩ := Int.eq_ofNat_of_zero_le ha.1
  obtain ⟨q, rfl⟩ := Int.eq_ofNat_of_zero_le hb
  obtain ⟨u, rfl⟩ := Int.eq_ofNat_of_zero_le (show 0 ≤ p by omega)
  have hpN : 2 ^ k = u := by exact_mod_cast hp
  have hN : q * u + m < 2 ^ 64 := by
    have : ((q * u + m : Nat) : Int) < 9223372036854775808 := by push_cast; exact h
    omega
  have g := g_or (k := k) (p := u) (a := m) (b := q) hpN (by omega) hN
  rw [lZ_nat, lZ_nat, lZ_nat] at g
  have e1 : ((q * u : Nat) : Int) = (q : Int) * u := by push_cast; rfl
  have e2 : ((q * u + m : Nat) : Int) = (q : Int) * u + m := by push_cast; rfl
  rw [e1, e2] at g
  exact g
theorem lZ_mask {a p : Int} (k : Nat) (hp : 2 ^ k - 1 = p) (hk : k < 63) (ha : 0 ≤ a ∧ a < 9223372036854775808) : lZ a &&& lZ p = lZ (a % 2 ^ k) := by
  obtain ⟨m, rfl⟩ := Int.eq_ofNat_of_zero_le ha.1
  have g := wb_mask (n := m) (k := k) (by omega) (by omega)
  rw [lZ_nat, lZ_nat, lZ_nat] at g
  have h1 : (1 : Nat) ≤ 2 ^ k := Nat.one_le_two_pow
  have e1 : ((2 ^ k - 1 : Nat) : Int) = p := by rw [← hp]; push_cast [h1]; rfl
  rw [e1] at g
  rw [g]
  congr 1
theorem iZ_mask {a p : Int} (k : Nat) (hp : 2 ^ k - 1 = p) (hk : k < 32) (ha : 0 ≤ a ∧ a < 4294967296) : iZ a &&& iZ p = iZ (a % 2 ^ k) := by
  obtain ⟨m, rfl⟩ := Int.eq_ofNat_of_zero_le ha.1
  have h1 : (1 : Nat) ≤ 2 ^ k := Nat.one_le_two_pow
  have h2 : (2 : Nat) ^ k < 2 ^ 32 := Nat.pow_lt_pow_right (by decide) hk
  have e1 : ((2 ^ k - 1 : Nat) : Int) = p := by rw [← hp]; push_cast [h1]; rfl
  have g := pk_andN (n := m) (by omega) (m := nI (2 ^ k - 1)) k (pk_tn (by omega))
  rw [iZ_nI, iZ_nI, iZ_nI, e1] at g
  rw [g]
  congr 1
/-! a ROW in one number -/
def pk (k t v : Int) : Int := (k * 16384 + t) * 2147483648 + (v + 1000000000)
def rK (x : Int) : Int := x / 35184372088832
def rT (x : Int) : Int := x / 2147483648 % 16384
def rV (x : Int) : Int := x % 2147483648 - 1000000000
def rG (x : Int) : Int := x / 2147483648
def rOk (x : Int) : Prop := 0 ≤ x ∧ x < 1125899906842624
theorem pk_ok {k t v : Int} (hk : 0 ≤ k ∧ k < 32) (ht : 0 ≤ t ∧ t < 16384) (hv : -1000000000 ≤ v ∧ v ≤ 1000000000) : rOk (pk k t v) ∧ rK (pk k t v) = k ∧ rT (pk k t v) = t ∧ rV (pk k t v) = v := by
  unfold rOk pk rK rT rV
  omega
theorem rK_rng {x : Int} (h : rOk x) : 0 ≤ rK x ∧ rK x < 32 := by unfold rOk at h; unfold rK; omega
theorem rT_rng {x : Int} (h : rOk x) : 0 ≤ rT x ∧ rT x < 16384 := by unfold rT; omega
theorem rV_rng {x : Int} (h : rOk x) : -1000000000 ≤ rV x ∧ rV x < 1147483648 := by unfold rV; omega
end
section
/-! ===== pieces of a map, as lists ===== -/
def seg {α : Type} (g : Int → α) (a b : Int) : List α := (List.range (b - a).toNat).map (fun i : Nat => g (a + i))
theorem seg_nil {α : Type} {g : Int → α} {a b : Int} (h : b ≤ a) : seg g a b = [] := by
  unfold seg
  rw [show (b - a).toNat = 0 by omega]
  rfl
theorem seg_cons {α : Type} {g : Int → α} {a b : Int} (h : a < b) : seg g a b = g a :: seg g (a + 1) b := by
  unfold seg
  rw [show (b - a).toNat = (b - (a + 1)).toNat + 1 by omega, List.range_succ_eq_map, List.map_cons, List.map_map]
  congr 1
  · simp
  · apply List.map_congr_left
    intro i _
    show g (a + ((i + 1 : Nat) : Int)) = g (a + 1 + (i : Int))
    congr 1
    omega
theorem seg_snoc {α : Type} {g : Int → α} {a b : Int} (h : a ≤ b) : seg g a (b + 1) = seg g a b ++ [g b] := by
  unfold seg
  rw [show (b + 1 - a).toNat = (b - a).toNat + 1 by omega, List.range_succ, List.map_append, List.map_cons, List.map_nil]
  congr 3
  omega
theorem seg_congr {α : Type} {g h : Int → α} {a b : Int} (e : ∀ j, a ≤ j → j < b → g j = h j) : seg g a b = seg h a b := by
  unfold seg
  apply List.map_congr_left
  intro i hi
  have := List.mem_range.mp hi
  exact e _ (by omega) (by omega)
theorem seg_len {α : Type} {g : Int → α} {a b : Int} : (seg g a b).length = (b - a).toNat := by
  unfold seg; simp
theorem seg_mem {α : Type} {g : Int → α} {a b : Int} {x : α} : x ∈ seg g a b ↔ ∃ j, a ≤ j ∧ j < b ∧ g j = x := by
  unfold seg
  constructor
  · intro h
    obtain ⟨i, hi, rfl⟩ := List.mem_map.mp h
    have := List.mem_range.mp hi
    exact ⟨_, by omega, by omega, rfl⟩
  · rintro ⟨j, h1, h2, rfl⟩
    exact List.mem_map.mpr ⟨(j - a).toNat, List.mem_range.mpr (by omega), by congr 1; omega⟩
theorem seg_app {α : Type} {g : Int → α} {a c : Int} (b : Int) (h1 : a ≤ b) (h2 : b ≤ c) : seg g a c = seg g a b ++ seg g b c := by
  obtain ⟨n, hn⟩ := Int.eq_ofNat_of_zero_le (show 0 ≤ c - b by omega)
  induction n generalizing c with
  | zero => rw [show c = b by omega, seg_nil (Int.le_refl b), List.append_nil]
  | succ n ih =>
    have hc : c = (c - 1) + 1 := by omega
    rw [hc, seg_snoc (by omega), seg_snoc (by omega), ih (c := c - 1) (by omega) (by omega), List.append_assoc]
theorem seg_one {α : Type} {g : Int → α} {a : Int} : seg g a (a + 1) = [g a] := by
  rw [seg_cons (by omega), seg_nil (by omega)]
theorem seg_fup_out {α : Type} {g : Int → α} {a b i : Int} {v : α} (h : i < a ∨ b ≤ i) : seg (fup g i v) a b = seg g a b :=
  seg_congr (fun j h1 h2 => fup_n g v (by omega))
theorem seg_get {α : Type} {g : Int → α} {a b : Int} {i : Nat} (h : (i : Int) < b - a) : (seg g a b)[i]? = some (g (a + i)) := by
  unfold seg
  rw [List.getElem?_map, List.getElem?_range (by omega)]
  rfl
/-! ===== sorted lists, merging ===== -/
def srt (l : List Int) : Prop := l.Pairwise (fun a b => a ≤ b)
def mrg : List Int → List Int → List Int
  | [], ys => ys
  | x :: xs, [] => x :: xs
  | x :: xs, y :: ys => if y < x then y :: mrg (x :: xs) ys else x :: mrg xs (y :: ys)
termination_by xs ys => xs.length + ys.length
theorem mrg_nil_r (xs : List Int) : mrg xs [] = xs := by cases xs <;> simp [mrg]
theorem mrg_nil_l (ys : List Int) : mrg [] ys = ys := by simp [mrg]
theorem mrg_cons (x y : Int) (xs ys : List Int) : mrg (x :: xs) (y :: ys) = if y < x then y :: mrg (x :: xs) ys else x :: mrg xs (y :: ys) := by rw [mrg]
theorem mrg_perm : ∀ (xs ys : List Int), (mrg xs ys).Perm (xs ++ ys)
  | [], ys => by rw [mrg_nil_l]; exact List.Perm.refl _
  | x :: xs, [] => by rw [mrg_nil_r, List.append_nil]
  | x :: xs, y :: ys => by
    rw [mrg_cons]
    split
    · have ih := mrg_perm (x :: xs) ys
      exact (List.Perm.cons y ih).trans (List.perm_middle.symm)
    · exact List.Perm.cons x (mrg_perm xs (y :: ys))
termination_by xs ys => xs.length + ys.length
theorem mrg_srt : ∀ (xs ys : List Int), srt xs → srt ys → srt (mrg xs ys)
  | [], ys, _, h => by rw [mrg_nil_l]; exact h
  | x :: xs, [], h, _ => by rw [mrg_nil_r]; exact h
  | x :: xs, y :: ys, h1, h2 => by
    rw [mrg_cons]
    have h1' := List.pairwise_cons.mp h1
    have h2' := List.pairwise_cons.mp h2
    split
    · rename_i hxy
      refine List.pairwise_cons.mpr ⟨fun z hz => ?_, mrg_srt (x :: xs) ys h1 h2'.2⟩
      rcases List.mem_append.mp ((mrg_perm _ _).mem_iff.mp hz) with q | q
      · rcases List.mem_cons.mp q with rfl | q
        · omega
        · have := h1'.1 z q; omega
      · exact h2'.1 z q
    · rename_i hxy
      refine List.pairwise_cons.mpr ⟨fun z hz => ?_, mrg_srt xs (y :: ys) h1'.2 h2⟩
      rcases List.mem_append.mp ((mrg_perm _ _).mem_iff.mp hz) with q | q
      · exact h1'.1 z q
      · rcases List.mem_cons.mp q with rfl | q
        · omega
        · have := h2'.1 z q; omega
termination_by xs ys => xs.length + ys.length
theorem srt_one : ∀ {l m : List Int}, srt l → srt m → l.Perm m → l = m
  | [], m, _, _, h => by rw [List.nil_perm.mp h]
  | x :: l, [], _, _, h => absurd h.length_eq (by simp)
  | x :: l, y :: m, h1, h2, h => by
    have a1 := List.pairwise_cons.mp h1
    have a2 := List.pairwise_cons.mp h2
    have e : x = y := by
      have hx : x ∈ y :: m := h.mem_iff.mp List.mem_cons_self
      have hy : y ∈ x :: l := h.mem_iff.mpr List.mem_cons_self
      rcases List.mem_cons.mp hx with q | q
      · exact q
      · rcases List.mem_cons.mp hy with q2 | q2
        · exact q2.symm
        · have := a1.1 y q2; have := a2.1 x q; omega
    subst e
    rw [srt_one a1.2 a2.2 (List.Perm.cons_inv h)]
theorem mrg_split {xs ys : List Int} (h : ∀ x ∈ xs, ∀ y ∈ ys, x ≤ y) (h1 : srt xs) (h2 : srt ys) : mrg xs ys = xs ++ ys :=
  srt_one (mrg_srt _ _ h1 h2) (List.pairwise_append.mpr ⟨h1, h2, h⟩) (mrg_perm _ _)
end
section
theorem c_X11_isWithin {l : Launch} {E : JE} {f : Hp} {a lo hi : Int}  (ha : -2147483648 ≤ a ∧ a < 2147483648) (hlo : -2147483648 ≤ lo ∧ lo < 2147483648) (hhi : -2147483648 ≤ hi ∧ hi < 2147483648) : KX11_isWithin l E [.int (iZ (a)), .int (iZ (lo)), .int (iZ (hi))] f (fun v f' => (∃ b : Int, v = some (.int (iZ b)) ∧ ((b = 1 ∧ lo ≤ a ∧ a ≤ hi) ∨ (b = 0 ∧ (a < lo ∨ hi < a)))) ∧ f = f') := by
  refine ct_of (own := RX11) (lv := [(0, .int (iZ (a))), (1, .int (iZ (lo))), (2, .int (iZ (hi)))]) (by decide +kernel) rfl (Nat.le_of_ble_eq_true rfl) rfl ?_
  intro G hG hZ
  refine j_iload_n hG dX11_isWithin_0 rfl rfl ?_
  refine j_iload_n hG dX11_isWithin_1 rfl rfl ?_
  refine j_icmp_lt (tgt := 14) hG dX11_isWithin_2 (by decide) (by omega) (by omega) (fun c1 => ?_) (fun c1 => ?_)
  · -- taken at 2
    refine j_iconst hG dX11_isWithin_14 ?_
    exact j_zret hG hZ dX11_isWithin_15 (Nat.zero_le _) (Nat.zero_le _) (nar_zr (by omega)) (⟨⟨_, rfl, by omega⟩, rfl⟩)
  · -- on at 2
    refine j_iload_n hG dX11_isWithin_5 rfl rfl ?_
    refine j_iload_n hG dX11_isWithin_6 rfl rfl ?_
    refine j_icmp_gt (tgt := 14) hG dX11_isWithin_7 (by decide) (by omega) (by omega) (fun c2 => ?_) (fun c2 => ?_)
    · -- taken at 7
      refine j_iconst hG dX11_isWithin_14 ?_
      exact j_zret hG hZ dX11_isWithin_15 (Nat.zero_le _) (Nat.zero_le _) (nar_zr (by omega)) (⟨⟨_, rfl, by omega⟩, rfl⟩)
    · -- on at 7
      refine j_iconst hG dX11_isWithin_10 ?_
      refine j_goto (tgt := 15) hG dX11_isWithin_11 (by decide) ?_
      exact j_zret hG hZ dX11_isWithin_15 (Nat.zero_le _) (Nat.zero_le _) (nar_zr (by omega)) (⟨⟨_, rfl, by omega⟩, rfl⟩)
theorem c_X7_pack {l : Launch} {E : JE} {f : Hp} {k t u : Int}  (hk : 0 ≤ k ∧ k < 32) (ht : 0 ≤ t ∧ t < 16384) (hu : -1000000000 ≤ u ∧ u ≤ 1000000000) : KX7_pack l E [.int (iZ (k)), .int (iZ (t)), .int (iZ (u))] f (fun v f' => v = some (.long (lZ (pk k t u))) ∧ f = f') := by
  refine ct_of (own := RX7) (lv := [(0, .int (iZ (k))), (1, .int (iZ (t))), (2, .int (iZ (u)))]) (by decide +kernel) rfl (Nat.le_of_ble_eq_true rfl) rfl ?_
  intro G hG hZ
  refine j_iload_n hG dX7_pack_0 rfl rfl ?_
  refine j_i2l hG dX7_pack_1 (by omega) ?_
  refine j_bipush hG dX7_pack_2 (by decide) ?_
  refine j_lshl hG dX7_pack_4 ?_
  refine j_eql (show ((lZ (k)) <<< ((iZ (14)).toInt64 &&& 63) : Int64) = lZ (k * 16384) from (lZ_shl 14 (by omega) (by decide))) ?_
  refine j_iload_n hG dX7_pack_5 rfl rfl ?_
  refine j_i2l hG dX7_pack_6 (by omega) ?_
  refine j_lor hG dX7_pack_7 ?_
  refine j_eql (show ((lZ (k * 16384)) ||| (lZ (t)) : Int64) = lZ (k * 16384 + t) from (lZ_or 14 rfl (by omega) (by omega) (by omega))) ?_
  refine j_lstore_n (lv' := [(0, .int (iZ (k))), (1, .int (iZ (t))), (2, .int (iZ (u))), (3, .long (lZ (k * 16384 + t)))]) hG dX7_pack_8 rfl (by decide) rfl ?_
  refine j_lload_n hG dX7_pack_9 rfl rfl ?_
  refine j_bipush hG dX7_pack_10 (by decide) ?_
  refine j_lshl hG dX7_pack_12 ?_
  refine j_eql (show ((lZ (k * 16384 + t)) <<< ((iZ (31)).toInt64 &&& 63) : Int64) = lZ ((k * 16384 + t) * 2147483648) from (lZ_shl 31 (by omega) (by decide))) ?_
  refine j_iload_n hG dX7_pack_13 rfl rfl ?_
  refine j_ldc (z := 1000000000) hG dX7_pack_14 kX7_11 (by decide) ?_
  refine j_iadd hG dX7_pack_16 ?_
  refine j_i2l hG dX7_pack_17 (by omega) ?_
  refine j_lor hG dX7_pack_18 ?_
  refine j_eql (show ((lZ ((k * 16384 + t) * 2147483648)) ||| (lZ (u + 1000000000)) : Int64) = lZ (pk k t u) from (lZ_or 31 rfl (by omega) (by omega) (by omega))) ?_
  exact j_lret hG hZ dX7_pack_19 (Nat.zero_le _) (Nat.zero_le _) (⟨rfl, rfl⟩)
theorem c_X7_keyOf {l : Launch} {E : JE} {f : Hp} {x : Int}  (hx : rOk x) : KX7_keyOf l E [.long (lZ (x))] f (fun v f' => v = some (.int (iZ (rK x))) ∧ f = f') := by
  refine ct_of (own := RX7) (lv := [(0, .long (lZ (x)))]) (by decide +kernel) rfl (Nat.le_of_ble_eq_true rfl) rfl ?_
  intro G hG hZ
  unfold rOk at hx
  refine j_lload_n hG dX7_keyOf_0 rfl rfl ?_
  refine j_bipush hG dX7_keyOf_1 (by decide) ?_
  refine j_lushr hG dX7_keyOf_3 ?_
  refine j_eql (show (((lZ (x)).toUInt64 >>> ((iZ (45)).toInt64.toUInt64 &&& Int64.toUInt64 63)).toInt64 : Int64) = lZ (x / 35184372088832) from (lZ_ushr 45 (by omega) (by decide))) ?_
  refine j_l2i hG dX7_keyOf_4 ?_
  refine j_bipush hG dX7_keyOf_5 (by decide) ?_
  refine j_iand hG dX7_keyOf_7 ?_
  refine j_eqi (show ((iZ (x / 35184372088832)) &&& (iZ (31)) : Int32) = iZ (rK x) from ((iZ_mask 5 rfl (by decide) (by omega)).trans (congrArg iZ (by unfold rK; omega)))) ?_
  exact j_iret hG hZ dX7_keyOf_8 (Nat.zero_le _) (Nat.zero_le _) (⟨rfl, rfl⟩)
theorem c_X7_timeOf {l : Launch} {E : JE} {f : Hp} {x : Int}  (hx : rOk x) : KX7_timeOf l E [.long (lZ (x))] f (fun v f' => v = some (.int (iZ (rT x))) ∧ f = f') := by
  refine ct_of (own := RX7) (lv := [(0, .long (lZ (x)))]) (by decide +kernel) rfl (Nat.le_of_ble_eq_true rfl) rfl ?_
  intro G hG hZ
  unfold rOk at hx
  refine j_lload_n hG dX7_timeOf_0 rfl rfl ?_
  refine j_bipush hG dX7_timeOf_1 (by decide) ?_
  refine j_lushr hG dX7_timeOf_3 ?_
  refine j_eql (show (((lZ (x)).toUInt64 >>> ((iZ (31)).toInt64.toUInt64 &&& Int64.toUInt64 63)).toInt64 : Int64) = lZ (x / 2147483648) from (lZ_ushr 31 (by omega) (by decide))) ?_
  refine j_ldc2 (z := 16383) hG dX7_timeOf_4 kX7_12 (by decide) ?_
  refine j_land hG dX7_timeOf_7 ?_
  refine j_eql (show ((lZ (x / 2147483648)) &&& (lZ (16383)) : Int64) = lZ (rT x) from (lZ_mask 14 rfl (by decide) (by omega))) ?_
  refine j_l2i hG dX7_timeOf_8 ?_
  exact j_iret hG hZ dX7_timeOf_9 (Nat.zero_le _) (Nat.zero_le _) (⟨rfl, rfl⟩)
theorem c_X7_valueOf {l : Launch} {E : JE} {f : Hp} {x : Int}  (hx : rOk x) : KX7_valueOf l E [.long (lZ (x))] f (fun v f' => v = some (.int (iZ (rV x))) ∧ f = f') := by
  refine ct_of (own := RX7) (lv := [(0, .long (lZ (x)))]) (by decide +kernel) rfl (Nat.le_of_ble_eq_true rfl) rfl ?_
  intro G hG hZ
  unfold rOk at hx
  refine j_lload_n hG dX7_valueOf_0 rfl rfl ?_
  refine j_ldc2 (z := 2147483647) hG dX7_valueOf_1 kX7_14 (by decide) ?_
  refine j_land hG dX7_valueOf_4 ?_
  refine j_eql (show ((lZ (x)) &&& (lZ (2147483647)) : Int64) = lZ (x % 2147483648) from (lZ_mask 31 rfl (by decide) (by omega))) ?_
  refine j_l2i hG dX7_valueOf_5 ?_
  refine j_ldc (z := 1000000000) hG dX7_valueOf_6 kX7_11 (by decide) ?_
  refine j_isub hG dX7_valueOf_8 ?_
  exact j_iret hG hZ dX7_valueOf_9 (Nat.zero_le _) (Nat.zero_le _) (⟨rfl, rfl⟩)
theorem c_X7_groupOf {l : Launch} {E : JE} {f : Hp} {x : Int}  (hx : rOk x) : KX7_groupOf l E [.long (lZ (x))] f (fun v f' => v = some (.long (lZ (rG x))) ∧ f = f') := by
  refine ct_of (own := RX7) (lv := [(0, .long (lZ (x)))]) (by decide +kernel) rfl (Nat.le_of_ble_eq_true rfl) rfl ?_
  intro G hG hZ
  unfold rOk at hx
  refine j_lload_n hG dX7_groupOf_0 rfl rfl ?_
  refine j_bipush hG dX7_groupOf_1 (by decide) ?_
  refine j_lushr hG dX7_groupOf_3 ?_
  refine j_eql (show (((lZ (x)).toUInt64 >>> ((iZ (31)).toInt64.toUInt64 &&& Int64.toUInt64 63)).toInt64 : Int64) = lZ (rG x) from (lZ_ushr 31 (by omega) (by decide))) ?_
  exact j_lret hG hZ dX7_groupOf_4 (Nat.zero_le _) (Nat.zero_le _) (⟨rfl, rfl⟩)
/-- a part of a ROW -/
def rP (x w : Int) : Int := if w = 0 then rK x else if w = 1 then rV x else if w = 2 then rT x else -2000000000
theorem c_X7_partOf {l : Launch} {E : JE} {f : Hp} {x u : Int}  (hx : rOk x) (hu : -2147483648 ≤ u ∧ u < 2147483648) : KX7_partOf l E [.long (lZ (x)), .int (iZ (u))] f (fun v f' => v = some (.int (iZ (rP x u))) ∧ f = f') := by
  refine ct_of (own := RX7) (lv := [(0, .long (lZ (x))), (2, .int (iZ (u)))]) (by decide +kernel) rfl (Nat.le_of_ble_eq_true rfl) rfl ?_
  intro G hG hZ
  refine j_iload_n hG dX7_partOf_0 rfl rfl ?_
  rcases (show (u < 0 ∨ 2 < u) ∨ u = 0 ∨ u = 1 ∨ u = 2 by omega) with c1 | c1 | c1 | c1
  · -- case None at 1
    refine j_tswOut (tgt := 43) hG dX7_partOf_1 c1 (by omega) (by decide) ?_
    refine j_ldc (z := -2000000000) hG dX7_partOf_43 kX7_26 (by decide) ?_
    exact j_iret hG hZ dX7_partOf_45 (Nat.zero_le _) (Nat.zero_le _) (⟨by unfold rP; first | (subst u; rfl) | (rw [if_neg (by omega), if_neg (by omega), if_neg (by omega)]), rfl⟩)
  · -- case 0 at 1
    refine j_tswIn (tgt := 28) (off := 27) hG (0) dX7_partOf_1 c1 (by decide) (by decide) rfl (by decide) ?_
    refine j_lload_n hG dX7_partOf_28 rfl rfl ?_
    refine j_callS (rest := []) hG vX7_16 dX7_partOf_29 (c_X7_keyOf (x := x) hx) rfl rfl (by decide) (by decide) (Nat.le_of_ble_eq_true rfl) rfl rfl (Nat.zero_le _) (Nat.zero_le _) ?_
    rintro _ _ ⟨rfl, rfl⟩
    refine j_st (st' := [.int (iZ (rK x))]) rfl ?_
    exact j_iret hG hZ dX7_partOf_32 (Nat.zero_le _) (Nat.zero_le _) (⟨by unfold rP; first | (subst u; rfl) | (rw [if_neg (by omega), if_neg (by omega), if_neg (by omega)]), rfl⟩)
  · -- case 1 at 1
    refine j_tswIn (tgt := 33) (off := 32) hG (1) dX7_partOf_1 c1 (by decide) (by decide) rfl (by decide) ?_
    refine j_lload_n hG dX7_partOf_33 rfl rfl ?_
    refine j_callS (rest := []) hG vX7_20 dX7_partOf_34 (c_X7_valueOf (x := x) hx) rfl rfl (by decide) (by decide) (Nat.le_of_ble_eq_true rfl) rfl rfl (Nat.zero_le _) (Nat.zero_le _) ?_
    rintro _ _ ⟨rfl, rfl⟩
    refine j_st (st' := [.int (iZ (rV x))]) rfl ?_
    exact j_iret hG hZ dX7_partOf_37 (Nat.zero_le _) (Nat.zero_le _) (⟨by unfold rP; first | (subst u; rfl) | (rw [if_neg (by omega), if_neg (by omega), if_neg (by omega)]), rfl⟩)
  · -- case 2 at 1
    refine j_tswIn (tgt := 38) (off := 37) hG (2) dX7_partOf_1 c1 (by decide) (by decide) rfl (by decide) ?_
    refine j_lload_n hG dX7_partOf_38 rfl rfl ?_
    refine j_callS (rest := []) hG vX7_23 dX7_partOf_39 (c_X7_timeOf (x := x) hx) rfl rfl (by decide) (by decide) (Nat.le_of_ble_eq_true rfl) rfl rfl (Nat.zero_le _) (Nat.zero_le _) ?_
    rintro _ _ ⟨rfl, rfl⟩
    refine j_st (st' := [.int (iZ (rT x))]) rfl ?_
    exact j_iret hG hZ dX7_partOf_42 (Nat.zero_le _) (Nat.zero_le _) (⟨by unfold rP; first | (subst u; rfl) | (rw [if_neg (by omega), if_neg (by omega), if_neg (by omega)]), rfl⟩)
theorem c_X6_rowsRead {l : Launch} {E : JE} {f : Hp} {r : Nat} {a b c : Int} (h : f r = oB 6 [.int (iZ (a)), .int (iZ (b)), .int (iZ (c))])  : KX6_rowsRead l E [.ref r] f (fun v f' => v = some (.int (iZ (a))) ∧ f = f') := by
  refine ct_of (own := RX6) (lv := [(0, .ref r)]) (by decide +kernel) rfl (Nat.le_of_ble_eq_true rfl) rfl ?_
  intro G hG hZ
  refine j_aload_n hG dX6_rowsRead_0 rfl rfl ?_
  refine j_get hG fX6_15 dX6_rowsRead_1 h rfl ?_
  exact j_iret hG hZ dX6_rowsRead_4 (Nat.zero_le _) (Nat.zero_le _) (⟨rfl, rfl⟩)
theorem c_X6_rowsLate {l : Launch} {E : JE} {f : Hp} {r : Nat} {a b c : Int} (h : f r = oB 6 [.int (iZ (a)), .int (iZ (b)), .int (iZ (c))])  : KX6_rowsLate l E [.ref r] f (fun v f' => v = some (.int (iZ (b))) ∧ f = f') := by
  refine ct_of (own := RX6) (lv := [(0, .ref r)]) (by decide +kernel) rfl (Nat.le_of_ble_eq_true rfl) rfl ?_
  intro G hG hZ
  refine j_aload_n hG dX6_rowsLate_0 rfl rfl ?_
  refine j_get hG fX6_18 dX6_rowsLate_1 h rfl ?_
  exact j_iret hG hZ dX6_rowsLate_4 (Nat.zero_le _) (Nat.zero_le _) (⟨rfl, rfl⟩)
theorem c_X6_greatestTime {l : Launch} {E : JE} {f : Hp} {r : Nat} {a b c : Int} (h : f r = oB 6 [.int (iZ (a)), .int (iZ (b)), .int (iZ (c))])  : KX6_greatestTime l E [.ref r] f (fun v f' => v = some (.int (iZ (c))) ∧ f = f') := by
  refine ct_of (own := RX6) (lv := [(0, .ref r)]) (by decide +kernel) rfl (Nat.le_of_ble_eq_true rfl) rfl ?_
  intro G hG hZ
  refine j_aload_n hG dX6_greatestTime_0 rfl rfl ?_
  refine j_get hG fX6_9 dX6_greatestTime_1 h rfl ?_
  exact j_iret hG hZ dX6_greatestTime_4 (Nat.zero_le _) (Nat.zero_le _) (⟨rfl, rfl⟩)
theorem c_X2_size {l : Launch} {E : JE} {f : Hp} {r p q : Nat} {a : Int} (h : f r = oB 2 [.ref p, .ref q, .int (iZ (a))])  : KX2_size l E [.ref r] f (fun v f' => v = some (.int (iZ (a))) ∧ f = f') := by
  refine ct_of (own := RX2) (lv := [(0, .ref r)]) (by decide +kernel) rfl (Nat.le_of_ble_eq_true rfl) rfl ?_
  intro G hG hZ
  refine j_aload_n hG dX2_size_0 rfl rfl ?_
  refine j_get hG fX2_19 dX2_size_1 h rfl ?_
  exact j_iret hG hZ dX2_size_4 (Nat.zero_le _) (Nat.zero_le _) (⟨rfl, rfl⟩)
theorem c_X1_size {l : Launch} {E : JE} {f : Hp} {r p q : Nat} {a : Int} (h : f r = oB 1 [.ref p, .ref q, .int (iZ (a))])  : KX1_size l E [.ref r] f (fun v f' => v = some (.int (iZ (a))) ∧ f = f') := by
  refine ct_of (own := RX1) (lv := [(0, .ref r)]) (by decide +kernel) rfl (Nat.le_of_ble_eq_true rfl) rfl ?_
  intro G hG hZ
  refine j_aload_n hG dX1_size_0 rfl rfl ?_
  refine j_get hG fX1_15 dX1_size_1 h rfl ?_
  exact j_iret hG hZ dX1_size_4 (Nat.zero_le _) (Nat.zero_le _) (⟨rfl, rfl⟩)
theorem c_X0_size {l : Launch} {E : JE} {f : Hp} {r p : Nat} {a : Int} (h : f r = oB 0 [.ref p, .int (iZ (a))])  : KX0_size l E [.ref r] f (fun v f' => v = some (.int (iZ (a))) ∧ f = f') := by
  refine ct_of (own := RX0) (lv := [(0, .ref r)]) (by decide +kernel) rfl (Nat.le_of_ble_eq_true rfl) rfl ?_
  intro G hG hZ
  refine j_aload_n hG dX0_size_0 rfl rfl ?_
  refine j_get hG fX0_15 dX0_size_1 h rfl ?_
  exact j_iret hG hZ dX0_size_4 (Nat.zero_le _) (Nat.zero_le _) (⟨rfl, rfl⟩)
theorem c_X8_size {l : Launch} {E : JE} {f : Hp} {r p : Nat} {a b : Int} (h : f r = oB 7 [.ref p, .int (iZ (a)), .int (iZ (b))])  : KX8_size l E [.ref r] f (fun v f' => v = some (.int (iZ (a))) ∧ f = f') := by
  refine ct_of (own := RX8) (lv := [(0, .ref r)]) (by decide +kernel) rfl (Nat.le_of_ble_eq_true rfl) rfl ?_
  intro G hG hZ
  refine j_aload_n hG dX8_size_0 rfl rfl ?_
  refine j_get hG fX8_15 dX8_size_1 h rfl ?_
  exact j_iret hG hZ dX8_size_4 (Nat.zero_le _) (Nat.zero_le _) (⟨rfl, rfl⟩)
theorem c_X5_size {l : Launch} {E : JE} {f : Hp} {r p : Nat} {a : Int} (h : f r = oB 5 [.ref p, .int (iZ (a))])  : KX5_size l E [.ref r] f (fun v f' => v = some (.int (iZ (a))) ∧ f = f') := by
  refine ct_of (own := RX5) (lv := [(0, .ref r)]) (by decide +kernel) rfl (Nat.le_of_ble_eq_true rfl) rfl ?_
  intro G hG hZ
  refine j_aload_n hG dX5_size_0 rfl rfl ?_
  refine j_get hG fX5_18 dX5_size_1 h rfl ?_
  exact j_iret hG hZ dX5_size_4 (Nat.zero_le _) (Nat.zero_le _) (⟨rfl, rfl⟩)
theorem c_X10_length {l : Launch} {E : JE} {f : Hp} {r p : Nat} {a b c : Int} (h : f r = oB 9 [.ref p, .int (iZ (a)), .int (iZ (b)), .int (iZ (c))])  : KX10_length l E [.ref r] f (fun v f' => v = some (.int (iZ (a))) ∧ f = f') := by
  refine ct_of (own := RX10) (lv := [(0, .ref r)]) (by decide +kernel) rfl (Nat.le_of_ble_eq_true rfl) rfl ?_
  intro G hG hZ
  refine j_aload_n hG dX10_length_0 rfl rfl ?_
  refine j_get hG fX10_15 dX10_length_1 h rfl ?_
  exact j_iret hG hZ dX10_length_4 (Nat.zero_le _) (Nat.zero_le _) (⟨rfl, rfl⟩)
theorem c_X10_place {l : Launch} {E : JE} {f : Hp} {r p : Nat} {a b c : Int} (h : f r = oB 9 [.ref p, .int (iZ (a)), .int (iZ (b)), .int (iZ (c))])  : KX10_place l E [.ref r] f (fun v f' => v = some (.int (iZ (b))) ∧ f = f') := by
  refine ct_of (own := RX10) (lv := [(0, .ref r)]) (by decide +kernel) rfl (Nat.le_of_ble_eq_true rfl) rfl ?_
  intro G hG hZ
  refine j_aload_n hG dX10_place_0 rfl rfl ?_
  refine j_get hG fX10_34 dX10_place_1 h rfl ?_
  exact j_iret hG hZ dX10_place_4 (Nat.zero_le _) (Nat.zero_le _) (⟨rfl, rfl⟩)
theorem c_X8_isFull {l : Launch} {E : JE} {f : Hp} {r p : Nat} {a b : Int} (h : f r = oB 7 [.ref p, .int (iZ (a)), .int (iZ (b))]) (hb : b = 0 ∨ b = 1) : KX8_isFull l E [.ref r] f (fun v f' => v = some (.int (iZ b)) ∧ f = f') := by
  refine ct_of (own := RX8) (lv := [(0, .ref r)]) (by decide +kernel) rfl (Nat.le_of_ble_eq_true rfl) rfl ?_
  intro G hG hZ
  refine j_aload_n hG dX8_isFull_0 rfl rfl ?_
  refine j_get hG fX8_19 dX8_isFull_1 h rfl ?_
  exact j_zret hG hZ dX8_isFull_4 (Nat.zero_le _) (Nat.zero_le _) (nar_zr (by omega)) (⟨rfl, rfl⟩)
theorem c_X6_clear {l : Launch} {E : JE} {f : Hp} {r : Nat} {a b c : Int} (h : f r = oB 6 [.int (iZ (a)), .int (iZ (b)), .int (iZ (c))])  : KX6_clear l E [.ref r] f (fun v f' => v = none ∧ f' r = oB 6 [.int (iZ (0)), .int (iZ (0)), .int (iZ (-1))] ∧ (∀ q, q ≠ r → f' q = f q)) := by
  refine ct_of (own := RX6) (lv := [(0, .ref r)]) (by decide +kernel) rfl (Nat.le_of_ble_eq_true rfl) rfl ?_
  intro G hG hZ
  refine j_aload_n hG dX6_clear_0 rfl rfl ?_
  refine j_iconst hG dX6_clear_1 ?_
  refine j_put hG pX6_15 dX6_clear_2 h rfl rfl (Nat.le_of_ble_eq_true rfl) (fun f1 h2 fr3 => ?_)
  have h2 : f1 r = oB 6 [.int (iZ (0)), .int (iZ (b)), .int (iZ (c))] := h2
  refine j_aload_n hG dX6_clear_5 rfl rfl ?_
  refine j_iconst hG dX6_clear_6 ?_
  refine j_put hG pX6_18 dX6_clear_7 h2 rfl rfl (Nat.le_of_ble_eq_true rfl) (fun f4 h5 fr6 => ?_)
  have h5 : f4 r = oB 6 [.int (iZ (0)), .int (iZ (0)), .int (iZ (c))] := h5
  refine j_aload_n hG dX6_clear_10 rfl rfl ?_
  refine j_iconst hG dX6_clear_11 ?_
  refine j_put hG pX6_9 dX6_clear_12 h5 rfl rfl (Nat.le_of_ble_eq_true rfl) (fun f7 h8 fr9 => ?_)
  have h8 : f7 r = oB 6 [.int (iZ (0)), .int (iZ (0)), .int (iZ (-1))] := h8
  exact j_vret hG hZ dX6_clear_15 (Nat.zero_le _) (Nat.zero_le _) (⟨rfl, h8, fun q hq => (Eq.trans (fr9 q hq) (Eq.trans (fr6 q hq) (fr3 q hq)))⟩)
theorem c_X6_copy {l : Launch} {E : JE} {f : Hp} {r o : Nat} {a b c a2 b2 c2 : Int} (h : f r = oB 6 [.int (iZ (a)), .int (iZ (b)), .int (iZ (c))]) (ho : f o = oB 6 [.int (iZ (a2)), .int (iZ (b2)), .int (iZ (c2))]) (hne : o ≠ r) : KX6_copy l E [.ref r, .ref o] f (fun v f' => v = none ∧ f' r = oB 6 [.int (iZ (a2)), .int (iZ (b2)), .int (iZ (c2))] ∧ (∀ q, q ≠ r → f' q = f q)) := by
  refine ct_of (own := RX6) (lv := [(0, .ref r), (1, .ref o)]) (by decide +kernel) rfl (Nat.le_of_ble_eq_true rfl) rfl ?_
  intro G hG hZ
  refine j_aload_n hG dX6_copy_0 rfl rfl ?_
  refine j_aload_n hG dX6_copy_1 rfl rfl ?_
  refine j_get hG fX6_15 dX6_copy_2 ho rfl ?_
  refine j_put hG pX6_15 dX6_copy_5 h rfl rfl (Nat.le_of_ble_eq_true rfl) (fun f1 h2 fr3 => ?_)
  have h2 : f1 r = oB 6 [.int (iZ (a2)), .int (iZ (b)), .int (iZ (c))] := h2
  have h4 := (fr3 o hne).trans ho
  refine j_aload_n hG dX6_copy_8 rfl rfl ?_
  refine j_aload_n hG dX6_copy_9 rfl rfl ?_
  refine j_get hG fX6_18 dX6_copy_10 h4 rfl ?_
  refine j_put hG pX6_18 dX6_copy_13 h2 rfl rfl (Nat.le_of_ble_eq_true rfl) (fun f5 h6 fr7 => ?_)
  have h6 : f5 r = oB 6 [.int (iZ (a2)), .int (iZ (b2)), .int (iZ (c))] := h6
  have h8 := (fr7 o hne).trans h4
  refine j_aload_n hG dX6_copy_16 rfl rfl ?_
  refine j_aload_n hG dX6_copy_17 rfl rfl ?_
  refine j_get hG fX6_9 dX6_copy_18 h8 rfl ?_
  refine j_put hG pX6_9 dX6_copy_21 h6 rfl rfl (Nat.le_of_ble_eq_true rfl) (fun f9 h10 fr11 => ?_)
  have h10 : f9 r = oB 6 [.int (iZ (a2)), .int (iZ (b2)), .int (iZ (c2))] := h10
  have h12 := (fr11 o hne).trans h8
  exact j_vret hG hZ dX6_copy_24 (Nat.zero_le _) (Nat.zero_le _) (⟨rfl, h10, fun q hq => (Eq.trans (fr11 q hq) (Eq.trans (fr7 q hq) (fr3 q hq)))⟩)
theorem c_X6_step {l : Launch} {E : JE} {f : Hp} {r : Nat} {a b c t z : Int} (h : f r = oB 6 [.int (iZ (a)), .int (iZ (b)), .int (iZ (c))]) (hz : z = 0 ∨ z = 1) (hc : -2147483648 ≤ c ∧ c < 2147483648) (ht : -2147483648 ≤ t ∧ t < 2147483648) : KX6_step l E [.ref r, .int (iZ (t)), .int (iZ (z))] f (fun v f' => v = none ∧ f' r = oB 6 [.int (iZ (a + 1)), .int (iZ (b + z)), .int (iZ (max c t))] ∧ (∀ q, q ≠ r → f' q = f q)) := by
  refine ct_of (own := RX6) (lv := [(0, .ref r), (1, .int (iZ (t))), (2, .int (iZ (z)))]) (by decide +kernel) rfl (Nat.le_of_ble_eq_true rfl) rfl ?_
  intro G hG hZ
  refine j_aload_n hG dX6_step_0 rfl rfl ?_
  refine j_dup hG dX6_step_1 rfl ?_
  refine j_get hG fX6_15 dX6_step_2 h rfl ?_
  refine j_iconst hG dX6_step_5 ?_
  refine j_iadd hG dX6_step_6 ?_
  refine j_put hG pX6_15 dX6_step_7 h rfl rfl (Nat.le_of_ble_eq_true rfl) (fun f1 h2 fr3 => ?_)
  have h2 : f1 r = oB 6 [.int (iZ (a + 1)), .int (iZ (b)), .int (iZ (c))] := h2
  refine j_aload_n hG dX6_step_10 rfl rfl ?_
  refine j_dup hG dX6_step_11 rfl ?_
  refine j_get hG fX6_18 dX6_step_12 h2 rfl ?_
  refine j_iload_n hG dX6_step_15 rfl rfl ?_
  refine j_if_eq (tgt := 23) hG dX6_step_16 (by decide) (by omega) (fun c4 => ?_) (fun c4 => ?_)
  · -- taken at 16
    refine j_iconst hG dX6_step_23 ?_
    refine j_iadd hG dX6_step_24 ?_
    refine j_put hG pX6_18 dX6_step_25 h2 rfl rfl (Nat.le_of_ble_eq_true rfl) (fun f5 h6 fr7 => ?_)
    have h6 : f5 r = oB 6 [.int (iZ (a + 1)), .int (iZ (b + 0)), .int (iZ (c))] := h6
    refine j_aload_n hG dX6_step_28 rfl rfl ?_
    refine j_aload_n hG dX6_step_29 rfl rfl ?_
    refine j_get hG fX6_9 dX6_step_30 h6 rfl ?_
    refine j_iload_n hG dX6_step_33 rfl rfl ?_
    refine j_max hG vX6_21 dX6_step_34 (by omega) (by omega) (by decide) (by decide) (Nat.le_of_ble_eq_true rfl) (Nat.zero_le _) (Nat.zero_le _) ?_
    refine j_put hG pX6_9 dX6_step_37 h6 rfl rfl (Nat.le_of_ble_eq_true rfl) (fun f8 h9 fr10 => ?_)
    have h9 : f8 r = oB 6 [.int (iZ (a + 1)), .int (iZ (b + 0)), .int (iZ (max c t))] := h9
    have e9 : b + 0 = b + z := by omega
    have h9 := h9
    rw [e9] at h9
    exact j_vret hG hZ dX6_step_40 (Nat.zero_le _) (Nat.zero_le _) (⟨rfl, h9, fun q hq => (Eq.trans (fr10 q hq) (Eq.trans (fr7 q hq) (fr3 q hq)))⟩)
  · -- on at 16
    refine j_iconst hG dX6_step_19 ?_
    refine j_goto (tgt := 24) hG dX6_step_20 (by decide) ?_
    refine j_iadd hG dX6_step_24 ?_
    refine j_put hG pX6_18 dX6_step_25 h2 rfl rfl (Nat.le_of_ble_eq_true rfl) (fun f11 h12 fr13 => ?_)
    have h12 : f11 r = oB 6 [.int (iZ (a + 1)), .int (iZ (b + 1)), .int (iZ (c))] := h12
    refine j_aload_n hG dX6_step_28 rfl rfl ?_
    refine j_aload_n hG dX6_step_29 rfl rfl ?_
    refine j_get hG fX6_9 dX6_step_30 h12 rfl ?_
    refine j_iload_n hG dX6_step_33 rfl rfl ?_
    refine j_max hG vX6_21 dX6_step_34 (by omega) (by omega) (by decide) (by decide) (Nat.le_of_ble_eq_true rfl) (Nat.zero_le _) (Nat.zero_le _) ?_
    refine j_put hG pX6_9 dX6_step_37 h12 rfl rfl (Nat.le_of_ble_eq_true rfl) (fun f14 h15 fr16 => ?_)
    have h15 : f14 r = oB 6 [.int (iZ (a + 1)), .int (iZ (b + 1)), .int (iZ (max c t))] := h15
    have e9 : b + 1 = b + z := by omega
    have h9 := h15
    rw [e9] at h9
    exact j_vret hG hZ dX6_step_40 (Nat.zero_le _) (Nat.zero_le _) (⟨rfl, h9, fun q hq => (Eq.trans (fr16 q hq) (Eq.trans (fr13 q hq) (fr3 q hq)))⟩)
theorem c_X0_clear {l : Launch} {E : JE} {f : Hp} {r p : Nat} {a : Int} (h : f r = oB 0 [.ref p, .int (iZ (a))])  : KX0_clear l E [.ref r] f (fun v f' => v = none ∧ f' r = oB 0 [.ref p, .int (iZ (0))] ∧ (∀ q, q ≠ r → f' q = f q)) := by
  refine ct_of (own := RX0) (lv := [(0, .ref r)]) (by decide +kernel) rfl (Nat.le_of_ble_eq_true rfl) rfl ?_
  intro G hG hZ
  refine j_aload_n hG dX0_clear_0 rfl rfl ?_
  refine j_iconst hG dX0_clear_1 ?_
  refine j_put hG pX0_15 dX0_clear_2 h rfl rfl (Nat.le_of_ble_eq_true rfl) (fun f1 h2 fr3 => ?_)
  have h2 : f1 r = oB 0 [.ref p, .int (iZ (0))] := h2
  exact j_vret hG hZ dX0_clear_5 (Nat.zero_le _) (Nat.zero_le _) (⟨rfl, h2, fun q hq => (fr3 q hq)⟩)
theorem c_X5_clear {l : Launch} {E : JE} {f : Hp} {r p : Nat} {a : Int} (h : f r = oB 5 [.ref p, .int (iZ (a))])  : KX5_clear l E [.ref r] f (fun v f' => v = none ∧ f' r = oB 5 [.ref p, .int (iZ (0))] ∧ (∀ q, q ≠ r → f' q = f q)) := by
  refine ct_of (own := RX5) (lv := [(0, .ref r)]) (by decide +kernel) rfl (Nat.le_of_ble_eq_true rfl) rfl ?_
  intro G hG hZ
  refine j_aload_n hG dX5_clear_0 rfl rfl ?_
  refine j_iconst hG dX5_clear_1 ?_
  refine j_put hG pX5_18 dX5_clear_2 h rfl rfl (Nat.le_of_ble_eq_true rfl) (fun f1 h2 fr3 => ?_)
  have h2 : f1 r = oB 5 [.ref p, .int (iZ (0))] := h2
  exact j_vret hG hZ dX5_clear_5 (Nat.zero_le _) (Nat.zero_le _) (⟨rfl, h2, fun q hq => (fr3 q hq)⟩)
theorem c_X8_clear {l : Launch} {E : JE} {f : Hp} {r p : Nat} {a b : Int} (h : f r = oB 7 [.ref p, .int (iZ (a)), .int (iZ (b))])  : KX8_clear l E [.ref r] f (fun v f' => v = none ∧ f' r = oB 7 [.ref p, .int (iZ (0)), .int (iZ (0))] ∧ (∀ q, q ≠ r → f' q = f q)) := by
  refine ct_of (own := RX8) (lv := [(0, .ref r)]) (by decide +kernel) rfl (Nat.le_of_ble_eq_true rfl) rfl ?_
  intro G hG hZ
  refine j_aload_n hG dX8_clear_0 rfl rfl ?_
  refine j_iconst hG dX8_clear_1 ?_
  refine j_put hG pX8_15 dX8_clear_2 h rfl rfl (Nat.le_of_ble_eq_true rfl) (fun f1 h2 fr3 => ?_)
  have h2 : f1 r = oB 7 [.ref p, .int (iZ (0)), .int (iZ (b))] := h2
  refine j_aload_n hG dX8_clear_5 rfl rfl ?_
  refine j_iconst hG dX8_clear_6 ?_
  refine j_put hG pX8_19 dX8_clear_7 h2 (nar_zr (by omega)) (fit_z (by omega)) (Nat.le_of_ble_eq_true rfl) (fun f4 h5 fr6 => ?_)
  have h5 : f4 r = oB 7 [.ref p, .int (iZ (0)), .int (iZ (0))] := h5
  exact j_vret hG hZ dX8_clear_10 (Nat.zero_le _) (Nat.zero_le _) (⟨rfl, h5, fun q hq => (Eq.trans (fr6 q hq) (fr3 q hq))⟩)
theorem c_X3_clear {l : Launch} {E : JE} {f : Hp} {r : Nat} {a b c e g m : Int} (h : f r = oB 3 [.int (iZ (a)), .int (iZ (b)), .int (iZ (c)), .int (iZ (e)), .int (iZ (g)), .int (iZ (m))])  : KX3_clear l E [.ref r] f (fun v f' => v = none ∧ f' r = oB 3 [.int (iZ (0)), .int (iZ (-1)), .int (iZ (-1)), .int (iZ (0)), .int (iZ (61)), .int (iZ (0))] ∧ (∀ q, q ≠ r → f' q = f q)) := by
  refine ct_of (own := RX3) (lv := [(0, .ref r)]) (by decide +kernel) rfl (Nat.le_of_ble_eq_true rfl) rfl ?_
  intro G hG hZ
  refine j_aload_n hG dX3_clear_0 rfl rfl ?_
  refine j_iconst hG dX3_clear_1 ?_
  refine j_put hG pX3_9 dX3_clear_2 h rfl rfl (Nat.le_of_ble_eq_true rfl) (fun f1 h2 fr3 => ?_)
  have h2 : f1 r = oB 3 [.int (iZ (0)), .int (iZ (b)), .int (iZ (c)), .int (iZ (e)), .int (iZ (g)), .int (iZ (m))] := h2
  refine j_aload_n hG dX3_clear_5 rfl rfl ?_
  refine j_iconst hG dX3_clear_6 ?_
  refine j_put hG pX3_15 dX3_clear_7 h2 rfl rfl (Nat.le_of_ble_eq_true rfl) (fun f4 h5 fr6 => ?_)
  have h5 : f4 r = oB 3 [.int (iZ (0)), .int (iZ (-1)), .int (iZ (c)), .int (iZ (e)), .int (iZ (g)), .int (iZ (m))] := h5
  refine j_aload_n hG dX3_clear_10 rfl rfl ?_
  refine j_iconst hG dX3_clear_11 ?_
  refine j_put hG pX3_18 dX3_clear_12 h5 rfl rfl (Nat.le_of_ble_eq_true rfl) (fun f7 h8 fr9 => ?_)
  have h8 : f7 r = oB 3 [.int (iZ (0)), .int (iZ (-1)), .int (iZ (-1)), .int (iZ (e)), .int (iZ (g)), .int (iZ (m))] := h8
  refine j_aload_n hG dX3_clear_15 rfl rfl ?_
  refine j_iconst hG dX3_clear_16 ?_
  refine j_put hG pX3_21 dX3_clear_17 h8 rfl rfl (Nat.le_of_ble_eq_true rfl) (fun f10 h11 fr12 => ?_)
  have h11 : f10 r = oB 3 [.int (iZ (0)), .int (iZ (-1)), .int (iZ (-1)), .int (iZ (0)), .int (iZ (g)), .int (iZ (m))] := h11
  refine j_aload_n hG dX3_clear_20 rfl rfl ?_
  refine j_bipush hG dX3_clear_21 (by decide) ?_
  refine j_put hG pX3_24 dX3_clear_23 h11 (nar_cr (by omega)) (fit_c (by omega)) (Nat.le_of_ble_eq_true rfl) (fun f13 h14 fr15 => ?_)
  have h14 : f13 r = oB 3 [.int (iZ (0)), .int (iZ (-1)), .int (iZ (-1)), .int (iZ (0)), .int (iZ (61)), .int (iZ (m))] := h14
  refine j_aload_n hG dX3_clear_26 rfl rfl ?_
  refine j_iconst hG dX3_clear_27 ?_
  refine j_put hG pX3_28 dX3_clear_28 h14 rfl rfl (Nat.le_of_ble_eq_true rfl) (fun f16 h17 fr18 => ?_)
  have h17 : f16 r = oB 3 [.int (iZ (0)), .int (iZ (-1)), .int (iZ (-1)), .int (iZ (0)), .int (iZ (61)), .int (iZ (0))] := h17
  exact j_vret hG hZ dX3_clear_31 (Nat.zero_le _) (Nat.zero_le _) (⟨rfl, h17, fun q hq => (Eq.trans (fr18 q hq) (Eq.trans (fr15 q hq) (Eq.trans (fr12 q hq) (Eq.trans (fr9 q hq) (Eq.trans (fr6 q hq) (fr3 q hq))))))⟩)
theorem c_X5_add {l : Launch} {E : JE} {f : Hp} {r p : Nat} {a : Int} (h : f r = oB 5 [.ref p, .int (iZ (a))]) (ha : 0 ≤ a ∧ a < 12) : KX5_add l E [.ref r] f (fun v f' => v = none ∧ f' r = oB 5 [.ref p, .int (iZ (a + 1))] ∧ (∀ q, q ≠ r → f' q = f q)) := by
  refine ct_of (own := RX5) (lv := [(0, .ref r)]) (by decide +kernel) rfl (Nat.le_of_ble_eq_true rfl) rfl ?_
  intro G hG hZ
  refine j_aload_n hG dX5_add_0 rfl rfl ?_
  refine j_get hG fX5_18 dX5_add_1 h rfl ?_
  refine j_bipush hG dX5_add_4 (by decide) ?_
  refine j_icmp_ge (tgt := 19) hG dX5_add_6 (by decide) (by omega) (by omega) (fun c1 => ?_) (fun c1 => ?_)
  · -- taken at 6
    exfalso; omega
  · -- on at 6
    refine j_aload_n hG dX5_add_9 rfl rfl ?_
    refine j_dup hG dX5_add_10 rfl ?_
    refine j_get hG fX5_18 dX5_add_11 h rfl ?_
    refine j_iconst hG dX5_add_14 ?_
    refine j_iadd hG dX5_add_15 ?_
    refine j_put hG pX5_18 dX5_add_16 h rfl rfl (Nat.le_of_ble_eq_true rfl) (fun f2 h3 fr4 => ?_)
    have h3 : f2 r = oB 5 [.ref p, .int (iZ (a + 1))] := h3
    exact j_vret hG hZ dX5_add_19 (Nat.zero_le _) (Nat.zero_le _) (⟨rfl, h3, fun q hq => (fr4 q hq)⟩)
theorem c_X10_cut {l : Launch} {E : JE} {f : Hp} {r p : Nat} {a b c n : Int} (h : f r = oB 9 [.ref p, .int (iZ (a)), .int (iZ (b)), .int (iZ (c))]) (ha : -2147483648 ≤ a ∧ a < 2147483648) (hn : -2147483648 ≤ n ∧ n < 2147483648) : KX10_cut l E [.ref r, .int (iZ (n))] f (fun v f' => v = none ∧ f' r = oB 9 [.ref p, .int (iZ (max 0 (min n a))), .int (iZ (b)), .int (iZ (c))] ∧ (∀ q, q ≠ r → f' q = f q)) := by
  refine ct_of (own := RX10) (lv := [(0, .ref r), (1, .int (iZ (n)))]) (by decide +kernel) rfl (Nat.le_of_ble_eq_true rfl) rfl ?_
  intro G hG hZ
  refine j_aload_n hG dX10_cut_0 rfl rfl ?_
  refine j_iconst hG dX10_cut_1 ?_
  refine j_iload_n hG dX10_cut_2 rfl rfl ?_
  refine j_aload_n hG dX10_cut_3 rfl rfl ?_
  refine j_get hG fX10_15 dX10_cut_4 h rfl ?_
  refine j_min hG vX10_19 dX10_cut_7 (by omega) (by omega) (by decide) (by decide) (Nat.le_of_ble_eq_true rfl) (Nat.zero_le _) (Nat.zero_le _) ?_
  refine j_max hG vX10_25 dX10_cut_10 (by omega) (by omega) (by decide) (by decide) (Nat.le_of_ble_eq_true rfl) (Nat.zero_le _) (Nat.zero_le _) ?_
  refine j_put hG pX10_15 dX10_cut_13 h rfl rfl (Nat.le_of_ble_eq_true rfl) (fun f1 h2 fr3 => ?_)
  have h2 : f1 r = oB 9 [.ref p, .int (iZ (max 0 (min n a))), .int (iZ (b)), .int (iZ (c))] := h2
  exact j_vret hG hZ dX10_cut_16 (Nat.zero_le _) (Nat.zero_le _) (⟨rfl, h2, fun q hq => (fr3 q hq)⟩)
theorem c_X10_isAtEnd {l : Launch} {E : JE} {f : Hp} {r p : Nat} {a b c : Int} (h : f r = oB 9 [.ref p, .int (iZ (a)), .int (iZ (b)), .int (iZ (c))]) (ha : -2147483648 ≤ a ∧ a < 2147483648) (hb : -2147483648 ≤ b ∧ b < 2147483648) : KX10_isAtEnd l E [.ref r] f (fun v f' => (∃ z : Int, v = some (.int (iZ z)) ∧ ((z = 1 ∧ a ≤ b) ∨ (z = 0 ∧ b < a))) ∧ f = f') := by
  refine ct_of (own := RX10) (lv := [(0, .ref r)]) (by decide +kernel) rfl (Nat.le_of_ble_eq_true rfl) rfl ?_
  intro G hG hZ
  refine j_aload_n hG dX10_isAtEnd_0 rfl rfl ?_
  refine j_get hG fX10_34 dX10_isAtEnd_1 h rfl ?_
  refine j_aload_n hG dX10_isAtEnd_4 rfl rfl ?_
  refine j_get hG fX10_15 dX10_isAtEnd_5 h rfl ?_
  refine j_icmp_lt (tgt := 15) hG dX10_isAtEnd_8 (by decide) (by omega) (by omega) (fun c1 => ?_) (fun c1 => ?_)
  · -- taken at 8
    refine j_iconst hG dX10_isAtEnd_15 ?_
    exact j_zret hG hZ dX10_isAtEnd_16 (Nat.zero_le _) (Nat.zero_le _) (nar_zr (by omega)) (⟨⟨_, rfl, by omega⟩, rfl⟩)
  · -- on at 8
    refine j_iconst hG dX10_isAtEnd_11 ?_
    refine j_goto (tgt := 16) hG dX10_isAtEnd_12 (by decide) ?_
    exact j_zret hG hZ dX10_isAtEnd_16 (Nat.zero_le _) (Nat.zero_le _) (nar_zr (by omega)) (⟨⟨_, rfl, by omega⟩, rfl⟩)
theorem c_X10_hasRoomFor {l : Launch} {E : JE} {f : Hp} {r p : Nat} {a b c n : Int} (h : f r = oB 9 [.ref p, .int (iZ (a)), .int (iZ (b)), .int (iZ (c))]) (ha : 0 ≤ a ∧ a ≤ 300) (hn : 0 ≤ n ∧ n ≤ 1000) : KX10_hasRoomFor l E [.ref r, .int (iZ (n))] f (fun v f' => (∃ z : Int, v = some (.int (iZ z)) ∧ ((z = 1 ∧ a + n ≤ 300) ∨ (z = 0 ∧ 300 < a + n))) ∧ f = f') := by
  refine ct_of (own := RX10) (lv := [(0, .ref r), (1, .int (iZ (n)))]) (by decide +kernel) rfl (Nat.le_of_ble_eq_true rfl) rfl ?_
  intro G hG hZ
  refine j_aload_n hG dX10_hasRoomFor_0 rfl rfl ?_
  refine j_get hG fX10_15 dX10_hasRoomFor_1 h rfl ?_
  refine j_iload_n hG dX10_hasRoomFor_4 rfl rfl ?_
  refine j_iadd hG dX10_hasRoomFor_5 ?_
  refine j_sipush hG dX10_hasRoomFor_6 (by decide) ?_
  refine j_icmp_gt (tgt := 16) hG dX10_hasRoomFor_9 (by decide) (by omega) (by omega) (fun c1 => ?_) (fun c1 => ?_)
  · -- taken at 9
    refine j_iconst hG dX10_hasRoomFor_16 ?_
    exact j_zret hG hZ dX10_hasRoomFor_17 (Nat.zero_le _) (Nat.zero_le _) (nar_zr (by omega)) (⟨⟨_, rfl, by omega⟩, rfl⟩)
  · -- on at 9
    refine j_iconst hG dX10_hasRoomFor_12 ?_
    refine j_goto (tgt := 17) hG dX10_hasRoomFor_13 (by decide) ?_
    exact j_zret hG hZ dX10_hasRoomFor_17 (Nat.zero_le _) (Nat.zero_le _) (nar_zr (by omega)) (⟨⟨_, rfl, by omega⟩, rfl⟩)
theorem c_X5_at {l : Launch} {E : JE} {f : Hp} {r p b : Nat} {a t : Int} {g : Int → Option Nat} (h : f r = oB 5 [.ref p, .int (iZ (a))]) (hp : f p = aQ (E.2.1 5) 12 (g)) (ht : 0 ≤ t ∧ t < 12) (hg : g t = some b) : KX5_at l E [.ref r, .int (iZ (t))] f (fun v f' => v = some (.ref b) ∧ f = f') := by
  refine ct_of (own := RX5) (lv := [(0, .ref r), (1, .int (iZ (t)))]) (by decide +kernel) rfl (Nat.le_of_ble_eq_true rfl) rfl ?_
  intro G hG hZ
  refine j_aload_n hG dX5_at_0 rfl rfl ?_
  refine j_get hG fX5_11 dX5_at_1 h rfl ?_
  refine j_iload_n hG dX5_at_4 rfl rfl ?_
  refine j_iconst hG dX5_at_5 ?_
  refine j_bipush hG dX5_at_6 (by decide) ?_
  refine j_callSN (rest := [.ref p]) hG vX5_22 dX5_at_8 (c_X11_isWithin (a := t) (lo := 0) (hi := 11) (by omega) (by omega) (by omega)) rfl rfl (by decide) (by decide) (Nat.le_of_ble_eq_true rfl) rfl rfl (Nat.zero_le _) (Nat.zero_le _) ?_
  rintro _ _ ⟨⟨b1, rfl, hb2⟩, rfl⟩
  refine j_st (st' := [.int (iZ (b1)), .ref p]) rfl ?_
  refine j_if_eq (tgt := 18) hG dX5_at_11 (by decide) (by omega) (fun c3 => ?_) (fun c3 => ?_)
  · -- taken at 11
    exfalso; omega
  · -- on at 11
    refine j_iload_n hG dX5_at_14 rfl rfl ?_
    refine j_goto (tgt := 19) hG dX5_at_15 (by decide) ?_
    refine j_ald5 hG dX5_at_19 hp (by omega) (by decide) hg ?_
    exact j_aret hG hZ dX5_at_20 (Nat.zero_le _) (Nat.zero_le _) (⟨rfl, rfl⟩)
theorem c_X11_refuse {l : Launch} {E : JE} {f : Hp} {r x0 x1 x2 x3 x4 x5 x6 x7 x8 : Nat} {la fp rf : Int} {c : Int} (h : f r = oB 10 [.ref x0, .ref x1, .ref x2, .ref x3, .ref x4, .ref x5, .ref x6, .ref x7, .ref x8, .int (iZ (la)), .int (iZ (fp)), .int (iZ (rf))])  : KX11_refuse l E [.ref r, .int (iZ (c))] f (fun v f' => v = some (.int (iZ (c))) ∧ f' r = oB 10 [.ref x0, .ref x1, .ref x2, .ref x3, .ref x4, .ref x5, .ref x6, .ref x7, .ref x8, .int (iZ (la)), .int (iZ (fp)), .int (iZ (c))] ∧ (∀ q, q ≠ r → f' q = f q)) := by
  refine ct_of (own := RX11) (lv := [(0, .ref r), (1, .int (iZ (c)))]) (by decide +kernel) rfl (Nat.le_of_ble_eq_true rfl) rfl ?_
  intro G hG hZ
  refine j_aload_n hG dX11_refuse_0 rfl rfl ?_
  refine j_iload_n hG dX11_refuse_1 rfl rfl ?_
  refine j_put hG pX11_71 dX11_refuse_2 h rfl rfl (Nat.le_of_ble_eq_true rfl) (fun f1 h2 fr3 => ?_)
  have h2 : f1 r = oB 10 [.ref x0, .ref x1, .ref x2, .ref x3, .ref x4, .ref x5, .ref x6, .ref x7, .ref x8, .int (iZ (la)), .int (iZ (fp)), .int (iZ (c))] := h2
  refine j_iload_n hG dX11_refuse_5 rfl rfl ?_
  exact j_iret hG hZ dX11_refuse_6 (Nat.zero_le _) (Nat.zero_le _) (⟨rfl, h2, fun q hq => (fr3 q hq)⟩)
theorem c_X11_grant {l : Launch} {E : JE} {f : Hp} {r x0 x1 x2 x3 x4 x5 x6 x7 x8 : Nat} {la fp rf : Int} {c : Int} (h : f r = oB 10 [.ref x0, .ref x1, .ref x2, .ref x3, .ref x4, .ref x5, .ref x6, .ref x7, .ref x8, .int (iZ (la)), .int (iZ (fp)), .int (iZ (rf))])  : KX11_grant l E [.ref r, .int (iZ (c))] f (fun v f' => v = some (.int (iZ (c))) ∧ f' r = oB 10 [.ref x0, .ref x1, .ref x2, .ref x3, .ref x4, .ref x5, .ref x6, .ref x7, .ref x8, .int (iZ (la)), .int (iZ (fp)), .int (iZ (0))] ∧ (∀ q, q ≠ r → f' q = f q)) := by
  refine ct_of (own := RX11) (lv := [(0, .ref r), (1, .int (iZ (c)))]) (by decide +kernel) rfl (Nat.le_of_ble_eq_true rfl) rfl ?_
  intro G hG hZ
  refine j_aload_n hG dX11_grant_0 rfl rfl ?_
  refine j_iconst hG dX11_grant_1 ?_
  refine j_put hG pX11_71 dX11_grant_2 h rfl rfl (Nat.le_of_ble_eq_true rfl) (fun f1 h2 fr3 => ?_)
  have h2 : f1 r = oB 10 [.ref x0, .ref x1, .ref x2, .ref x3, .ref x4, .ref x5, .ref x6, .ref x7, .ref x8, .int (iZ (la)), .int (iZ (fp)), .int (iZ (0))] := h2
  refine j_iload_n hG dX11_grant_5 rfl rfl ?_
  exact j_iret hG hZ dX11_grant_6 (Nat.zero_le _) (Nat.zero_le _) (⟨rfl, h2, fun q hq => (fr3 q hq)⟩)
theorem c_X2_add {l : Launch} {E : JE} {f : Hp} {r p u : Nat} {n s0 x : Int} {gs gt : Int → Int} (h : f r = oB 2 [.ref p, .ref u, .int (iZ (n))]) (hp : f p = aI (E.2.1 0) 150 (gs)) (hu : f u = aJ (E.2.1 1) 150 (gt)) (hn : 0 ≤ n ∧ n ≤ 150) : KX2_add l E [.ref r, .int (iZ (s0)), .long (lZ (x))] f (fun v f' => (n = 150 ∧ v = some (.int (iZ 0)) ∧ f = f') ∨ (n < 150 ∧ v = some (.int (iZ 1)) ∧ f' r = oB 2 [.ref p, .ref u, .int (iZ (n + 1))] ∧ f' p = aI (E.2.1 0) 150 (fup gs n s0) ∧ f' u = aJ (E.2.1 1) 150 (fup gt n x) ∧ ∀ q, q ≠ r → q ≠ p → q ≠ u → f' q = f q)) := by
  refine ct_of (own := RX2) (lv := [(0, .ref r), (1, .int (iZ (s0))), (2, .long (lZ (x)))]) (by decide +kernel) rfl (Nat.le_of_ble_eq_true rfl) rfl ?_
  intro G hG hZ
  refine j_aload_n hG dX2_add_0 rfl rfl ?_
  refine j_get hG fX2_19 dX2_add_1 h rfl ?_
  refine j_sipush hG dX2_add_4 (by decide) ?_
  refine j_icmp_lt (tgt := 12) hG dX2_add_7 (by decide) (by omega) (by omega) (fun c1 => ?_) (fun c1 => ?_)
  · -- taken at 7
    refine j_aload_n hG dX2_add_12 rfl rfl ?_
    refine j_get hG fX2_9 dX2_add_13 h rfl ?_
    refine j_aload_n hG dX2_add_16 rfl rfl ?_
    refine j_get hG fX2_19 dX2_add_17 h rfl ?_
    refine j_iload_n hG dX2_add_20 rfl rfl ?_
    refine j_iast hG dX2_add_21 hp (by omega) (by decide) (fun f2 h3 fr4 => ?_)
    have h5 := (fr4 r (h_ne h hp oa_I)).trans h
    have h6 := (fr4 u (h_ne hu hp (Ne.symm aIJ))).trans hu
    refine j_aload_n hG dX2_add_22 rfl rfl ?_
    refine j_get hG fX2_15 dX2_add_23 h5 rfl ?_
    refine j_aload_n hG dX2_add_26 rfl rfl ?_
    refine j_get hG fX2_19 dX2_add_27 h5 rfl ?_
    refine j_lload_n hG dX2_add_30 rfl rfl ?_
    refine j_last hG dX2_add_31 h6 (by omega) (by decide) (fun f7 h8 fr9 => ?_)
    have h10 := (fr9 r (h_ne h5 h6 oa_J)).trans h5
    have h11 := (fr9 p (h_ne h3 h6 aIJ)).trans h3
    refine j_aload_n hG dX2_add_32 rfl rfl ?_
    refine j_dup hG dX2_add_33 rfl ?_
    refine j_get hG fX2_19 dX2_add_34 h10 rfl ?_
    refine j_iconst hG dX2_add_37 ?_
    refine j_iadd hG dX2_add_38 ?_
    refine j_put hG pX2_19 dX2_add_39 h10 rfl rfl (Nat.le_of_ble_eq_true rfl) (fun f12 h13 fr14 => ?_)
    have h13 : f12 r = oB 2 [.ref p, .ref u, .int (iZ (n + 1))] := h13
    have h15 := (fr14 p (h_ne h11 h10 (Ne.symm oa_I))).trans h11
    have h16 := (fr14 u (h_ne h8 h10 (Ne.symm oa_J))).trans h8
    refine j_iconst hG dX2_add_42 ?_
    exact j_zret hG hZ dX2_add_43 (Nat.zero_le _) (Nat.zero_le _) (nar_zr (by omega)) (Or.inr ⟨by omega, rfl, h13, h15, h16, fun q h1 h2 h3 => (Eq.trans (fr14 q h1) (Eq.trans (fr9 q h3) (fr4 q h2)))⟩)
  · -- on at 7
    refine j_iconst hG dX2_add_10 ?_
    exact j_zret hG hZ dX2_add_11 (Nat.zero_le _) (Nat.zero_le _) (nar_zr (by omega)) (Or.inl ⟨by omega, rfl, rfl⟩)
theorem c_X2_sourceAt {l : Launch} {E : JE} {f : Hp} {r p u : Nat} {n i : Int} {gs : Int → Int} (h : f r = oB 2 [.ref p, .ref u, .int (iZ (n))]) (hp : f p = aI (E.2.1 0) 150 (gs)) (hn : 0 ≤ n ∧ n ≤ 150) (hi : 0 ≤ i ∧ i < n) : KX2_sourceAt l E [.ref r, .int (iZ (i))] f (fun v f' => v = some (.int (iZ (gs i))) ∧ f = f') := by
  refine ct_of (own := RX2) (lv := [(0, .ref r), (1, .int (iZ (i)))]) (by decide +kernel) rfl (Nat.le_of_ble_eq_true rfl) rfl ?_
  intro G hG hZ
  refine j_iload_n hG dX2_sourceAt_0 rfl rfl ?_
  refine j_iconst hG dX2_sourceAt_1 ?_
  refine j_aload_n hG dX2_sourceAt_2 rfl rfl ?_
  refine j_get hG fX2_19 dX2_sourceAt_3 h rfl ?_
  refine j_iconst hG dX2_sourceAt_6 ?_
  refine j_isub hG dX2_sourceAt_7 ?_
  refine j_callSN (rest := []) hG vX2_23 dX2_sourceAt_8 (c_X11_isWithin (a := i) (lo := 0) (hi := n - 1) (by omega) (by omega) (by omega)) rfl rfl (by decide) (by decide) (Nat.le_of_ble_eq_true rfl) rfl rfl (Nat.zero_le _) (Nat.zero_le _) ?_
  rintro _ _ ⟨⟨b1, rfl, hb2⟩, rfl⟩
  refine j_st (st' := [.int (iZ (b1))]) rfl ?_
  refine j_if_eq (tgt := 23) hG dX2_sourceAt_11 (by decide) (by omega) (fun c3 => ?_) (fun c3 => ?_)
  · -- taken at 11
    exfalso; omega
  · -- on at 11
    refine j_aload_n hG dX2_sourceAt_14 rfl rfl ?_
    refine j_get hG fX2_9 dX2_sourceAt_15 h rfl ?_
    refine j_iload_n hG dX2_sourceAt_18 rfl rfl ?_
    refine j_iald hG dX2_sourceAt_19 hp (by omega) (by decide) ?_
    refine j_goto (tgt := 24) hG dX2_sourceAt_20 (by decide) ?_
    exact j_iret hG hZ dX2_sourceAt_24 (Nat.zero_le _) (Nat.zero_le _) (⟨rfl, rfl⟩)
theorem c_X2_rowAt {l : Launch} {E : JE} {f : Hp} {r p u : Nat} {n i : Int} {gt : Int → Int} (h : f r = oB 2 [.ref p, .ref u, .int (iZ (n))]) (hu : f u = aJ (E.2.1 1) 150 (gt)) (hn : 0 ≤ n ∧ n ≤ 150) (hi : 0 ≤ i ∧ i < n) : KX2_rowAt l E [.ref r, .int (iZ (i))] f (fun v f' => v = some (.long (lZ (gt i))) ∧ f = f') := by
  refine ct_of (own := RX2) (lv := [(0, .ref r), (1, .int (iZ (i)))]) (by decide +kernel) rfl (Nat.le_of_ble_eq_true rfl) rfl ?_
  intro G hG hZ
  refine j_iload_n hG dX2_rowAt_0 rfl rfl ?_
  refine j_iconst hG dX2_rowAt_1 ?_
  refine j_aload_n hG dX2_rowAt_2 rfl rfl ?_
  refine j_get hG fX2_19 dX2_rowAt_3 h rfl ?_
  refine j_iconst hG dX2_rowAt_6 ?_
  refine j_isub hG dX2_rowAt_7 ?_
  refine j_callSN (rest := []) hG vX2_23 dX2_rowAt_8 (c_X11_isWithin (a := i) (lo := 0) (hi := n - 1) (by omega) (by omega) (by omega)) rfl rfl (by decide) (by decide) (Nat.le_of_ble_eq_true rfl) rfl rfl (Nat.zero_le _) (Nat.zero_le _) ?_
  rintro _ _ ⟨⟨b1, rfl, hb2⟩, rfl⟩
  refine j_st (st' := [.int (iZ (b1))]) rfl ?_
  refine j_if_eq (tgt := 23) hG dX2_rowAt_11 (by decide) (by omega) (fun c3 => ?_) (fun c3 => ?_)
  · -- taken at 11
    exfalso; omega
  · -- on at 11
    refine j_aload_n hG dX2_rowAt_14 rfl rfl ?_
    refine j_get hG fX2_15 dX2_rowAt_15 h rfl ?_
    refine j_iload_n hG dX2_rowAt_18 rfl rfl ?_
    refine j_lald hG dX2_rowAt_19 hu (by omega) (by decide) ?_
    refine j_goto (tgt := 24) hG dX2_rowAt_20 (by decide) ?_
    exact j_lret hG hZ dX2_rowAt_24 (Nat.zero_le _) (Nat.zero_le _) (⟨rfl, rfl⟩)
theorem c_X1_has {l : Launch} {E : JE} {f : Hp} {r p u : Nat} {n h0 : Int} {gt : Int → Int} (h : f r = oB 1 [.ref p, .ref u, .int (iZ (n))]) (hp : f p = aI (E.2.1 2) 8 (gt)) (hh : -2147483648 ≤ h0 ∧ h0 < 2147483648) (hg : ∀ j, 0 ≤ j → j < 8 → gt j = 0 ∨ gt j = 1) : KX1_has l E [.ref r, .int (iZ (h0))] f (fun v f' => (∃ z : Int, v = some (.int (iZ z)) ∧ (z = 0 ∨ z = 1) ∧ (z = 1 ↔ 0 ≤ h0 ∧ h0 < 8 ∧ gt h0 = 1)) ∧ f = f') := by
  refine ct_of (own := RX1) (lv := [(0, .ref r), (1, .int (iZ (h0)))]) (by decide +kernel) rfl (Nat.le_of_ble_eq_true rfl) rfl ?_
  intro G hG hZ
  refine j_iload_n hG dX1_has_0 rfl rfl ?_
  refine j_iconst hG dX1_has_1 ?_
  refine j_bipush hG dX1_has_2 (by decide) ?_
  refine j_callSN (rest := []) hG vX1_23 dX1_has_4 (c_X11_isWithin (a := h0) (lo := 0) (hi := 7) (by omega) (by omega) (by omega)) rfl rfl (by decide) (by decide) (Nat.le_of_ble_eq_true rfl) rfl rfl (Nat.zero_le _) (Nat.zero_le _) ?_
  rintro _ _ ⟨⟨b1, rfl, hb2⟩, rfl⟩
  refine j_st (st' := [.int (iZ (b1))]) rfl ?_
  refine j_if_eq (tgt := 23) hG dX1_has_7 (by decide) (by omega) (fun c3 => ?_) (fun c3 => ?_)
  · -- taken at 7
    refine j_iconst hG dX1_has_23 ?_
    exact j_zret hG hZ dX1_has_24 (Nat.zero_le _) (Nat.zero_le _) (nar_zr (by omega)) (⟨⟨_, rfl, by omega, by omega⟩, rfl⟩)
  · -- on at 7
    refine j_aload_n hG dX1_has_10 rfl rfl ?_
    refine j_get hG fX1_9 dX1_has_11 h rfl ?_
    refine j_iload_n hG dX1_has_14 rfl rfl ?_
    refine j_zald hG dX1_has_15 hp (by omega) (by decide) ?_
    have hgh := hg h0 (by omega) (by omega)
    refine j_if_eq (tgt := 23) hG dX1_has_16 (by decide) (by omega) (fun c4 => ?_) (fun c4 => ?_)
    · -- taken at 16
      refine j_iconst hG dX1_has_23 ?_
      exact j_zret hG hZ dX1_has_24 (Nat.zero_le _) (Nat.zero_le _) (nar_zr (by omega)) (⟨⟨_, rfl, by omega, by omega⟩, rfl⟩)
    · -- on at 16
      refine j_iconst hG dX1_has_19 ?_
      refine j_goto (tgt := 24) hG dX1_has_20 (by decide) ?_
      exact j_zret hG hZ dX1_has_24 (Nat.zero_le _) (Nat.zero_le _) (nar_zr (by omega)) (⟨⟨_, rfl, by omega, by omega⟩, rfl⟩)
theorem c_X1_ownerOf {l : Launch} {E : JE} {f : Hp} {r p u : Nat} {n k0 : Int} {go : Int → Int} (h : f r = oB 1 [.ref p, .ref u, .int (iZ (n))]) (hu : f u = aI (E.2.1 0) 32 (go)) (hh : -2147483648 ≤ k0 ∧ k0 < 2147483648) : KX1_ownerOf l E [.ref r, .int (iZ (k0))] f (fun v f' => v = some (.int (iZ (if 0 ≤ k0 ∧ k0 < 32 then go k0 else -1))) ∧ f = f') := by
  refine ct_of (own := RX1) (lv := [(0, .ref r), (1, .int (iZ (k0)))]) (by decide +kernel) rfl (Nat.le_of_ble_eq_true rfl) rfl ?_
  intro G hG hZ
  refine j_iload_n hG dX1_ownerOf_0 rfl rfl ?_
  refine j_iconst hG dX1_ownerOf_1 ?_
  refine j_bipush hG dX1_ownerOf_2 (by decide) ?_
  refine j_callSN (rest := []) hG vX1_23 dX1_ownerOf_4 (c_X11_isWithin (a := k0) (lo := 0) (hi := 31) (by omega) (by omega) (by omega)) rfl rfl (by decide) (by decide) (Nat.le_of_ble_eq_true rfl) rfl rfl (Nat.zero_le _) (Nat.zero_le _) ?_
  rintro _ _ ⟨⟨b1, rfl, hb2⟩, rfl⟩
  refine j_st (st' := [.int (iZ (b1))]) rfl ?_
  refine j_if_eq (tgt := 19) hG dX1_ownerOf_7 (by decide) (by omega) (fun c3 => ?_) (fun c3 => ?_)
  · -- taken at 7
    refine j_iconst hG dX1_ownerOf_19 ?_
    exact j_iret hG hZ dX1_ownerOf_20 (Nat.zero_le _) (Nat.zero_le _) (⟨by first | rw [if_pos (by omega)] | rw [if_neg (by omega)], rfl⟩)
  · -- on at 7
    refine j_aload_n hG dX1_ownerOf_10 rfl rfl ?_
    refine j_get hG fX1_19 dX1_ownerOf_11 h rfl ?_
    refine j_iload_n hG dX1_ownerOf_14 rfl rfl ?_
    refine j_iald hG dX1_ownerOf_15 hu (by omega) (by decide) ?_
    refine j_goto (tgt := 20) hG dX1_ownerOf_16 (by decide) ?_
    exact j_iret hG hZ dX1_ownerOf_20 (Nat.zero_le _) (Nat.zero_le _) (⟨by first | rw [if_pos (by omega)] | rw [if_neg (by omega)], rfl⟩)
end
section
def gOk (g : Int → Int) : Prop := ∀ j, rOk (g j)
theorem gOk_0 : gOk (fun _ => 0) := fun _ => by show (0:Int) ≤ 0 ∧ (0:Int) < _; omega
theorem gOk_fup {g : Int → Int} {i v : Int} (h : gOk g) (hv : rOk v) : gOk (fup g i v) := fun j => by
  unfold fup; split
  · exact hv
  · exact h j
theorem gOk_fcp {g h : Int → Int} {a b m : Int} (h1 : gOk g) (h2 : gOk h) : gOk (fcp g h a b m) := fun j => by
  unfold fcp; split
  · exact h1 _
  · exact h2 j
theorem rOk_l {x : Int} (h : rOk x) : -9223372036854775808 ≤ x ∧ x < 9223372036854775808 := by unfold rOk at h; omega
theorem c_X8_at {l : Launch} {E : JE} {f : Hp} {r c : Nat} {n b i : Int} {g : Int → Int} (h : f r = oB 7 [.ref c, .int (iZ (n)), .int (iZ (b))]) (hc : f c = aJ (E.2.1 1) 400 (g)) (hn : 0 ≤ n ∧ n ≤ 400) (hi : 0 ≤ i ∧ i < n) : KX8_at l E [.ref r, .int (iZ (i))] f (fun v f' => v = some (.long (lZ (g i))) ∧ f = f') := by
  refine ct_of (own := RX8) (lv := [(0, .ref r), (1, .int (iZ (i)))]) (by decide +kernel) rfl (Nat.le_of_ble_eq_true rfl) rfl ?_
  intro G hG hZ
  refine j_iload_n hG dX8_at_0 rfl rfl ?_
  refine j_iconst hG dX8_at_1 ?_
  refine j_aload_n hG dX8_at_2 rfl rfl ?_
  refine j_get hG fX8_15 dX8_at_3 h rfl ?_
  refine j_iconst hG dX8_at_6 ?_
  refine j_isub hG dX8_at_7 ?_
  refine j_callSN (rest := []) hG vX8_23 dX8_at_8 (c_X11_isWithin (a := i) (lo := 0) (hi := n - 1) (by omega) (by omega) (by omega)) rfl rfl (by decide) (by decide) (Nat.le_of_ble_eq_true rfl) rfl rfl (Nat.zero_le _) (Nat.zero_le _) ?_
  rintro _ _ ⟨⟨b1, rfl, hb2⟩, rfl⟩
  refine j_st (st' := [.int (iZ (b1))]) rfl ?_
  refine j_if_eq (tgt := 23) hG dX8_at_11 (by decide) (by omega) (fun c3 => ?_) (fun c3 => ?_)
  · -- taken at 11
    exfalso; omega
  · -- on at 11
    refine j_aload_n hG dX8_at_14 rfl rfl ?_
    refine j_get hG fX8_9 dX8_at_15 h rfl ?_
    refine j_iload_n hG dX8_at_18 rfl rfl ?_
    refine j_lald hG dX8_at_19 hc (by omega) (by decide) ?_
    refine j_goto (tgt := 24) hG dX8_at_20 (by decide) ?_
    exact j_lret hG hZ dX8_at_24 (Nat.zero_le _) (Nat.zero_le _) (⟨rfl, rfl⟩)
theorem c_X8_add {l : Launch} {E : JE} {f : Hp} {r c : Nat} {n b x : Int} {g : Int → Int} (h : f r = oB 7 [.ref c, .int (iZ (n)), .int (iZ (b))]) (hc : f c = aJ (E.2.1 1) 400 (g)) (hn : 0 ≤ n ∧ n ≤ 400) : KX8_add l E [.ref r, .long (lZ (x))] f (fun v f' => v = none ∧ ((n = 400 ∧ f' r = oB 7 [.ref c, .int (iZ n), .int (iZ 1)] ∧ f' c = aJ (E.2.1 1) 400 g) ∨ (n < 400 ∧ f' r = oB 7 [.ref c, .int (iZ (n + 1)), .int (iZ b)] ∧ f' c = aJ (E.2.1 1) 400 (fup g n x))) ∧ ∀ q, q ≠ r → q ≠ c → f' q = f q) := by
  refine ct_of (own := RX8) (lv := [(0, .ref r), (1, .long (lZ (x)))]) (by decide +kernel) rfl (Nat.le_of_ble_eq_true rfl) rfl ?_
  intro G hG hZ
  refine j_aload_n hG dX8_add_0 rfl rfl ?_
  refine j_get hG fX8_15 dX8_add_1 h rfl ?_
  refine j_aload_n hG dX8_add_4 rfl rfl ?_
  refine j_get hG fX8_9 dX8_add_5 h rfl ?_
  refine j_alenJ hG dX8_add_8 hc ?_
  refine j_icmp_lt (tgt := 18) hG dX8_add_9 (by decide) (by omega) (by omega) (fun c1 => ?_) (fun c1 => ?_)
  · -- taken at 9
    refine j_aload_n hG dX8_add_18 rfl rfl ?_
    refine j_get hG fX8_9 dX8_add_19 h rfl ?_
    refine j_aload_n hG dX8_add_22 rfl rfl ?_
    refine j_get hG fX8_15 dX8_add_23 h rfl ?_
    refine j_lload_n hG dX8_add_26 rfl rfl ?_
    refine j_last hG dX8_add_27 hc (by omega) (by decide) (fun f2 h3 fr4 => ?_)
    have h5 := (fr4 r (h_ne h hc oa_J)).trans h
    refine j_aload_n hG dX8_add_28 rfl rfl ?_
    refine j_dup hG dX8_add_29 rfl ?_
    refine j_get hG fX8_15 dX8_add_30 h5 rfl ?_
    refine j_iconst hG dX8_add_33 ?_
    refine j_iadd hG dX8_add_34 ?_
    refine j_put hG pX8_15 dX8_add_35 h5 rfl rfl (Nat.le_of_ble_eq_true rfl) (fun f6 h7 fr8 => ?_)
    have h7 : f6 r = oB 7 [.ref c, .int (iZ (n + 1)), .int (iZ (b))] := h7
    have h9 := (fr8 c (h_ne h3 h5 (Ne.symm oa_J))).trans h3
    exact j_vret hG hZ dX8_add_38 (Nat.zero_le _) (Nat.zero_le _) (⟨rfl, Or.inr ⟨by omega, h7, h9⟩, fun q h1 h2 => (Eq.trans (fr8 q h1) (fr4 q h2))⟩)
  · -- on at 9
    refine j_aload_n hG dX8_add_12 rfl rfl ?_
    refine j_iconst hG dX8_add_13 ?_
    refine j_put hG pX8_19 dX8_add_14 h (nar_zr (by omega)) (fit_z (by omega)) (Nat.le_of_ble_eq_true rfl) (fun f10 h11 fr12 => ?_)
    have h11 : f10 r = oB 7 [.ref c, .int (iZ (n)), .int (iZ (1))] := h11
    have h13 := (fr12 c (h_ne hc h (Ne.symm oa_J))).trans hc
    exact j_vret hG hZ dX8_add_17 (Nat.zero_le _) (Nat.zero_le _) (⟨rfl, Or.inl ⟨by omega, h11, h13⟩, fun q h1 h2 => (fr12 q h1)⟩)
/-- what add(key, time, value) does to n, b, g -/
def addR (n b k t u : Int) (g : Int → Int) (n' b' : Int) (g' : Int → Int) : Prop :=
  (((u < -1000000000 ∨ 1000000000 < u) ∨ n = 400) ∧ n' = n ∧ b' = 1 ∧ g' = g) ∨ ((-1000000000 ≤ u ∧ u ≤ 1000000000 ∧ n < 400) ∧ n' = n + 1 ∧ b' = b ∧ g' = fup g n (pk k t u))
/-- what add(row) does -/
def adL (n b x : Int) (g : Int → Int) (n' b' : Int) (g' : Int → Int) : Prop :=
  (n = 400 ∧ n' = n ∧ b' = 1 ∧ g' = g) ∨ (n < 400 ∧ n' = n + 1 ∧ b' = b ∧ g' = fup g n x)
theorem c_X8_addL {l : Launch} {E : JE} {f : Hp} {r c : Nat} {n b x : Int} {g : Int → Int} (h : f r = oB 7 [.ref c, .int (iZ n), .int (iZ b)]) (hc : f c = aJ (E.2.1 1) 400 g) (hn : 0 ≤ n ∧ n ≤ 400) : KX8_add l E [.ref r, .long (lZ x)] f (fun v f' => v = none ∧ ∃ (n' b' : Int) (g' : Int → Int), adL n b x g n' b' g' ∧ f' r = oB 7 [.ref c, .int (iZ n'), .int (iZ b')] ∧ f' c = aJ (E.2.1 1) 400 g' ∧ ∀ q, q ≠ r → q ≠ c → f' q = f q) := by
  refine ct_mono (c_X8_add h hc hn) ?_
  rintro v f' ⟨h1, h2 | h2, h3⟩
  · exact ⟨h1, n, 1, g, Or.inl ⟨h2.1, rfl, rfl, rfl⟩, h2.2.1, h2.2.2, h3⟩
  · exact ⟨h1, n + 1, b, _, Or.inr ⟨h2.1, rfl, rfl, rfl⟩, h2.2.1, h2.2.2, h3⟩
theorem c_X8_add_ {l : Launch} {E : JE} {f : Hp} {r c : Nat} {n b k t u : Int} {g : Int → Int} (h : f r = oB 7 [.ref c, .int (iZ (n)), .int (iZ (b))]) (hc : f c = aJ (E.2.1 1) 400 (g)) (hn : 0 ≤ n ∧ n ≤ 400) (hk : 0 ≤ k ∧ k < 32) (ht : 0 ≤ t ∧ t < 16384) (hu : -4611686018427387904 ≤ u ∧ u ≤ 4611686018427387904) : KX8_add_ l E [.ref r, .int (iZ (k)), .int (iZ (t)), .long (lZ (u))] f (fun v f' => v = none ∧ ∃ (n' b' : Int) (g' : Int → Int), addR n b k t u g n' b' g' ∧ f' r = oB 7 [.ref c, .int (iZ n'), .int (iZ b')] ∧ f' c = aJ (E.2.1 1) 400 g' ∧ ∀ q, q ≠ r → q ≠ c → f' q = f q) := by
  refine ct_of (own := RX8) (lv := [(0, .ref r), (1, .int (iZ (k))), (2, .int (iZ (t))), (3, .long (lZ (u)))]) (by decide +kernel) rfl (Nat.le_of_ble_eq_true rfl) rfl ?_
  intro G hG hZ
  refine j_lload_n hG dX8_add__0 rfl rfl ?_
  refine j_ldc2 (z := -1000000000) hG dX8_add__1 kX8_27 (by decide) ?_
  refine j_lcmp hG dX8_add__4 (by omega) (by omega) ?_
  refine j_if_lt (tgt := 16) hG dX8_add__5 (by decide) (by have h9 := cI_rng u (-1000000000); omega) (fun c1 => ?_) (fun c1 => ?_)
  · -- taken at 5
    have c1 := cI_lt.mp c1
    refine j_aload_n hG dX8_add__16 rfl rfl ?_
    refine j_iconst hG dX8_add__17 ?_
    refine j_put hG pX8_19 dX8_add__18 h (nar_zr (by omega)) (fit_z (by omega)) (Nat.le_of_ble_eq_true rfl) (fun f2 h3 fr4 => ?_)
    have h3 : f2 r = oB 7 [.ref c, .int (iZ (n)), .int (iZ (1))] := h3
    have h5 := (fr4 c (h_ne hc h (Ne.symm oa_J))).trans hc
    exact j_vret hG hZ dX8_add__21 (Nat.zero_le _) (Nat.zero_le _) (⟨rfl, n, 1, g, Or.inl ⟨Or.inl (by omega), rfl, rfl, rfl⟩, h3, h5, fun q h1 h2 => (fr4 q h1)⟩)
  · -- on at 5
    have c1 := cge c1
    refine j_lload_n hG dX8_add__8 rfl rfl ?_
    refine j_ldc2 (z := 1000000000) hG dX8_add__9 kX8_29 (by decide) ?_
    refine j_lcmp hG dX8_add__12 (by omega) (by omega) ?_
    refine j_if_le (tgt := 22) hG dX8_add__13 (by decide) (by have h9 := cI_rng u 1000000000; omega) (fun c6 => ?_) (fun c6 => ?_)
    · -- taken at 13
      have c6 := cI_le.mp c6
      refine j_aload_n hG dX8_add__22 rfl rfl ?_
      refine j_iload_n hG dX8_add__23 rfl rfl ?_
      refine j_iload_n hG dX8_add__24 rfl rfl ?_
      refine j_lload_n hG dX8_add__25 rfl rfl ?_
      refine j_l2i hG dX8_add__26 ?_
      refine j_callS (rest := [.ref r]) hG vX8_31 dX8_add__27 (c_X7_pack (k := k) (t := t) (u := u) (by omega) (by omega) (by omega)) rfl rfl (by decide) (by decide) (Nat.le_of_ble_eq_true rfl) rfl rfl (Nat.zero_le _) (Nat.zero_le _) ?_
      rintro _ _ ⟨rfl, rfl⟩
      refine j_st (st' := [.long (lZ (pk k t u)), .ref r]) rfl ?_
      refine j_callV (rest := []) hG vX8_37 dX8_add__30 (c_X8_addL (x := pk k t u) h hc (by omega)) h rfl rfl (by decide) (by decide) (Nat.le_of_ble_eq_true rfl) rfl rfl (Nat.zero_le _) (Nat.zero_le _) ?_
      rintro _ f14 ⟨rfl, n7, b8, g9, ha10, h11, h12, fr13⟩
      refine j_st (st' := []) rfl ?_
      have e9 : addR n b k t u g n7 b8 g9 := by
        rcases ha10 with h9 | h9
        · exact Or.inl ⟨Or.inr h9.1, h9.2⟩
        · exact Or.inr ⟨⟨by omega, by omega, h9.1⟩, h9.2⟩
      exact j_vret hG hZ dX8_add__33 (Nat.zero_le _) (Nat.zero_le _) (⟨rfl, _, _, _, e9, h11, h12, fun q h1 h2 => (fr13 q h1 h2)⟩)
    · -- on at 13
      have c6 := cgt c6
      refine j_aload_n hG dX8_add__16 rfl rfl ?_
      refine j_iconst hG dX8_add__17 ?_
      refine j_put hG pX8_19 dX8_add__18 h (nar_zr (by omega)) (fit_z (by omega)) (Nat.le_of_ble_eq_true rfl) (fun f15 h16 fr17 => ?_)
      have h16 : f15 r = oB 7 [.ref c, .int (iZ (n)), .int (iZ (1))] := h16
      have h18 := (fr17 c (h_ne hc h (Ne.symm oa_J))).trans hc
      exact j_vret hG hZ dX8_add__21 (Nat.zero_le _) (Nat.zero_le _) (⟨rfl, n, 1, g, Or.inl ⟨Or.inl (by omega), rfl, rfl, rfl⟩, h16, h18, fun q h1 h2 => (fr17 q h1)⟩)
end
section
theorem c_X8_copy {l : Launch} {E : JE} {f : Hp} {r c o u : Nat} {n b n2 b2 : Int} {g g2 : Int → Int} (h : f r = oB 7 [.ref c, .int (iZ (n)), .int (iZ (b))]) (hc : f c = aJ (E.2.1 1) 400 (g)) (ho : f o = oB 7 [.ref u, .int (iZ (n2)), .int (iZ (b2))]) (hu : f u = aJ (E.2.1 1) 400 (g2)) (hn : 0 ≤ n2 ∧ n2 ≤ 400) (hb : b2 = 0 ∨ b2 = 1) (hne : o ≠ r) (hne2 : u ≠ c) : KX8_copy l E [.ref r, .ref o] f (fun v f' => v = none ∧ (∃ g' : Int → Int, f' r = oB 7 [.ref c, .int (iZ n2), .int (iZ b2)] ∧ f' c = aJ (E.2.1 1) 400 g' ∧ g' = fcp g2 g 0 0 n2) ∧ ∀ q, q ≠ r → q ≠ c → f' q = f q) := by
  refine ct_of (own := RX8) (lv := [(0, .ref r), (1, .ref o)]) (by decide +kernel) rfl (Nat.le_of_ble_eq_true rfl) rfl ?_
  intro G hG hZ
  refine j_aload_n hG dX8_copy_0 rfl rfl ?_
  refine j_get hG fX8_9 dX8_copy_1 ho rfl ?_
  refine j_iconst hG dX8_copy_4 ?_
  refine j_aload_n hG dX8_copy_5 rfl rfl ?_
  refine j_get hG fX8_9 dX8_copy_6 h rfl ?_
  refine j_iconst hG dX8_copy_9 ?_
  refine j_aload_n hG dX8_copy_10 rfl rfl ?_
  refine j_get hG fX8_15 dX8_copy_11 ho rfl ?_
  refine j_copyl hG vX8_41 dX8_copy_14 hu hc (by omega) (by omega) (by omega) (by decide) (by decide) (by decide) (by decide) (fun f1 h2 fr3 => ?_)
  have h4 := (fr3 r (h_ne h hc oa_J)).trans h
  have h5 := (fr3 o (h_ne ho hc oa_J)).trans ho
  have h6 := (fr3 u hne2).trans hu
  refine j_aload_n hG dX8_copy_17 rfl rfl ?_
  refine j_aload_n hG dX8_copy_18 rfl rfl ?_
  refine j_get hG fX8_15 dX8_copy_19 h5 rfl ?_
  refine j_put hG pX8_15 dX8_copy_22 h4 rfl rfl (Nat.le_of_ble_eq_true rfl) (fun f7 h8 fr9 => ?_)
  have h8 : f7 r = oB 7 [.ref c, .int (iZ (n2)), .int (iZ (b))] := h8
  have h10 := (fr9 o hne).trans h5
  have h11 := (fr9 u (h_ne h6 h4 (Ne.symm oa_J))).trans h6
  have h12 := (fr9 c (h_ne h2 h4 (Ne.symm oa_J))).trans h2
  refine j_aload_n hG dX8_copy_25 rfl rfl ?_
  refine j_aload_n hG dX8_copy_26 rfl rfl ?_
  refine j_get hG fX8_19 dX8_copy_27 h10 rfl ?_
  refine j_put hG pX8_19 dX8_copy_30 h8 (nar_zr (by omega)) (fit_z (by omega)) (Nat.le_of_ble_eq_true rfl) (fun f13 h14 fr15 => ?_)
  have h14 : f13 r = oB 7 [.ref c, .int (iZ (n2)), .int (iZ (b2))] := h14
  have h16 := (fr15 o hne).trans h10
  have h17 := (fr15 u (h_ne h11 h8 (Ne.symm oa_J))).trans h11
  have h18 := (fr15 c (h_ne h12 h8 (Ne.symm oa_J))).trans h12
  exact j_vret hG hZ dX8_copy_33 (Nat.zero_le _) (Nat.zero_le _) (⟨rfl, ⟨_, h14, h18, rfl⟩, fun q h1 h2 => (Eq.trans (fr15 q h1) (Eq.trans (fr9 q h1) (fr3 q h2)))⟩)
theorem mg_R {g h : Int → Int} {fr at' rt tt lf sv : Int} (h1 : fr ≤ at') (h2 : at' < rt) (h3 : rt < tt) (h4 : lf < sv) (h5 : g rt < h lf) : seg (fup g at' (g rt)) fr (at' + 1) ++ mrg (seg h lf sv) (seg (fup g at' (g rt)) (rt + 1) tt) = seg g fr at' ++ mrg (seg h lf sv) (seg g rt tt) := by
  rw [seg_snoc h1, seg_fup_out (Or.inr (Int.le_refl _)), fup_s, seg_fup_out (Or.inl (by omega)), seg_cons h3, seg_cons h4, mrg_cons, if_pos h5, List.append_assoc]
  rfl
theorem mg_L {g h : Int → Int} {fr at' rt tt lf sv : Int} (h1 : fr ≤ at') (h2 : at' < rt) (h4 : lf < sv) (h5 : tt ≤ rt ∨ h lf ≤ g rt) : seg (fup g at' (h lf)) fr (at' + 1) ++ mrg (seg h (lf + 1) sv) (seg (fup g at' (h lf)) rt tt) = seg g fr at' ++ mrg (seg h lf sv) (seg g rt tt) := by
  rw [seg_snoc h1, seg_fup_out (Or.inr (Int.le_refl _)), fup_s, seg_fup_out (Or.inl h2), seg_cons h4, List.append_assoc]
  congr 1
  by_cases h6 : tt ≤ rt
  · rw [seg_nil h6, mrg_nil_r, mrg_nil_r]; rfl
  · rw [seg_cons (show rt < tt by omega), mrg_cons, if_neg (by omega)]; rfl
theorem srt_seg {g : Int → Int} {a b : Int} (h : srt (seg g a b)) {i j : Int} (h1 : a ≤ i) (h2 : i ≤ j) (h3 : j < b) : g i ≤ g j := by
  by_cases e : i = j
  · subst e; exact Int.le_refl _
  · rw [seg_app (i + 1) (by omega) (by omega), seg_snoc h1] at h
    have h4 := (List.pairwise_append.mp h).2.2 (g i) (by simp) (g j) (seg_mem.mpr ⟨j, by omega, h3, rfl⟩)
    exact h4
theorem mg_skip {g : Int → Int} {fr md tt : Int} (h1 : fr < md) (h2 : md < tt) (s1 : srt (seg g fr md)) (s2 : srt (seg g md tt)) (h : g (md - 1) ≤ g md) : seg g fr tt = mrg (seg g fr md) (seg g md tt) := by
  rw [mrg_split ?_ s1 s2, ← seg_app md (by omega) (by omega)]
  intro x hx y hy
  obtain ⟨i, i1, i2, rfl⟩ := seg_mem.mp hx
  obtain ⟨j, j1, j2, rfl⟩ := seg_mem.mp hy
  have a1 := srt_seg s1 (i := i) (j := md - 1) i1 (by omega) (by omega)
  have a2 := srt_seg s2 (i := md) (j := j) (by omega) j1 j2
  omega
theorem l_X8_merge {G : JG} {l : Launch} {E : JE} {P : Option Value → Hp → Prop} (hG : jX G l E cX8_merge RX8 9 rmX8_merge) (hZ : jZ G none P) {r c s : Nat} {n b fr md tt : Int} {g0 h1 : Int → Int} {M : List Int} {f0 : Hp} (hP : ∀ (g' : Int → Int) (f' : Hp), f' c = aJ (E.2.1 1) 400 g' → f' s = aJ (E.2.1 1) 400 h1 → gOk g' → (∀ j, j < fr ∨ tt ≤ j → g' j = g0 j) → seg g' fr tt = M → (∀ q, q ≠ c → f' q = f0 q) → P none f') (hi : 0 ≤ fr ∧ fr < md ∧ md < tt ∧ tt ≤ 400) (hcs : c ≠ s) (hoh : gOk h1) :
    ∀ (d : Nat) (lf rt at' : Int) (g1 : Int → Int) (f1 : Hp), (h : f1 r = oB 7 [.ref c, .int (iZ (n)), .int (iZ (b))]) → (hc : f1 c = aJ (E.2.1 1) 400 (g1)) → (hs : f1 s = aJ (E.2.1 1) 400 (h1)) → (hb1 : 0 ≤ lf ∧ lf ≤ md - fr ∧ md ≤ rt ∧ rt ≤ tt) → (hb2 : at' = fr + lf + (rt - md)) → (hok : gOk g1) → (hout : ∀ j, j < fr ∨ tt ≤ j → g1 j = g0 j) → (hM : seg g1 fr at' ++ mrg (seg h1 lf (md - fr)) (seg g1 rt tt) = M) → (hfr : ∀ q, q ≠ c → f1 q = f0 q) → ((md - fr - lf + (tt - rt)).toNat) < d → J G 0 0 f1 46 [(0, .ref r), (1, .int (iZ (fr))), (2, .int (iZ (md))), (3, .int (iZ (tt))), (4, .ref s), (5, .int (iZ (md - fr))), (6, .int (iZ (lf))), (7, .int (iZ (rt))), (8, .int (iZ (at')))] [] := by
  intro d
  induction d with
  | zero => intro lf rt at' g1 f1 h hc hs hb1 hb2 hok hout hM hfr hd9; exfalso; omega
  | succ d ih =>
    intro lf rt at' g1 f1 h hc hs hb1 hb2 hok hout hM hfr hd9
    refine j_iload hG dX8_merge_46 rfl ?_
    refine j_iload_n hG dX8_merge_48 rfl rfl ?_
    refine j_icmp_ge (tgt := 122) hG dX8_merge_49 (by decide) (by omega) (by omega) (fun c1 => ?_) (fun c1 => ?_)
    · -- taken at 49
      have e1 : lf = md - fr := by omega
      have e2 : at' = rt := by omega
      subst e1; subst e2
      rw [seg_nil (Int.le_refl _), mrg_nil_l, ← seg_app _ (by omega) (by omega)] at hM
      exact j_vret hG hZ dX8_merge_122 (Nat.zero_le _) (Nat.zero_le _) (hP g1 f1 hc hs hok hout hM hfr)
    · -- on at 49
      refine j_iload hG dX8_merge_52 rfl ?_
      refine j_iload hG dX8_merge_54 rfl ?_
      refine j_icmp_ge (tgt := 122) hG dX8_merge_56 (by decide) (by omega) (by omega) (fun c2 => ?_) (fun c2 => ?_)
      · -- taken at 56
        have e1 : lf = md - fr := by omega
        have e2 : at' = rt := by omega
        subst e1; subst e2
        rw [seg_nil (Int.le_refl _), mrg_nil_l, ← seg_app _ (by omega) (by omega)] at hM
        exact j_vret hG hZ dX8_merge_122 (Nat.zero_le _) (Nat.zero_le _) (hP g1 f1 hc hs hok hout hM hfr)
      · -- on at 56
        refine j_iload hG dX8_merge_59 rfl ?_
        refine j_iload_n hG dX8_merge_61 rfl rfl ?_
        refine j_icmp_ge (tgt := 101) hG dX8_merge_62 (by decide) (by omega) (by omega) (fun c3 => ?_) (fun c3 => ?_)
        · -- taken at 62
          refine j_aload_n hG dX8_merge_101 rfl rfl ?_
          refine j_get hG fX8_9 dX8_merge_102 h rfl ?_
          refine j_iload hG dX8_merge_105 rfl ?_
          refine j_aload hG dX8_merge_107 rfl ?_
          refine j_iload hG dX8_merge_109 rfl ?_
          refine j_lald hG dX8_merge_111 hs (by omega) (by decide) ?_
          refine j_last hG dX8_merge_112 hc (by omega) (by decide) (fun f4 h5 fr6 => ?_)
          have h7 := (fr6 r (h_ne h hc oa_J)).trans h
          have h8 := (fr6 s (Ne.symm hcs)).trans hs
          refine j_iinc (a := lf) (lv' := [(0, .ref r), (1, .int (iZ (fr))), (2, .int (iZ (md))), (3, .int (iZ (tt))), (4, .ref s), (5, .int (iZ (md - fr))), (6, .int (iZ (lf + 1))), (7, .int (iZ (rt))), (8, .int (iZ (at')))]) hG dX8_merge_113 rfl (by decide) rfl ?_
          refine j_iinc (a := at') (lv' := [(0, .ref r), (1, .int (iZ (fr))), (2, .int (iZ (md))), (3, .int (iZ (tt))), (4, .ref s), (5, .int (iZ (md - fr))), (6, .int (iZ (lf + 1))), (7, .int (iZ (rt))), (8, .int (iZ (at' + 1)))]) hG dX8_merge_116 rfl (by decide) rfl ?_
          refine j_goto (tgt := 46) hG dX8_merge_119 (by decide) ?_
          exact ih (lf + 1) (rt) (at' + 1) (fup g1 at' (h1 lf)) f4 h7 h5 h8 (by omega) (by omega) (gOk_fup hok (hoh _)) (fun j hj => by rw [fup_n _ _ (by omega)]; exact hout j hj) ((mg_L (by omega) (by omega) (by omega) (by omega)).trans hM) (fun q hq => (fr6 q hq).trans (hfr q hq)) (by omega)
        · -- on at 62
          refine j_aload_n hG dX8_merge_65 rfl rfl ?_
          refine j_get hG fX8_9 dX8_merge_66 h rfl ?_
          refine j_iload hG dX8_merge_69 rfl ?_
          refine j_lald hG dX8_merge_71 hc (by omega) (by decide) ?_
          refine j_aload hG dX8_merge_72 rfl ?_
          refine j_iload hG dX8_merge_74 rfl ?_
          refine j_lald hG dX8_merge_76 hs (by omega) (by decide) ?_
          refine j_lcmp hG dX8_merge_77 (rOk_l (hok _)) (rOk_l (hoh _)) ?_
          refine j_if_ge (tgt := 101) hG dX8_merge_78 (by decide) (by have h9 := cI_rng (g1 rt) (h1 lf); omega) (fun c9 => ?_) (fun c9 => ?_)
          · -- taken at 78
            have c9 := cge c9
            refine j_aload_n hG dX8_merge_101 rfl rfl ?_
            refine j_get hG fX8_9 dX8_merge_102 h rfl ?_
            refine j_iload hG dX8_merge_105 rfl ?_
            refine j_aload hG dX8_merge_107 rfl ?_
            refine j_iload hG dX8_merge_109 rfl ?_
            refine j_lald hG dX8_merge_111 hs (by omega) (by decide) ?_
            refine j_last hG dX8_merge_112 hc (by omega) (by decide) (fun f10 h11 fr12 => ?_)
            have h13 := (fr12 r (h_ne h hc oa_J)).trans h
            have h14 := (fr12 s (Ne.symm hcs)).trans hs
            refine j_iinc (a := lf) (lv' := [(0, .ref r), (1, .int (iZ (fr))), (2, .int (iZ (md))), (3, .int (iZ (tt))), (4, .ref s), (5, .int (iZ (md - fr))), (6, .int (iZ (lf + 1))), (7, .int (iZ (rt))), (8, .int (iZ (at')))]) hG dX8_merge_113 rfl (by decide) rfl ?_
            refine j_iinc (a := at') (lv' := [(0, .ref r), (1, .int (iZ (fr))), (2, .int (iZ (md))), (3, .int (iZ (tt))), (4, .ref s), (5, .int (iZ (md - fr))), (6, .int (iZ (lf + 1))), (7, .int (iZ (rt))), (8, .int (iZ (at' + 1)))]) hG dX8_merge_116 rfl (by decide) rfl ?_
            refine j_goto (tgt := 46) hG dX8_merge_119 (by decide) ?_
            exact ih (lf + 1) (rt) (at' + 1) (fup g1 at' (h1 lf)) f10 h13 h11 h14 (by omega) (by omega) (gOk_fup hok (hoh _)) (fun j hj => by rw [fup_n _ _ (by omega)]; exact hout j hj) ((mg_L (by omega) (by omega) (by omega) (by omega)).trans hM) (fun q hq => (fr12 q hq).trans (hfr q hq)) (by omega)
          · -- on at 78
            have c9 := cI_lt.mp c9
            refine j_aload_n hG dX8_merge_81 rfl rfl ?_
            refine j_get hG fX8_9 dX8_merge_82 h rfl ?_
            refine j_iload hG dX8_merge_85 rfl ?_
            refine j_aload_n hG dX8_merge_87 rfl rfl ?_
            refine j_get hG fX8_9 dX8_merge_88 h rfl ?_
            refine j_iload hG dX8_merge_91 rfl ?_
            refine j_lald hG dX8_merge_93 hc (by omega) (by decide) ?_
            refine j_last hG dX8_merge_94 hc (by omega) (by decide) (fun f15 h16 fr17 => ?_)
            have h18 := (fr17 r (h_ne h hc oa_J)).trans h
            have h19 := (fr17 s (Ne.symm hcs)).trans hs
            refine j_iinc (a := rt) (lv' := [(0, .ref r), (1, .int (iZ (fr))), (2, .int (iZ (md))), (3, .int (iZ (tt))), (4, .ref s), (5, .int (iZ (md - fr))), (6, .int (iZ (lf))), (7, .int (iZ (rt + 1))), (8, .int (iZ (at')))]) hG dX8_merge_95 rfl (by decide) rfl ?_
            refine j_goto (tgt := 116) hG dX8_merge_98 (by decide) ?_
            refine j_iinc (a := at') (lv' := [(0, .ref r), (1, .int (iZ (fr))), (2, .int (iZ (md))), (3, .int (iZ (tt))), (4, .ref s), (5, .int (iZ (md - fr))), (6, .int (iZ (lf))), (7, .int (iZ (rt + 1))), (8, .int (iZ (at' + 1)))]) hG dX8_merge_116 rfl (by decide) rfl ?_
            refine j_goto (tgt := 46) hG dX8_merge_119 (by decide) ?_
            exact ih (lf) (rt + 1) (at' + 1) (fup g1 at' (g1 rt)) f15 h18 h16 h19 (by omega) (by omega) (gOk_fup hok (hok _)) (fun j hj => by rw [fup_n _ _ (by omega)]; exact hout j hj) ((mg_R (by omega) (by omega) (by omega) (by omega) (by omega)).trans hM) (fun q hq => (fr17 q hq).trans (hfr q hq)) (by omega)
theorem c_X8_merge {l : Launch} {E : JE} {f : Hp} {r c s : Nat} {n b fr md tt : Int} {g h0 : Int → Int} (h : f r = oB 7 [.ref c, .int (iZ (n)), .int (iZ (b))]) (hc : f c = aJ (E.2.1 1) 400 (g)) (hs : f s = aJ (E.2.1 1) 400 (h0)) (hcs : c ≠ s) (hok : gOk g) (hoh : gOk h0) (hi : 0 ≤ fr ∧ fr < md ∧ md < tt ∧ tt ≤ 400) (s1 : srt (seg g fr md)) (s2 : srt (seg g md tt)) : KX8_merge l E [.ref r, .int (iZ (fr)), .int (iZ (md)), .int (iZ (tt)), .ref s] f (fun v f' => v = none ∧ ∃ g' h' : Int → Int, f' c = aJ (E.2.1 1) 400 g' ∧ f' s = aJ (E.2.1 1) 400 h' ∧ gOk g' ∧ gOk h' ∧ (∀ j, j < fr ∨ tt ≤ j → g' j = g j) ∧ seg g' fr tt = mrg (seg g fr md) (seg g md tt) ∧ ∀ q, q ≠ c → q ≠ s → f' q = f q) := by
  refine ct_of (own := RX8) (lv := [(0, .ref r), (1, .int (iZ (fr))), (2, .int (iZ (md))), (3, .int (iZ (tt))), (4, .ref s)]) (by decide +kernel) rfl (Nat.le_of_ble_eq_true rfl) rfl ?_
  intro G hG hZ
  refine j_aload_n hG dX8_merge_0 rfl rfl ?_
  refine j_get hG fX8_9 dX8_merge_1 h rfl ?_
  refine j_iload_n hG dX8_merge_4 rfl rfl ?_
  refine j_iconst hG dX8_merge_5 ?_
  refine j_isub hG dX8_merge_6 ?_
  refine j_lald hG dX8_merge_7 hc (by omega) (by decide) ?_
  refine j_aload_n hG dX8_merge_8 rfl rfl ?_
  refine j_get hG fX8_9 dX8_merge_9 h rfl ?_
  refine j_iload_n hG dX8_merge_12 rfl rfl ?_
  refine j_lald hG dX8_merge_13 hc (by omega) (by decide) ?_
  refine j_lcmp hG dX8_merge_14 (rOk_l (hok _)) (rOk_l (hok _)) ?_
  refine j_if_gt (tgt := 19) hG dX8_merge_15 (by decide) (by have h9 := cI_rng (g (md - 1)) (g md); omega) (fun c1 => ?_) (fun c1 => ?_)
  · -- taken at 15
    have c1 := cgt c1
    refine j_iload_n hG dX8_merge_19 rfl rfl ?_
    refine j_iload_n hG dX8_merge_20 rfl rfl ?_
    refine j_isub hG dX8_merge_21 ?_
    refine j_istore (lv' := [(0, .ref r), (1, .int (iZ (fr))), (2, .int (iZ (md))), (3, .int (iZ (tt))), (4, .ref s), (5, .int (iZ (md - fr)))]) hG dX8_merge_22 (by decide) rfl ?_
    refine j_aload_n hG dX8_merge_24 rfl rfl ?_
    refine j_get hG fX8_9 dX8_merge_25 h rfl ?_
    refine j_iload_n hG dX8_merge_28 rfl rfl ?_
    refine j_aload hG dX8_merge_29 rfl ?_
    refine j_iconst hG dX8_merge_31 ?_
    refine j_iload hG dX8_merge_32 rfl ?_
    refine j_copyl hG vX8_41 dX8_merge_34 hc hs (by omega) (by omega) (by omega) (by decide) (by decide) (by decide) (by decide) (fun f2 h3 fr4 => ?_)
    have h5 := (fr4 r (h_ne h hs oa_J)).trans h
    have h6 := (fr4 c hcs).trans hc
    refine j_iconst hG dX8_merge_37 ?_
    refine j_istore (lv' := [(0, .ref r), (1, .int (iZ (fr))), (2, .int (iZ (md))), (3, .int (iZ (tt))), (4, .ref s), (5, .int (iZ (md - fr))), (6, .int (iZ (0)))]) hG dX8_merge_38 (by decide) rfl ?_
    refine j_iload_n hG dX8_merge_40 rfl rfl ?_
    refine j_istore (lv' := [(0, .ref r), (1, .int (iZ (fr))), (2, .int (iZ (md))), (3, .int (iZ (tt))), (4, .ref s), (5, .int (iZ (md - fr))), (6, .int (iZ (0))), (7, .int (iZ (md)))]) hG dX8_merge_41 (by decide) rfl ?_
    refine j_iload_n hG dX8_merge_43 rfl rfl ?_
    refine j_istore (lv' := [(0, .ref r), (1, .int (iZ (fr))), (2, .int (iZ (md))), (3, .int (iZ (tt))), (4, .ref s), (5, .int (iZ (md - fr))), (6, .int (iZ (0))), (7, .int (iZ (md))), (8, .int (iZ (fr)))]) hG dX8_merge_44 (by decide) rfl ?_
    have e1 : seg (fcp g h0 fr 0 (md - fr)) 0 (md - fr) = seg g fr md := by
      unfold seg
      rw [show (md - fr - 0).toNat = (md - fr).toNat by omega]
      apply List.map_congr_left
      intro i hi
      have := List.mem_range.mp hi
      unfold fcp
      rw [if_pos (by omega)]
      congr 1
      omega
    refine l_X8_merge (g0 := g) (M := mrg (seg g fr md) (seg g md tt)) (f0 := f2) hG hZ (fun g' f' a1 a2 a3 a4 a5 a6 => ⟨rfl, g', _, a1, a2, a3, gOk_fcp hok hoh, a4, a5, fun q q1 q2 => (a6 q q1).trans (fr4 q q2)⟩) hi hcs (gOk_fcp hok hoh) ((md - fr - 0 + (tt - md)).toNat + 1) 0 md fr g f2 h5 h6 h3 (by omega) (by omega) hok (fun _ _ => rfl) ?_ (fun _ _ => rfl) (by omega)
    rw [e1, seg_nil (Int.le_refl _), List.nil_append]
  · -- on at 15
    have c1 := cI_le.mp c1
    exact j_vret hG hZ dX8_merge_18 (Nat.zero_le _) (Nat.zero_le _) (⟨rfl, g, h0, hc, hs, hok, hoh, fun _ _ => rfl, mg_skip (by omega) (by omega) s1 s2 (by omega), fun _ _ _ => rfl⟩)
end
section
theorem perm_mid {g g' : Int → Int} {a b n : Int} (h0 : 0 ≤ a) (h1 : a ≤ b) (h2 : b ≤ n) (ho : ∀ j, j < a ∨ b ≤ j → g' j = g j) (hp : (seg g' a b).Perm (seg g a b)) : (seg g' 0 n).Perm (seg g 0 n) := by
  rw [seg_app a h0 (by omega), seg_app b h1 h2, seg_app (g := g) a h0 (by omega), seg_app (g := g) b h1 h2]
  rw [seg_congr (g := g') (h := g) (a := 0) (b := a) (fun j _ h => ho j (by omega)), seg_congr (g := g') (h := g) (a := b) (b := n) (fun j h _ => ho j (by omega))]
  exact List.Perm.append_left _ (List.Perm.append_right _ hp)
theorem srt_small {g : Int → Int} {a b : Int} (h : b ≤ a + 1) : srt (seg g a b) := by
  by_cases h1 : b ≤ a
  · rw [seg_nil h1]; exact List.Pairwise.nil
  · rw [show b = a + 1 by omega, seg_one]; exact List.pairwise_singleton _ _
theorem dv_lt {a b m : Int} (hm : 0 < m) (ha : m ∣ a) (hb : m ∣ b) (h : a < b) : a + m ≤ b := by
  have h1 : m ∣ b - a := Int.dvd_sub hb ha
  have h2 := Int.le_of_dvd (by omega) h1
  omega
theorem dv_2 {w a : Int} (h : 2 * w ∣ a) : w ∣ a := Int.dvd_trans ⟨2, by omega⟩ h
/-- runs of width m are in order -/
def runs (g : Int → Int) (m n : Int) : Prop := ∀ a, 0 ≤ a → m ∣ a → srt (seg g a (min (a + m) n))
theorem runs_step {g g' : Int → Int} {w n fr : Int} (hw : 0 < w) (h0 : 0 ≤ fr) (hd : 2 * w ∣ fr) (hn : fr + w < n)
    (hdone : ∀ a, 0 ≤ a → a < fr → 2 * w ∣ a → srt (seg g a (min (a + 2 * w) n))) (hrest : ∀ a, fr ≤ a → w ∣ a → srt (seg g a (min (a + w) n)))
    (ho : ∀ j, j < fr ∨ min (fr + 2 * w) n ≤ j → g' j = g j) (hm : seg g' fr (min (fr + 2 * w) n) = mrg (seg g fr (fr + w)) (seg g (fr + w) (min (fr + 2 * w) n))) :
    (∀ a, 0 ≤ a → a < fr + 2 * w → 2 * w ∣ a → srt (seg g' a (min (a + 2 * w) n))) ∧ (∀ a, fr + 2 * w ≤ a → w ∣ a → srt (seg g' a (min (a + w) n))) ∧ (seg g' 0 n).Perm (seg g 0 n) := by
  have s1 : srt (seg g fr (fr + w)) := by
    have := hrest fr (Int.le_refl _) (dv_2 hd)
    rw [show min (fr + w) n = fr + w by omega] at this
    exact this
  have s2 : srt (seg g (fr + w) (min (fr + 2 * w) n)) := by
    have := hrest (fr + w) (by omega) (Int.dvd_add (dv_2 hd) (Int.dvd_refl w))
    rw [show fr + w + w = fr + 2 * w by omega] at this
    exact this
  refine ⟨fun a h1 h2 h3 => ?_, fun a h1 h2 => ?_, ?_⟩
  · by_cases h4 : a < fr
    · have h5 := dv_lt (by omega) h3 hd h4
      rw [seg_congr (h := g) (fun j j1 j2 => ho j (by omega))]
      exact hdone a h1 h4 h3
    · have h5 : a = fr := by
        by_cases h6 : fr < a
        · have := dv_lt (by omega) hd h3 h6; omega
        · omega
      subst h5
      rw [hm]
      exact mrg_srt _ _ s1 s2
  · rw [seg_congr (h := g) (fun j j1 j2 => ho j (by omega))]
    exact hrest a (by omega) h2
  · refine perm_mid (a := fr) (b := min (fr + 2 * w) n) h0 (by omega) (by omega) ho ?_
    rw [hm]
    refine (mrg_perm _ _).trans ?_
    rw [← seg_app (fr + w) (by omega) (by omega)]
theorem runs_end {g : Int → Int} {w n fr : Int} (hw : 0 < w) (hn : n ≤ fr + w)
    (hdone : ∀ a, 0 ≤ a → a < fr → 2 * w ∣ a → srt (seg g a (min (a + 2 * w) n))) (hrest : ∀ a, fr ≤ a → w ∣ a → srt (seg g a (min (a + w) n))) : runs g (2 * w) n := by
  intro a h1 h2
  by_cases h3 : a < fr
  · exact hdone a h1 h3 h2
  · have := hrest a (by omega) (dv_2 h2)
    rw [show min (a + w) n = min (a + 2 * w) n by omega] at this
    exact this
theorem l_X8_sort_12 {G : JG} {l : Launch} {E : JE} {P : Option Value → Hp → Prop} (hG : jX G l E cX8_sort RX8 4 rmX8_sort) (hZ : jZ G none P) {r c s : Nat} {n b : Int} {g0 : Int → Int} {f0 : Hp} (hn : 0 ≤ n ∧ n ≤ 400) (hcs : c ≠ s) {w : Int} (hw : 0 < w) (hw2 : w ≤ 400) (kk : ∀ (fr : Int) (g' h' : Int → Int) (f' : Hp), f' r = oB 7 [.ref c, .int (iZ n), .int (iZ b)] → f' c = aJ (E.2.1 1) 400 g' → f' s = aJ (E.2.1 1) 400 h' → gOk g' → gOk h' → (seg g' 0 n).Perm (seg g0 0 n) → (∀ q, q ≠ c → q ≠ s → f' q = f0 q) → runs g' (2 * w) n → J G 0 0 f' 52 [(0, .ref r), (1, .ref s), (2, .int (iZ (w))), (3, .int (iZ (fr)))] []) :
    ∀ (d : Nat) (fr : Int) (g1 h1 : Int → Int) (f1 : Hp), (h : f1 r = oB 7 [.ref c, .int (iZ (n)), .int (iZ (b))]) → (hc : f1 c = aJ (E.2.1 1) 400 (g1)) → (hs : f1 s = aJ (E.2.1 1) 400 (h1)) → (hok : gOk g1) → (hoh : gOk h1) → (hpm : (seg g1 0 n).Perm (seg g0 0 n)) → (hfr : ∀ q, q ≠ c → q ≠ s → f1 q = f0 q) → (hfrb : fr ≤ 800) → (hfr0 : 0 ≤ fr ∧ 2 * w ∣ fr) → (hdone : ∀ a, 0 ≤ a → a < fr → 2 * w ∣ a → srt (seg g1 a (min (a + 2 * w) n))) → (hrest : ∀ a, fr ≤ a → w ∣ a → srt (seg g1 a (min (a + w) n))) → ((n - fr).toNat) < d → J G 0 0 f1 12 [(0, .ref r), (1, .ref s), (2, .int (iZ (w))), (3, .int (iZ (fr)))] [] := by
  intro d
  induction d with
  | zero => intro fr g1 h1 f1 h hc hs hok hoh hpm hfr hfrb hfr0 hdone hrest hd9; exfalso; omega
  | succ d ih =>
    intro fr g1 h1 f1 h hc hs hok hoh hpm hfr hfrb hfr0 hdone hrest hd9
    refine j_iload_n hG dX8_sort_12 rfl rfl ?_
    refine j_iload_n hG dX8_sort_13 rfl rfl ?_
    refine j_iadd hG dX8_sort_14 ?_
    refine j_aload_n hG dX8_sort_15 rfl rfl ?_
    refine j_get hG fX8_15 dX8_sort_16 h rfl ?_
    refine j_icmp_ge (tgt := 52) hG dX8_sort_19 (by decide) (by have := hfr0.1; omega) (by have := hfr0.1; omega) (fun c1 => ?_) (fun c1 => ?_)
    · -- taken at 19
      exact kk fr g1 h1 f1 h hc hs hok hoh hpm hfr (runs_end hw (by omega) hdone hrest)
    · -- on at 19
      refine j_aload_n hG dX8_sort_22 rfl rfl ?_
      refine j_iload_n hG dX8_sort_23 rfl rfl ?_
      refine j_iload_n hG dX8_sort_24 rfl rfl ?_
      refine j_iload_n hG dX8_sort_25 rfl rfl ?_
      refine j_iadd hG dX8_sort_26 ?_
      refine j_iload_n hG dX8_sort_27 rfl rfl ?_
      refine j_iconst hG dX8_sort_28 ?_
      refine j_iload_n hG dX8_sort_29 rfl rfl ?_
      refine j_imul hG dX8_sort_30 ?_
      refine j_iadd hG dX8_sort_31 ?_
      refine j_aload_n hG dX8_sort_32 rfl rfl ?_
      refine j_get hG fX8_15 dX8_sort_33 h rfl ?_
      refine j_min hG vX8_47 dX8_sort_36 (by have := hfr0.1; omega) (by have := hfr0.1; omega) (by decide) (by decide) (Nat.le_of_ble_eq_true rfl) (Nat.zero_le _) (Nat.zero_le _) ?_
      refine j_aload_n hG dX8_sort_39 rfl rfl ?_
      have m1 : srt (seg g1 fr (fr + w)) := by
        have := hrest fr (Int.le_refl _) (dv_2 hfr0.2)
        rw [show min (fr + w) n = fr + w by omega] at this
        exact this
      have m2 : srt (seg g1 (fr + w) (min (fr + 2 * w) n)) := by
        have := hrest (fr + w) (by omega) (Int.dvd_add (dv_2 hfr0.2) (Int.dvd_refl w))
        rw [show fr + w + w = fr + 2 * w by omega] at this
        exact this
      have z0 := hfr0.1
      refine j_callV (rest := []) hG vX8_53 dX8_sort_40 (c_X8_merge (fr := fr) (md := fr + w) (tt := min (fr + (2 * w)) n) h hc hs hcs hok hoh (by omega) m1 m2) h rfl rfl (by decide) (by decide) (Nat.le_of_ble_eq_true rfl) rfl rfl (Nat.zero_le _) (Nat.zero_le _) ?_
      rintro _ f11 ⟨rfl, g2, h3, a4, a5, a6, a7, a8, a9, fr10⟩
      refine j_st (st' := []) rfl ?_
      have h12 := (fr10 r (h_ne h hc oa_J) (h_ne h hs oa_J)).trans h
      refine j_iload_n hG dX8_sort_43 rfl rfl ?_
      refine j_iconst hG dX8_sort_44 ?_
      refine j_iload_n hG dX8_sort_45 rfl rfl ?_
      refine j_imul hG dX8_sort_46 ?_
      refine j_iadd hG dX8_sort_47 ?_
      refine j_istore_n (lv' := [(0, .ref r), (1, .ref s), (2, .int (iZ (w))), (3, .int (iZ (fr + (2 * w))))]) hG dX8_sort_48 rfl (by decide) rfl ?_
      refine j_goto (tgt := 12) hG dX8_sort_49 (by decide) ?_
      obtain ⟨b1, b2, b3⟩ := runs_step hw hfr0.1 hfr0.2 (by omega) hdone hrest a8 a9
      exact ih (fr + (2 * w)) g2 h3 f11 h12 a4 a5 a6 a7 (b3.trans hpm) (fun q q1 q2 => (fr10 q q1 q2).trans (hfr q q1 q2)) (by have := hfr0.1; omega) ⟨by omega, Int.dvd_add hfr0.2 (Int.dvd_refl _)⟩ b1 b2 (by omega)
theorem l_X8_sort_2 {G : JG} {l : Launch} {E : JE} {P : Option Value → Hp → Prop} (hG : jX G l E cX8_sort RX8 4 rmX8_sort) (hZ : jZ G none P) {r c s : Nat} {n b : Int} {g0 : Int → Int} {f0 : Hp} (hn : 0 ≤ n ∧ n ≤ 400) (hcs : c ≠ s) (hP : ∀ (g' h' : Int → Int) (f' : Hp), f' r = oB 7 [.ref c, .int (iZ n), .int (iZ b)] → f' c = aJ (E.2.1 1) 400 g' → f' s = aJ (E.2.1 1) 400 h' → gOk g' → gOk h' → (seg g' 0 n).Perm (seg g0 0 n) → (∀ q, q ≠ c → q ≠ s → f' q = f0 q) → srt (seg g' 0 n) → P none f') :
    ∀ (d : Nat) (w : Int) (g1 h1 : Int → Int) (f1 : Hp), (h : f1 r = oB 7 [.ref c, .int (iZ (n)), .int (iZ (b))]) → (hc : f1 c = aJ (E.2.1 1) 400 (g1)) → (hs : f1 s = aJ (E.2.1 1) 400 (h1)) → (hok : gOk g1) → (hoh : gOk h1) → (hpm : (seg g1 0 n).Perm (seg g0 0 n)) → (hfr : ∀ q, q ≠ c → q ≠ s → f1 q = f0 q) → (hw : 0 < w ∧ w ≤ 800) → (hrun : runs g1 w n) → ((n - w).toNat) < d → J G 0 0 f1 2 [(0, .ref r), (1, .ref s), (2, .int (iZ (w)))] [] := by
  intro d
  induction d with
  | zero => intro w g1 h1 f1 h hc hs hok hoh hpm hfr hw hrun hd9; exfalso; omega
  | succ d ih =>
    intro w g1 h1 f1 h hc hs hok hoh hpm hfr hw hrun hd9
    refine j_iload_n hG dX8_sort_2 rfl rfl ?_
    refine j_aload_n hG dX8_sort_3 rfl rfl ?_
    refine j_get hG fX8_15 dX8_sort_4 h rfl ?_
    refine j_icmp_ge (tgt := 59) hG dX8_sort_7 (by decide) (by omega) (by omega) (fun c1 => ?_) (fun c1 => ?_)
    · -- taken at 7
      have z9 := hrun 0 (Int.le_refl _) ⟨0, by omega⟩
      rw [show min (0 + w) n = n by omega] at z9
      exact j_vret hG hZ dX8_sort_59 (Nat.zero_le _) (Nat.zero_le _) (hP g1 h1 f1 h hc hs hok hoh hpm hfr z9)
    · -- on at 7
      refine j_iconst hG dX8_sort_10 ?_
      refine j_istore_n (lv' := [(0, .ref r), (1, .ref s), (2, .int (iZ (w))), (3, .int (iZ (0)))]) hG dX8_sort_11 rfl (by decide) rfl ?_
      refine l_X8_sort_12 (g0 := g0) (f0 := f0) hG hZ hn hcs (by omega) (by omega) ?_ ((n - 0).toNat + 1) 0 g1 h1 f1 h hc hs hok hoh hpm hfr (by omega) ⟨Int.le_refl _, ⟨0, by omega⟩⟩ (fun a h1 h2 => absurd h2 (by omega)) (fun a h1 h2 => hrun a h1 h2) (by omega)
      intro fr g' h' f' a1 a2 a3 a4 a5 a6 a7 a8
      refine j_iload_n hG dX8_sort_52 rfl rfl ?_
      refine j_iconst hG dX8_sort_53 ?_
      refine j_imul hG dX8_sort_54 ?_
      refine j_istore_n (lv' := [(0, .ref r), (1, .ref s), (2, .int (iZ (w * 2))), (3, .int (iZ (fr)))]) hG dX8_sort_55 rfl (by decide) rfl ?_
      refine j_goto (tgt := 2) hG dX8_sort_56 (by decide) ?_
      refine j_lv (lv' := [(0, .ref r), (1, .ref s), (2, .int (iZ (w * 2)))]) (by simp) ?_
      exact ih (w * 2) g' h' f' a1 a2 a3 a4 a5 a6 a7 (by omega) (by rw [Int.mul_comm]; exact a8) (by omega)
theorem c_X8_sort {l : Launch} {E : JE} {f : Hp} {r c s : Nat} {n b : Int} {g h0 : Int → Int} (h : f r = oB 7 [.ref c, .int (iZ (n)), .int (iZ (b))]) (hc : f c = aJ (E.2.1 1) 400 (g)) (hs : f s = aJ (E.2.1 1) 400 (h0)) (hn : 0 ≤ n ∧ n ≤ 400) (hcs : c ≠ s) (hok : gOk g) (hoh : gOk h0) : KX8_sort l E [.ref r, .ref s] f (fun v f' => v = none ∧ ∃ g' h' : Int → Int, f' c = aJ (E.2.1 1) 400 g' ∧ f' s = aJ (E.2.1 1) 400 h' ∧ gOk g' ∧ gOk h' ∧ (seg g' 0 n).Perm (seg g 0 n) ∧ srt (seg g' 0 n) ∧ ∀ q, q ≠ c → q ≠ s → f' q = f q) := by
  refine ct_of (own := RX8) (lv := [(0, .ref r), (1, .ref s)]) (by decide +kernel) rfl (Nat.le_of_ble_eq_true rfl) rfl ?_
  intro G hG hZ
  refine j_iconst hG dX8_sort_0 ?_
  refine j_istore_n (lv' := [(0, .ref r), (1, .ref s), (2, .int (iZ (1)))]) hG dX8_sort_1 rfl (by decide) rfl ?_
  exact l_X8_sort_2 (g0 := g) (f0 := f) hG hZ hn hcs (fun g' h' f' a1 a2 a3 a4 a5 a6 a7 a8 => ⟨rfl, g', h', a2, a3, a4, a5, a6, a8, a7⟩) ((n - 1).toNat + 1) 1 g h0 f h hc hs hok hoh (List.Perm.refl _) (fun _ _ _ => rfl) (by omega) (fun a h1 h2 => srt_small (by omega)) (by omega)
end
