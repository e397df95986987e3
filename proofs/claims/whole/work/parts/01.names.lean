/-- a private method of a class that the tables say can be made, by its rows of tables_1 -/
def lw_okq (q : MethodName × Nat) : Prop := (q.1.cls ≠ "java/lang/invoke/MethodHandle" ∧ q.1.cls ≠ "java/lang/invoke/VarHandle") ∧ Cond.instantiable q.1.cls q.2 ∈ tables_1 ∧ Cond.privateMethod q.1 ∈ tables_1 ∧ Cond.instanceMethod q.1 ∈ tables_1
theorem lw_p0 : lw_okq (⟨"ButlerRemembers", "nightsKept", "(II)I"⟩, 13) := ⟨⟨by decide +kernel, by decide +kernel⟩, List.mem_of_getElem? (i := 24) (by decide +kernel), List.mem_of_getElem? (i := 308) (by decide +kernel), List.mem_of_getElem? (i := 309) (by decide +kernel)⟩
theorem lw_p1 : lw_okq (⟨"ButlerRemembers", "keptInNight", "(IIII)I"⟩, 13) := ⟨⟨by decide +kernel, by decide +kernel⟩, List.mem_of_getElem? (i := 24) (by decide +kernel), List.mem_of_getElem? (i := 312) (by decide +kernel), List.mem_of_getElem? (i := 313) (by decide +kernel)⟩
theorem lw_p2 : lw_okq (⟨"ButlerRemembers", "holding", "()LButlerRemembers$House;"⟩, 13) := ⟨⟨by decide +kernel, by decide +kernel⟩, List.mem_of_getElem? (i := 24) (by decide +kernel), List.mem_of_getElem? (i := 316) (by decide +kernel), List.mem_of_getElem? (i := 317) (by decide +kernel)⟩
theorem lw_p3 : lw_okq (⟨"ButlerRemembers$House", "push", "(I)V"⟩, 9) := ⟨⟨by decide +kernel, by decide +kernel⟩, List.mem_of_getElem? (i := 168) (by decide +kernel), List.mem_of_getElem? (i := 333) (by decide +kernel), List.mem_of_getElem? (i := 334) (by decide +kernel)⟩
theorem lw_p4 : lw_okq (⟨"ButlerRemembers$House", "pop", "()I"⟩, 9) := ⟨⟨by decide +kernel, by decide +kernel⟩, List.mem_of_getElem? (i := 168) (by decide +kernel), List.mem_of_getElem? (i := 337) (by decide +kernel), List.mem_of_getElem? (i := 338) (by decide +kernel)⟩
theorem lw_p5 : lw_okq (⟨"ButlerRemembers$House", "join", "(II)V"⟩, 9) := ⟨⟨by decide +kernel, by decide +kernel⟩, List.mem_of_getElem? (i := 168) (by decide +kernel), List.mem_of_getElem? (i := 344) (by decide +kernel), List.mem_of_getElem? (i := 345) (by decide +kernel)⟩
theorem lw_p6 : lw_okq (⟨"ButlerRemembers", "weighedGrip", "(IIII)I"⟩, 13) := ⟨⟨by decide +kernel, by decide +kernel⟩, List.mem_of_getElem? (i := 24) (by decide +kernel), List.mem_of_getElem? (i := 348) (by decide +kernel), List.mem_of_getElem? (i := 349) (by decide +kernel)⟩
theorem lw_p7 : lw_okq (⟨"ButlerRemembers", "mannersOf", "(I)LButlerRemembers$Master;"⟩, 13) := ⟨⟨by decide +kernel, by decide +kernel⟩, List.mem_of_getElem? (i := 24) (by decide +kernel), List.mem_of_getElem? (i := 352) (by decide +kernel), List.mem_of_getElem? (i := 353) (by decide +kernel)⟩
theorem lw_p8 : lw_okq (⟨"ButlerRemembers", "nightsUntilBlank", "(I)I"⟩, 13) := ⟨⟨by decide +kernel, by decide +kernel⟩, List.mem_of_getElem? (i := 24) (by decide +kernel), List.mem_of_getElem? (i := 385) (by decide +kernel), List.mem_of_getElem? (i := 386) (by decide +kernel)⟩
theorem lw_p9 : lw_okq (⟨"ButlerRemembers$House", "takeClause", "()Z"⟩, 9) := ⟨⟨by decide +kernel, by decide +kernel⟩, List.mem_of_getElem? (i := 168) (by decide +kernel), List.mem_of_getElem? (i := 467) (by decide +kernel), List.mem_of_getElem? (i := 468) (by decide +kernel)⟩
theorem lw_p10 : lw_okq (⟨"ButlerRemembers$House", "sign", "()I"⟩, 9) := ⟨⟨by decide +kernel, by decide +kernel⟩, List.mem_of_getElem? (i := 168) (by decide +kernel), List.mem_of_getElem? (i := 471) (by decide +kernel), List.mem_of_getElem? (i := 472) (by decide +kernel)⟩
theorem lw_p11 : lw_okq (⟨"ButlerRemembers$House", "takeWord", "(Ljava/lang/String;)Z"⟩, 9) := ⟨⟨by decide +kernel, by decide +kernel⟩, List.mem_of_getElem? (i := 168) (by decide +kernel), List.mem_of_getElem? (i := 476) (by decide +kernel), List.mem_of_getElem? (i := 477) (by decide +kernel)⟩
theorem lw_p12 : lw_okq (⟨"ButlerRemembers$House", "takeNumber", "()Z"⟩, 9) := ⟨⟨by decide +kernel, by decide +kernel⟩, List.mem_of_getElem? (i := 168) (by decide +kernel), List.mem_of_getElem? (i := 528) (by decide +kernel), List.mem_of_getElem? (i := 529) (by decide +kernel)⟩
theorem lw_p13 : lw_okq (⟨"ButlerRemembers$House", "takeEither", "(I)Z"⟩, 9) := ⟨⟨by decide +kernel, by decide +kernel⟩, List.mem_of_getElem? (i := 168) (by decide +kernel), List.mem_of_getElem? (i := 535) (by decide +kernel), List.mem_of_getElem? (i := 536) (by decide +kernel)⟩
theorem lw_p14 : lw_okq (⟨"ButlerRemembers$House", "takeBoth", "(I)Z"⟩, 9) := ⟨⟨by decide +kernel, by decide +kernel⟩, List.mem_of_getElem? (i := 168) (by decide +kernel), List.mem_of_getElem? (i := 539) (by decide +kernel), List.mem_of_getElem? (i := 540) (by decide +kernel)⟩
theorem lw_p15 : lw_okq (⟨"ButlerRemembers$House", "takeOne", "(I)Z"⟩, 9) := ⟨⟨by decide +kernel, by decide +kernel⟩, List.mem_of_getElem? (i := 168) (by decide +kernel), List.mem_of_getElem? (i := 543) (by decide +kernel), List.mem_of_getElem? (i := 544) (by decide +kernel)⟩
def lw_privs_1 : List (MethodName × Nat) := [(⟨"ButlerRemembers", "nightsKept", "(II)I"⟩, 13), (⟨"ButlerRemembers", "keptInNight", "(IIII)I"⟩, 13), (⟨"ButlerRemembers", "holding", "()LButlerRemembers$House;"⟩, 13), (⟨"ButlerRemembers$House", "push", "(I)V"⟩, 9), (⟨"ButlerRemembers$House", "pop", "()I"⟩, 9), (⟨"ButlerRemembers$House", "join", "(II)V"⟩, 9), (⟨"ButlerRemembers", "weighedGrip", "(IIII)I"⟩, 13), (⟨"ButlerRemembers", "mannersOf", "(I)LButlerRemembers$Master;"⟩, 13), (⟨"ButlerRemembers", "nightsUntilBlank", "(I)I"⟩, 13), (⟨"ButlerRemembers$House", "takeClause", "()Z"⟩, 9), (⟨"ButlerRemembers$House", "sign", "()I"⟩, 9), (⟨"ButlerRemembers$House", "takeWord", "(Ljava/lang/String;)Z"⟩, 9), (⟨"ButlerRemembers$House", "takeNumber", "()Z"⟩, 9), (⟨"ButlerRemembers$House", "takeEither", "(I)Z"⟩, 9), (⟨"ButlerRemembers$House", "takeBoth", "(I)Z"⟩, 9), (⟨"ButlerRemembers$House", "takeOne", "(I)Z"⟩, 9)]
theorem lw_r1 : ∀ q ∈ lw_privs_1, lw_okq q := List.forall_mem_cons.mpr ⟨lw_p0, List.forall_mem_cons.mpr ⟨lw_p1, List.forall_mem_cons.mpr ⟨lw_p2, List.forall_mem_cons.mpr ⟨lw_p3, List.forall_mem_cons.mpr ⟨lw_p4, List.forall_mem_cons.mpr ⟨lw_p5, List.forall_mem_cons.mpr ⟨lw_p6, List.forall_mem_cons.mpr ⟨lw_p7, List.forall_mem_cons.mpr ⟨lw_p8, List.forall_mem_cons.mpr ⟨lw_p9, List.forall_mem_cons.mpr ⟨lw_p10, List.forall_mem_cons.mpr ⟨lw_p11, List.forall_mem_cons.mpr ⟨lw_p12, List.forall_mem_cons.mpr ⟨lw_p13, List.forall_mem_cons.mpr ⟨lw_p14, List.forall_mem_cons.mpr ⟨lw_p15, fun _ h => absurd h List.not_mem_nil⟩⟩⟩⟩⟩⟩⟩⟩⟩⟩⟩⟩⟩⟩⟩⟩
theorem lw_p16 : lw_okq (⟨"ButlerRemembers$House", "takeTest", "()Z"⟩, 9) := ⟨⟨by decide +kernel, by decide +kernel⟩, List.mem_of_getElem? (i := 168) (by decide +kernel), List.mem_of_getElem? (i := 547) (by decide +kernel), List.mem_of_getElem? (i := 548) (by decide +kernel)⟩
theorem lw_p17 : lw_okq (⟨"ButlerRemembers$House", "addStep", "(II)Z"⟩, 9) := ⟨⟨by decide +kernel, by decide +kernel⟩, List.mem_of_getElem? (i := 168) (by decide +kernel), List.mem_of_getElem? (i := 613) (by decide +kernel), List.mem_of_getElem? (i := 614) (by decide +kernel)⟩
theorem lw_p18 : lw_okq (⟨"ButlerRemembers$House", "settleFactTests", "()V"⟩, 9) := ⟨⟨by decide +kernel, by decide +kernel⟩, List.mem_of_getElem? (i := 168) (by decide +kernel), List.mem_of_getElem? (i := 618) (by decide +kernel), List.mem_of_getElem? (i := 619) (by decide +kernel)⟩
theorem lw_p19 : lw_okq (⟨"ButlerRemembers", "tellingsNow", "()I"⟩, 13) := ⟨⟨by decide +kernel, by decide +kernel⟩, List.mem_of_getElem? (i := 24) (by decide +kernel), List.mem_of_getElem? (i := 634) (by decide +kernel), List.mem_of_getElem? (i := 635) (by decide +kernel)⟩
theorem lw_p20 : lw_okq (⟨"ButlerRemembers", "dreamOfNow", "()V"⟩, 13) := ⟨⟨by decide +kernel, by decide +kernel⟩, List.mem_of_getElem? (i := 24) (by decide +kernel), List.mem_of_getElem? (i := 638) (by decide +kernel), List.mem_of_getElem? (i := 639) (by decide +kernel)⟩
theorem lw_p21 : lw_okq (⟨"ButlerRemembers", "tellDreamers", "(I)I"⟩, 13) := ⟨⟨by decide +kernel, by decide +kernel⟩, List.mem_of_getElem? (i := 24) (by decide +kernel), List.mem_of_getElem? (i := 645) (by decide +kernel), List.mem_of_getElem? (i := 646) (by decide +kernel)⟩
theorem lw_p22 : lw_okq (⟨"ButlerRemembers", "tellingsByDay", "(Z)I"⟩, 13) := ⟨⟨by decide +kernel, by decide +kernel⟩, List.mem_of_getElem? (i := 24) (by decide +kernel), List.mem_of_getElem? (i := 659) (by decide +kernel), List.mem_of_getElem? (i := 660) (by decide +kernel)⟩
theorem lw_p23 : lw_okq (⟨"ButlerRemembers", "sleep", "([III)V"⟩, 13) := ⟨⟨by decide +kernel, by decide +kernel⟩, List.mem_of_getElem? (i := 24) (by decide +kernel), List.mem_of_getElem? (i := 664) (by decide +kernel), List.mem_of_getElem? (i := 665) (by decide +kernel)⟩
theorem lw_p24 : lw_okq (⟨"ButlerRemembers", "keptThrough", "(III)I"⟩, 13) := ⟨⟨by decide +kernel, by decide +kernel⟩, List.mem_of_getElem? (i := 24) (by decide +kernel), List.mem_of_getElem? (i := 691) (by decide +kernel), List.mem_of_getElem? (i := 692) (by decide +kernel)⟩
theorem lw_p25 : lw_okq (⟨"ButlerRemembers", "isSo", "(II)Z"⟩, 13) := ⟨⟨by decide +kernel, by decide +kernel⟩, List.mem_of_getElem? (i := 24) (by decide +kernel), List.mem_of_getElem? (i := 711) (by decide +kernel), List.mem_of_getElem? (i := 712) (by decide +kernel)⟩
theorem lw_p26 : lw_okq (⟨"ButlerRemembers", "fitsSeen", "(II)Z"⟩, 13) := ⟨⟨by decide +kernel, by decide +kernel⟩, List.mem_of_getElem? (i := 24) (by decide +kernel), List.mem_of_getElem? (i := 722) (by decide +kernel), List.mem_of_getElem? (i := 723) (by decide +kernel)⟩
theorem lw_p27 : lw_okq (⟨"ButlerRemembers", "dreamOfRow", "(I)V"⟩, 13) := ⟨⟨by decide +kernel, by decide +kernel⟩, List.mem_of_getElem? (i := 24) (by decide +kernel), List.mem_of_getElem? (i := 754) (by decide +kernel), List.mem_of_getElem? (i := 755) (by decide +kernel)⟩
theorem lw_p28 : lw_okq (⟨"ButlerRemembersModel", "isMaster", "(I)Z"⟩, 28) := ⟨⟨by decide +kernel, by decide +kernel⟩, List.mem_of_getElem? (i := 944) (by decide +kernel), List.mem_of_getElem? (i := 1058) (by decide +kernel), List.mem_of_getElem? (i := 1059) (by decide +kernel)⟩
theorem lw_p29 : lw_okq (⟨"ButlerRemembersModel", "blank", "(I)I"⟩, 28) := ⟨⟨by decide +kernel, by decide +kernel⟩, List.mem_of_getElem? (i := 944) (by decide +kernel), List.mem_of_getElem? (i := 1062) (by decide +kernel), List.mem_of_getElem? (i := 1063) (by decide +kernel)⟩
theorem lw_p30 : lw_okq (⟨"ButlerRemembersModel", "mindOf", "(I)I"⟩, 28) := ⟨⟨by decide +kernel, by decide +kernel⟩, List.mem_of_getElem? (i := 944) (by decide +kernel), List.mem_of_getElem? (i := 1066) (by decide +kernel), List.mem_of_getElem? (i := 1067) (by decide +kernel)⟩
theorem lw_p31 : lw_okq (⟨"ButlerRemembersModel", "stays", "(III)I"⟩, 28) := ⟨⟨by decide +kernel, by decide +kernel⟩, List.mem_of_getElem? (i := 944) (by decide +kernel), List.mem_of_getElem? (i := 1070) (by decide +kernel), List.mem_of_getElem? (i := 1071) (by decide +kernel)⟩
def lw_privs_2 : List (MethodName × Nat) := [(⟨"ButlerRemembers$House", "takeTest", "()Z"⟩, 9), (⟨"ButlerRemembers$House", "addStep", "(II)Z"⟩, 9), (⟨"ButlerRemembers$House", "settleFactTests", "()V"⟩, 9), (⟨"ButlerRemembers", "tellingsNow", "()I"⟩, 13), (⟨"ButlerRemembers", "dreamOfNow", "()V"⟩, 13), (⟨"ButlerRemembers", "tellDreamers", "(I)I"⟩, 13), (⟨"ButlerRemembers", "tellingsByDay", "(Z)I"⟩, 13), (⟨"ButlerRemembers", "sleep", "([III)V"⟩, 13), (⟨"ButlerRemembers", "keptThrough", "(III)I"⟩, 13), (⟨"ButlerRemembers", "isSo", "(II)Z"⟩, 13), (⟨"ButlerRemembers", "fitsSeen", "(II)Z"⟩, 13), (⟨"ButlerRemembers", "dreamOfRow", "(I)V"⟩, 13), (⟨"ButlerRemembersModel", "isMaster", "(I)Z"⟩, 28), (⟨"ButlerRemembersModel", "blank", "(I)I"⟩, 28), (⟨"ButlerRemembersModel", "mindOf", "(I)I"⟩, 28), (⟨"ButlerRemembersModel", "stays", "(III)I"⟩, 28)]
theorem lw_r2 : ∀ q ∈ lw_privs_2, lw_okq q := List.forall_mem_cons.mpr ⟨lw_p16, List.forall_mem_cons.mpr ⟨lw_p17, List.forall_mem_cons.mpr ⟨lw_p18, List.forall_mem_cons.mpr ⟨lw_p19, List.forall_mem_cons.mpr ⟨lw_p20, List.forall_mem_cons.mpr ⟨lw_p21, List.forall_mem_cons.mpr ⟨lw_p22, List.forall_mem_cons.mpr ⟨lw_p23, List.forall_mem_cons.mpr ⟨lw_p24, List.forall_mem_cons.mpr ⟨lw_p25, List.forall_mem_cons.mpr ⟨lw_p26, List.forall_mem_cons.mpr ⟨lw_p27, List.forall_mem_cons.mpr ⟨lw_p28, List.forall_mem_cons.mpr ⟨lw_p29, List.forall_mem_cons.mpr ⟨lw_p30, List.forall_mem_cons.mpr ⟨lw_p31, fun _ h => absurd h List.not_mem_nil⟩⟩⟩⟩⟩⟩⟩⟩⟩⟩⟩⟩⟩⟩⟩⟩
theorem lw_p32 : lw_okq (⟨"ButlerRemembersModel", "keeps", "(III)Z"⟩, 28) := ⟨⟨by decide +kernel, by decide +kernel⟩, List.mem_of_getElem? (i := 944) (by decide +kernel), List.mem_of_getElem? (i := 1074) (by decide +kernel), List.mem_of_getElem? (i := 1075) (by decide +kernel)⟩
theorem lw_p33 : lw_okq (⟨"ButlerRemembersModel", "gripOn", "(III)I"⟩, 28) := ⟨⟨by decide +kernel, by decide +kernel⟩, List.mem_of_getElem? (i := 944) (by decide +kernel), List.mem_of_getElem? (i := 1078) (by decide +kernel), List.mem_of_getElem? (i := 1079) (by decide +kernel)⟩
theorem lw_p34 : lw_okq (⟨"ButlerRemembersModel", "readFor", "(III)V"⟩, 28) := ⟨⟨by decide +kernel, by decide +kernel⟩, List.mem_of_getElem? (i := 944) (by decide +kernel), List.mem_of_getElem? (i := 1082) (by decide +kernel), List.mem_of_getElem? (i := 1083) (by decide +kernel)⟩
theorem lw_p35 : lw_okq (⟨"ButlerRemembersModel", "kind", "(I)I"⟩, 28) := ⟨⟨by decide +kernel, by decide +kernel⟩, List.mem_of_getElem? (i := 944) (by decide +kernel), List.mem_of_getElem? (i := 1086) (by decide +kernel), List.mem_of_getElem? (i := 1087) (by decide +kernel)⟩
theorem lw_p36 : lw_okq (⟨"ButlerRemembersModel", "v", "(I)I"⟩, 28) := ⟨⟨by decide +kernel, by decide +kernel⟩, List.mem_of_getElem? (i := 944) (by decide +kernel), List.mem_of_getElem? (i := 1090) (by decide +kernel), List.mem_of_getElem? (i := 1091) (by decide +kernel)⟩
theorem lw_p37 : lw_okq (⟨"ButlerRemembersModel", "readAll", "()Z"⟩, 28) := ⟨⟨by decide +kernel, by decide +kernel⟩, List.mem_of_getElem? (i := 944) (by decide +kernel), List.mem_of_getElem? (i := 1094) (by decide +kernel), List.mem_of_getElem? (i := 1095) (by decide +kernel)⟩
theorem lw_p38 : lw_okq (⟨"ButlerRemembersModel", "clause", "()V"⟩, 28) := ⟨⟨by decide +kernel, by decide +kernel⟩, List.mem_of_getElem? (i := 944) (by decide +kernel), List.mem_of_getElem? (i := 1098) (by decide +kernel), List.mem_of_getElem? (i := 1099) (by decide +kernel)⟩
theorem lw_p39 : lw_okq (⟨"ButlerRemembersModel", "isAt", "(I)Z"⟩, 28) := ⟨⟨by decide +kernel, by decide +kernel⟩, List.mem_of_getElem? (i := 944) (by decide +kernel), List.mem_of_getElem? (i := 1102) (by decide +kernel), List.mem_of_getElem? (i := 1103) (by decide +kernel)⟩
theorem lw_p40 : lw_okq (⟨"ButlerRemembersModel", "takes", "(I)V"⟩, 28) := ⟨⟨by decide +kernel, by decide +kernel⟩, List.mem_of_getElem? (i := 944) (by decide +kernel), List.mem_of_getElem? (i := 1106) (by decide +kernel), List.mem_of_getElem? (i := 1107) (by decide +kernel)⟩
theorem lw_p41 : lw_okq (⟨"ButlerRemembersModel", "number", "()I"⟩, 28) := ⟨⟨by decide +kernel, by decide +kernel⟩, List.mem_of_getElem? (i := 944) (by decide +kernel), List.mem_of_getElem? (i := 1110) (by decide +kernel), List.mem_of_getElem? (i := 1111) (by decide +kernel)⟩
theorem lw_p42 : lw_okq (⟨"ButlerRemembersModel", "isDigit", "()Z"⟩, 28) := ⟨⟨by decide +kernel, by decide +kernel⟩, List.mem_of_getElem? (i := 944) (by decide +kernel), List.mem_of_getElem? (i := 1114) (by decide +kernel), List.mem_of_getElem? (i := 1115) (by decide +kernel)⟩
theorem lw_p43 : lw_okq (⟨"ButlerRemembersModel", "any", "()Z"⟩, 28) := ⟨⟨by decide +kernel, by decide +kernel⟩, List.mem_of_getElem? (i := 944) (by decide +kernel), List.mem_of_getElem? (i := 1118) (by decide +kernel), List.mem_of_getElem? (i := 1119) (by decide +kernel)⟩
theorem lw_p44 : lw_okq (⟨"ButlerRemembersModel", "both", "()Z"⟩, 28) := ⟨⟨by decide +kernel, by decide +kernel⟩, List.mem_of_getElem? (i := 944) (by decide +kernel), List.mem_of_getElem? (i := 1122) (by decide +kernel), List.mem_of_getElem? (i := 1123) (by decide +kernel)⟩
theorem lw_p45 : lw_okq (⟨"ButlerRemembersModel", "factor", "()Z"⟩, 28) := ⟨⟨by decide +kernel, by decide +kernel⟩, List.mem_of_getElem? (i := 944) (by decide +kernel), List.mem_of_getElem? (i := 1126) (by decide +kernel), List.mem_of_getElem? (i := 1127) (by decide +kernel)⟩
theorem lw_p46 : lw_okq (⟨"ButlerRemembersModel", "test", "()Z"⟩, 28) := ⟨⟨by decide +kernel, by decide +kernel⟩, List.mem_of_getElem? (i := 944) (by decide +kernel), List.mem_of_getElem? (i := 1130) (by decide +kernel), List.mem_of_getElem? (i := 1131) (by decide +kernel)⟩
theorem lw_p47 : lw_okq (⟨"ButlerRemembersModel", "keptBy", "(II)I"⟩, 28) := ⟨⟨by decide +kernel, by decide +kernel⟩, List.mem_of_getElem? (i := 944) (by decide +kernel), List.mem_of_getElem? (i := 1134) (by decide +kernel), List.mem_of_getElem? (i := 1135) (by decide +kernel)⟩
def lw_privs_3 : List (MethodName × Nat) := [(⟨"ButlerRemembersModel", "keeps", "(III)Z"⟩, 28), (⟨"ButlerRemembersModel", "gripOn", "(III)I"⟩, 28), (⟨"ButlerRemembersModel", "readFor", "(III)V"⟩, 28), (⟨"ButlerRemembersModel", "kind", "(I)I"⟩, 28), (⟨"ButlerRemembersModel", "v", "(I)I"⟩, 28), (⟨"ButlerRemembersModel", "readAll", "()Z"⟩, 28), (⟨"ButlerRemembersModel", "clause", "()V"⟩, 28), (⟨"ButlerRemembersModel", "isAt", "(I)Z"⟩, 28), (⟨"ButlerRemembersModel", "takes", "(I)V"⟩, 28), (⟨"ButlerRemembersModel", "number", "()I"⟩, 28), (⟨"ButlerRemembersModel", "isDigit", "()Z"⟩, 28), (⟨"ButlerRemembersModel", "any", "()Z"⟩, 28), (⟨"ButlerRemembersModel", "both", "()Z"⟩, 28), (⟨"ButlerRemembersModel", "factor", "()Z"⟩, 28), (⟨"ButlerRemembersModel", "test", "()Z"⟩, 28), (⟨"ButlerRemembersModel", "keptBy", "(II)I"⟩, 28)]
theorem lw_r3 : ∀ q ∈ lw_privs_3, lw_okq q := List.forall_mem_cons.mpr ⟨lw_p32, List.forall_mem_cons.mpr ⟨lw_p33, List.forall_mem_cons.mpr ⟨lw_p34, List.forall_mem_cons.mpr ⟨lw_p35, List.forall_mem_cons.mpr ⟨lw_p36, List.forall_mem_cons.mpr ⟨lw_p37, List.forall_mem_cons.mpr ⟨lw_p38, List.forall_mem_cons.mpr ⟨lw_p39, List.forall_mem_cons.mpr ⟨lw_p40, List.forall_mem_cons.mpr ⟨lw_p41, List.forall_mem_cons.mpr ⟨lw_p42, List.forall_mem_cons.mpr ⟨lw_p43, List.forall_mem_cons.mpr ⟨lw_p44, List.forall_mem_cons.mpr ⟨lw_p45, List.forall_mem_cons.mpr ⟨lw_p46, List.forall_mem_cons.mpr ⟨lw_p47, fun _ h => absurd h List.not_mem_nil⟩⟩⟩⟩⟩⟩⟩⟩⟩⟩⟩⟩⟩⟩⟩⟩
theorem lw_p48 : lw_okq (⟨"ButlerRemembersModel", "isFootman", "(I)Z"⟩, 28) := ⟨⟨by decide +kernel, by decide +kernel⟩, List.mem_of_getElem? (i := 944) (by decide +kernel), List.mem_of_getElem? (i := 1168) (by decide +kernel), List.mem_of_getElem? (i := 1169) (by decide +kernel)⟩
theorem lw_p49 : lw_okq (⟨"ButlerRemembersModel", "lostWith", "(I)I"⟩, 28) := ⟨⟨by decide +kernel, by decide +kernel⟩, List.mem_of_getElem? (i := 944) (by decide +kernel), List.mem_of_getElem? (i := 1188) (by decide +kernel), List.mem_of_getElem? (i := 1189) (by decide +kernel)⟩
theorem lw_p50 : lw_okq (⟨"ButlerRemembersModel", "held", "(I)I"⟩, 28) := ⟨⟨by decide +kernel, by decide +kernel⟩, List.mem_of_getElem? (i := 944) (by decide +kernel), List.mem_of_getElem? (i := 1192) (by decide +kernel), List.mem_of_getElem? (i := 1193) (by decide +kernel)⟩
theorem lw_p51 : lw_okq (⟨"ButlerRemembersModel", "isOut", "(I)Z"⟩, 28) := ⟨⟨by decide +kernel, by decide +kernel⟩, List.mem_of_getElem? (i := 944) (by decide +kernel), List.mem_of_getElem? (i := 1196) (by decide +kernel), List.mem_of_getElem? (i := 1197) (by decide +kernel)⟩
theorem lw_p52 : lw_okq (⟨"ButlerRemembersModel", "hoursNow", "()I"⟩, 28) := ⟨⟨by decide +kernel, by decide +kernel⟩, List.mem_of_getElem? (i := 944) (by decide +kernel), List.mem_of_getElem? (i := 1204) (by decide +kernel), List.mem_of_getElem? (i := 1205) (by decide +kernel)⟩
theorem lw_p53 : lw_okq (⟨"ButlerRemembersModel", "done", "()I"⟩, 28) := ⟨⟨by decide +kernel, by decide +kernel⟩, List.mem_of_getElem? (i := 944) (by decide +kernel), List.mem_of_getElem? (i := 1208) (by decide +kernel), List.mem_of_getElem? (i := 1209) (by decide +kernel)⟩
theorem lw_p54 : lw_okq (⟨"ButlerRemembersModel", "takes", "(II)I"⟩, 28) := ⟨⟨by decide +kernel, by decide +kernel⟩, List.mem_of_getElem? (i := 944) (by decide +kernel), List.mem_of_getElem? (i := 1212) (by decide +kernel), List.mem_of_getElem? (i := 1213) (by decide +kernel)⟩
theorem lw_p55 : lw_okq (⟨"ButlerRemembersModel", "tellings", "()I"⟩, 28) := ⟨⟨by decide +kernel, by decide +kernel⟩, List.mem_of_getElem? (i := 944) (by decide +kernel), List.mem_of_getElem? (i := 1216) (by decide +kernel), List.mem_of_getElem? (i := 1217) (by decide +kernel)⟩
theorem lw_p56 : lw_okq (⟨"ButlerRemembersModel", "tellFor", "(I)I"⟩, 28) := ⟨⟨by decide +kernel, by decide +kernel⟩, List.mem_of_getElem? (i := 944) (by decide +kernel), List.mem_of_getElem? (i := 1220) (by decide +kernel), List.mem_of_getElem? (i := 1221) (by decide +kernel)⟩
theorem lw_p57 : lw_okq (⟨"ButlerRemembersModel", "days", "(Z)I"⟩, 28) := ⟨⟨by decide +kernel, by decide +kernel⟩, List.mem_of_getElem? (i := 944) (by decide +kernel), List.mem_of_getElem? (i := 1227) (by decide +kernel), List.mem_of_getElem? (i := 1228) (by decide +kernel)⟩
theorem lw_p58 : lw_okq (⟨"ButlerRemembersModel", "night", "()V"⟩, 28) := ⟨⟨by decide +kernel, by decide +kernel⟩, List.mem_of_getElem? (i := 944) (by decide +kernel), List.mem_of_getElem? (i := 1232) (by decide +kernel), List.mem_of_getElem? (i := 1233) (by decide +kernel)⟩
theorem lw_p59 : lw_okq (⟨"ButlerRemembersModel", "crew", "()I"⟩, 28) := ⟨⟨by decide +kernel, by decide +kernel⟩, List.mem_of_getElem? (i := 944) (by decide +kernel), List.mem_of_getElem? (i := 1236) (by decide +kernel), List.mem_of_getElem? (i := 1237) (by decide +kernel)⟩
theorem lw_p60 : lw_okq (⟨"ButlerRemembersModel", "isSafe", "()I"⟩, 28) := ⟨⟨by decide +kernel, by decide +kernel⟩, List.mem_of_getElem? (i := 944) (by decide +kernel), List.mem_of_getElem? (i := 1240) (by decide +kernel), List.mem_of_getElem? (i := 1241) (by decide +kernel)⟩
theorem lw_p61 : lw_okq (⟨"ButlerRemembersModel", "outs", "()I"⟩, 28) := ⟨⟨by decide +kernel, by decide +kernel⟩, List.mem_of_getElem? (i := 944) (by decide +kernel), List.mem_of_getElem? (i := 1244) (by decide +kernel), List.mem_of_getElem? (i := 1245) (by decide +kernel)⟩
theorem lw_p62 : lw_okq (⟨"ButlerRemembersModel", "tells", "(I)I"⟩, 28) := ⟨⟨by decide +kernel, by decide +kernel⟩, List.mem_of_getElem? (i := 944) (by decide +kernel), List.mem_of_getElem? (i := 1256) (by decide +kernel), List.mem_of_getElem? (i := 1257) (by decide +kernel)⟩
theorem lw_p63 : lw_okq (⟨"ButlerRemembersModel", "known", "()I"⟩, 28) := ⟨⟨by decide +kernel, by decide +kernel⟩, List.mem_of_getElem? (i := 944) (by decide +kernel), List.mem_of_getElem? (i := 1260) (by decide +kernel), List.mem_of_getElem? (i := 1261) (by decide +kernel)⟩
def lw_privs_4 : List (MethodName × Nat) := [(⟨"ButlerRemembersModel", "isFootman", "(I)Z"⟩, 28), (⟨"ButlerRemembersModel", "lostWith", "(I)I"⟩, 28), (⟨"ButlerRemembersModel", "held", "(I)I"⟩, 28), (⟨"ButlerRemembersModel", "isOut", "(I)Z"⟩, 28), (⟨"ButlerRemembersModel", "hoursNow", "()I"⟩, 28), (⟨"ButlerRemembersModel", "done", "()I"⟩, 28), (⟨"ButlerRemembersModel", "takes", "(II)I"⟩, 28), (⟨"ButlerRemembersModel", "tellings", "()I"⟩, 28), (⟨"ButlerRemembersModel", "tellFor", "(I)I"⟩, 28), (⟨"ButlerRemembersModel", "days", "(Z)I"⟩, 28), (⟨"ButlerRemembersModel", "night", "()V"⟩, 28), (⟨"ButlerRemembersModel", "crew", "()I"⟩, 28), (⟨"ButlerRemembersModel", "isSafe", "()I"⟩, 28), (⟨"ButlerRemembersModel", "outs", "()I"⟩, 28), (⟨"ButlerRemembersModel", "tells", "(I)I"⟩, 28), (⟨"ButlerRemembersModel", "known", "()I"⟩, 28)]
theorem lw_r4 : ∀ q ∈ lw_privs_4, lw_okq q := List.forall_mem_cons.mpr ⟨lw_p48, List.forall_mem_cons.mpr ⟨lw_p49, List.forall_mem_cons.mpr ⟨lw_p50, List.forall_mem_cons.mpr ⟨lw_p51, List.forall_mem_cons.mpr ⟨lw_p52, List.forall_mem_cons.mpr ⟨lw_p53, List.forall_mem_cons.mpr ⟨lw_p54, List.forall_mem_cons.mpr ⟨lw_p55, List.forall_mem_cons.mpr ⟨lw_p56, List.forall_mem_cons.mpr ⟨lw_p57, List.forall_mem_cons.mpr ⟨lw_p58, List.forall_mem_cons.mpr ⟨lw_p59, List.forall_mem_cons.mpr ⟨lw_p60, List.forall_mem_cons.mpr ⟨lw_p61, List.forall_mem_cons.mpr ⟨lw_p62, List.forall_mem_cons.mpr ⟨lw_p63, fun _ h => absurd h List.not_mem_nil⟩⟩⟩⟩⟩⟩⟩⟩⟩⟩⟩⟩⟩⟩⟩⟩
theorem lw_p64 : lw_okq (⟨"ButlerRemembersModel", "isSo", "(I)Z"⟩, 28) := ⟨⟨by decide +kernel, by decide +kernel⟩, List.mem_of_getElem? (i := 944) (by decide +kernel), List.mem_of_getElem? (i := 1272) (by decide +kernel), List.mem_of_getElem? (i := 1273) (by decide +kernel)⟩
theorem lw_p65 : lw_okq (⟨"ButlerRemembersModel", "all", "(III)I"⟩, 28) := ⟨⟨by decide +kernel, by decide +kernel⟩, List.mem_of_getElem? (i := 944) (by decide +kernel), List.mem_of_getElem? (i := 1317) (by decide +kernel), List.mem_of_getElem? (i := 1318) (by decide +kernel)⟩
theorem lw_p66 : lw_okq (⟨"ButlerRemembersModel", "from", "(IIII)I"⟩, 28) := ⟨⟨by decide +kernel, by decide +kernel⟩, List.mem_of_getElem? (i := 944) (by decide +kernel), List.mem_of_getElem? (i := 1321) (by decide +kernel), List.mem_of_getElem? (i := 1322) (by decide +kernel)⟩
theorem lw_p67 : lw_okq (⟨"ButlerRemembersModel", "body", "(I)I"⟩, 28) := ⟨⟨by decide +kernel, by decide +kernel⟩, List.mem_of_getElem? (i := 944) (by decide +kernel), List.mem_of_getElem? (i := 1325) (by decide +kernel), List.mem_of_getElem? (i := 1326) (by decide +kernel)⟩
def lw_privs_5 : List (MethodName × Nat) := [(⟨"ButlerRemembersModel", "isSo", "(I)Z"⟩, 28), (⟨"ButlerRemembersModel", "all", "(III)I"⟩, 28), (⟨"ButlerRemembersModel", "from", "(IIII)I"⟩, 28), (⟨"ButlerRemembersModel", "body", "(I)I"⟩, 28)]
theorem lw_r5 : ∀ q ∈ lw_privs_5, lw_okq q := List.forall_mem_cons.mpr ⟨lw_p64, List.forall_mem_cons.mpr ⟨lw_p65, List.forall_mem_cons.mpr ⟨lw_p66, List.forall_mem_cons.mpr ⟨lw_p67, fun _ h => absurd h List.not_mem_nil⟩⟩⟩⟩
def lw_privs : List (MethodName × Nat) := lw_privs_1 ++ (lw_privs_2 ++ (lw_privs_3 ++ (lw_privs_4 ++ (lw_privs_5))))
def lw_tbl : List Cond := k2_sels lw_privs ++ tables_1
theorem lw_privs_ok : ∀ q ∈ lw_privs, lw_okq q := by
  show ∀ q ∈ lw_privs_1 ++ (lw_privs_2 ++ (lw_privs_3 ++ (lw_privs_4 ++ (lw_privs_5)))), lw_okq q
  exact List.forall_mem_append.mpr ⟨lw_r1, List.forall_mem_append.mpr ⟨lw_r2, List.forall_mem_append.mpr ⟨lw_r3, List.forall_mem_append.mpr ⟨lw_r4, lw_r5⟩⟩⟩⟩
def RX0 : String := "ButlerRemembers$Bishop"
def TX0 : u_T := fun k => match k with
  | _ => ("", "", "", false)
def tyX0 : Nat → FieldType := fun k => match k with
  | _ => .int
theorem nmX0 : ∀ a, a < 0 → ∀ b, b < 0 → a ≠ b → (TX0 a).2.1 ≠ (TX0 b).2.1 := by decide +kernel
theorem tyX0_ok : ∀ k, k < 0 → parseFieldDescriptor (TX0 k).2.2.1 = some (tyX0 k) := by decide +kernel
abbrev cX0_init : ByteArray := prog_2_method_1_code
def yX0_init : MethodName := ⟨RX0, "<init>", "()V"⟩
abbrev cX0_firmness : ByteArray := prog_2_method_2_code
def yX0_firmness : MethodName := ⟨RX0, "firmness", "(IIIII)I"⟩
abbrev cX0_dines : ByteArray := prog_2_method_3_code
def yX0_dines : MethodName := ⟨RX0, "dines", "(LButlerRemembers$Turn;I)I"⟩
abbrev cX0_nods : ByteArray := prog_2_method_4_code
def yX0_nods : MethodName := ⟨RX0, "nods", "(LButlerRemembers$Turn;I)I"⟩
def RX1 : String := "ButlerRemembers$Cousin"
def TX1 : u_T := fun k => match k with
  | _ => ("", "", "", false)
def tyX1 : Nat → FieldType := fun k => match k with
  | _ => .int
theorem nmX1 : ∀ a, a < 0 → ∀ b, b < 0 → a ≠ b → (TX1 a).2.1 ≠ (TX1 b).2.1 := by decide +kernel
theorem tyX1_ok : ∀ k, k < 0 → parseFieldDescriptor (TX1 k).2.2.1 = some (tyX1 k) := by decide +kernel
abbrev cX1_init : ByteArray := prog_3_method_1_code
def yX1_init : MethodName := ⟨RX1, "<init>", "()V"⟩
abbrev cX1_firmness : ByteArray := prog_3_method_2_code
def yX1_firmness : MethodName := ⟨RX1, "firmness", "(IIIII)I"⟩
abbrev cX1_tells : ByteArray := prog_3_method_3_code
def yX1_tells : MethodName := ⟨RX1, "tells", "(LButlerRemembers$Turn;I)I"⟩
def RX2 : String := "ButlerRemembers$Daughter"
def TX2 : u_T := fun k => match k with
  | _ => ("", "", "", false)
def tyX2 : Nat → FieldType := fun k => match k with
  | _ => .int
theorem nmX2 : ∀ a, a < 0 → ∀ b, b < 0 → a ≠ b → (TX2 a).2.1 ≠ (TX2 b).2.1 := by decide +kernel
theorem tyX2_ok : ∀ k, k < 0 → parseFieldDescriptor (TX2 k).2.2.1 = some (tyX2 k) := by decide +kernel
abbrev cX2_init : ByteArray := prog_4_method_1_code
def yX2_init : MethodName := ⟨RX2, "<init>", "()V"⟩
abbrev cX2_firmness : ByteArray := prog_4_method_2_code
def yX2_firmness : MethodName := ⟨RX2, "firmness", "(IIIII)I"⟩
abbrev cX2_tells : ByteArray := prog_4_method_3_code
def yX2_tells : MethodName := ⟨RX2, "tells", "(LButlerRemembers$Turn;I)I"⟩
def RX3 : String := "ButlerRemembers$Duchess"
def TX3 : u_T := fun k => match k with
  | _ => ("", "", "", false)
def tyX3 : Nat → FieldType := fun k => match k with
  | _ => .int
theorem nmX3 : ∀ a, a < 0 → ∀ b, b < 0 → a ≠ b → (TX3 a).2.1 ≠ (TX3 b).2.1 := by decide +kernel
theorem tyX3_ok : ∀ k, k < 0 → parseFieldDescriptor (TX3 k).2.2.1 = some (tyX3 k) := by decide +kernel
abbrev cX3_init : ByteArray := prog_5_method_1_code
def yX3_init : MethodName := ⟨RX3, "<init>", "()V"⟩
abbrev cX3_firmness : ByteArray := prog_5_method_2_code
def yX3_firmness : MethodName := ⟨RX3, "firmness", "(IIIII)I"⟩
abbrev cX3_dines : ByteArray := prog_5_method_3_code
def yX3_dines : MethodName := ⟨RX3, "dines", "(LButlerRemembers$Turn;I)I"⟩
def RX4 : String := "ButlerRemembers$Heir"
def TX4 : u_T := fun k => match k with
  | _ => ("", "", "", false)
def tyX4 : Nat → FieldType := fun k => match k with
  | _ => .int
theorem nmX4 : ∀ a, a < 0 → ∀ b, b < 0 → a ≠ b → (TX4 a).2.1 ≠ (TX4 b).2.1 := by decide +kernel
theorem tyX4_ok : ∀ k, k < 0 → parseFieldDescriptor (TX4 k).2.2.1 = some (tyX4 k) := by decide +kernel
abbrev cX4_init : ByteArray := prog_6_method_1_code
def yX4_init : MethodName := ⟨RX4, "<init>", "()V"⟩
abbrev cX4_firmness : ByteArray := prog_6_method_2_code
def yX4_firmness : MethodName := ⟨RX4, "firmness", "(IIIII)I"⟩
abbrev cX4_nods : ByteArray := prog_6_method_3_code
def yX4_nods : MethodName := ⟨RX4, "nods", "(LButlerRemembers$Turn;I)I"⟩
def RX5 : String := "ButlerRemembers$House"
def TX5 : u_T := fun k => match k with
  | 0 => ("ButlerRemembers$House", "hours", "I", false)
  | 1 => ("ButlerRemembers$House", "steps", "[I", true)
  | 2 => ("ButlerRemembers$House", "stepCount", "I", false)
  | 3 => ("ButlerRemembers$House", "stack", "[I", true)
  | 4 => ("ButlerRemembers$House", "top", "I", false)
  | 5 => ("ButlerRemembers$House", "bytes", "[B", false)
  | 6 => ("ButlerRemembers$House", "length", "I", false)
  | 7 => ("ButlerRemembers$House", "place", "I", false)
  | _ => ("ButlerRemembers$House", "number", "I", false)
def tyX5 : Nat → FieldType := fun k => match k with
  | 0 => .int
  | 1 => .array .int
  | 2 => .int
  | 3 => .array .int
  | 4 => .int
  | 5 => .array .byte
  | 6 => .int
  | 7 => .int
  | _ => .int
theorem nmX5 : ∀ a, a < 9 → ∀ b, b < 9 → a ≠ b → (TX5 a).2.1 ≠ (TX5 b).2.1 := by decide +kernel
theorem tyX5_ok : ∀ k, k < 9 → parseFieldDescriptor (TX5 k).2.2.1 = some (tyX5 k) := by decide +kernel
abbrev cX5_init : ByteArray := prog_7_method_1_code
def yX5_init : MethodName := ⟨RX5, "<init>", "()V"⟩
abbrev cX5_learn : ByteArray := prog_7_method_2_code
def yX5_learn : MethodName := ⟨RX5, "learn", "([BI)I"⟩
abbrev cX5_settleFactTests : ByteArray := prog_7_method_3_code
def yX5_settleFactTests : MethodName := ⟨RX5, "settleFactTests", "()V"⟩
abbrev cX5_sign : ByteArray := prog_7_method_4_code
def yX5_sign : MethodName := ⟨RX5, "sign", "()I"⟩
abbrev cX5_placeIn : ByteArray := prog_7_method_5_code
def yX5_placeIn : MethodName := ⟨RX5, "placeIn", "(Ljava/lang/String;I)I"⟩
abbrev cX5_takeWord : ByteArray := prog_7_method_6_code
def yX5_takeWord : MethodName := ⟨RX5, "takeWord", "(Ljava/lang/String;)Z"⟩
abbrev cX5_takeClause : ByteArray := prog_7_method_7_code
def yX5_takeClause : MethodName := ⟨RX5, "takeClause", "()Z"⟩
abbrev cX5_takeEither : ByteArray := prog_7_method_8_code
def yX5_takeEither : MethodName := ⟨RX5, "takeEither", "(I)Z"⟩
abbrev cX5_takeBoth : ByteArray := prog_7_method_9_code
def yX5_takeBoth : MethodName := ⟨RX5, "takeBoth", "(I)Z"⟩
abbrev cX5_takeOne : ByteArray := prog_7_method_10_code
def yX5_takeOne : MethodName := ⟨RX5, "takeOne", "(I)Z"⟩
abbrev cX5_takeTest : ByteArray := prog_7_method_11_code
def yX5_takeTest : MethodName := ⟨RX5, "takeTest", "()Z"⟩
abbrev cX5_takeNumber : ByteArray := prog_7_method_12_code
def yX5_takeNumber : MethodName := ⟨RX5, "takeNumber", "()Z"⟩
abbrev cX5_addStep : ByteArray := prog_7_method_13_code
def yX5_addStep : MethodName := ⟨RX5, "addStep", "(II)Z"⟩
abbrev cX5_compares : ByteArray := prog_7_method_14_code
def yX5_compares : MethodName := ⟨RX5, "compares", "(III)Z"⟩
abbrev cX5_factsThat : ByteArray := prog_7_method_15_code
def yX5_factsThat : MethodName := ⟨RX5, "factsThat", "(II)I"⟩
abbrev cX5_weigh : ByteArray := prog_7_method_16_code
def yX5_weigh : MethodName := ⟨RX5, "weigh", "(IIII[I)V"⟩
abbrev cX5_valueOf : ByteArray := prog_7_method_17_code
def yX5_valueOf : MethodName := ⟨RX5, "valueOf", "(IIIII)I"⟩
abbrev cX5_join : ByteArray := prog_7_method_18_code
def yX5_join : MethodName := ⟨RX5, "join", "(II)V"⟩
abbrev cX5_push : ByteArray := prog_7_method_19_code
def yX5_push : MethodName := ⟨RX5, "push", "(I)V"⟩
abbrev cX5_pop : ByteArray := prog_7_method_20_code
def yX5_pop : MethodName := ⟨RX5, "pop", "()I"⟩
abbrev cX5_addWeight : ByteArray := prog_7_method_21_code
def yX5_addWeight : MethodName := ⟨RX5, "addWeight", "(II[I)V"⟩
def RX6 : String := "ButlerRemembers$Household"
def TX6 : u_T := fun k => match k with
  | 0 => ("ButlerRemembers$Household", "masterCount", "I", false)
  | 1 => ("ButlerRemembers$Household", "kinds", "[I", true)
  | 2 => ("ButlerRemembers$Household", "vs", "[I", true)
  | 3 => ("ButlerRemembers$Household", "minds", "[I", true)
  | 4 => ("ButlerRemembers$Household", "rows", "[I", true)
  | 5 => ("ButlerRemembers$Household", "deedCount", "I", false)
  | 6 => ("ButlerRemembers$Household", "deedMasters", "[I", true)
  | 7 => ("ButlerRemembers$Household", "deedFacts", "[I", true)
  | 8 => ("ButlerRemembers$Household", "deedDues", "[I", true)
  | 9 => ("ButlerRemembers$Household", "footmanCount", "I", false)
  | 10 => ("ButlerRemembers$Household", "holds", "[I", true)
  | 11 => ("ButlerRemembers$Household", "outs", "I", false)
  | 12 => ("ButlerRemembers$Household", "day", "I", false)
  | 13 => ("ButlerRemembers$Household", "held", "I", false)
  | 14 => ("ButlerRemembers$Household", "seenCount", "I", false)
  | 15 => ("ButlerRemembers$Household", "seenRows", "[[I", true)
  | 16 => ("ButlerRemembers$Household", "planCount", "I", false)
  | 17 => ("ButlerRemembers$Household", "planRows", "[[I", true)
  | 18 => ("ButlerRemembers$Household", "bookCount", "I", false)
  | _ => ("ButlerRemembers$Household", "bookRows", "[[I", true)
def tyX6 : Nat → FieldType := fun k => match k with
  | 0 => .int
  | 1 => .array .int
  | 2 => .array .int
  | 3 => .array .int
  | 4 => .array .int
  | 5 => .int
  | 6 => .array .int
  | 7 => .array .int
  | 8 => .array .int
  | 9 => .int
  | 10 => .array .int
  | 11 => .int
  | 12 => .int
  | 13 => .int
  | 14 => .int
  | 15 => .array (.array .int)
  | 16 => .int
  | 17 => .array (.array .int)
  | 18 => .int
  | _ => .array (.array .int)
theorem nmX6 : ∀ a, a < 20 → ∀ b, b < 20 → a ≠ b → (TX6 a).2.1 ≠ (TX6 b).2.1 := by decide +kernel
theorem tyX6_ok : ∀ k, k < 20 → parseFieldDescriptor (TX6 k).2.2.1 = some (tyX6 k) := by decide +kernel
abbrev cX6_init : ByteArray := prog_8_method_1_code
def yX6_init : MethodName := ⟨RX6, "<init>", "()V"⟩
abbrev cX6_hasMaster : ByteArray := prog_8_method_2_code
def yX6_hasMaster : MethodName := ⟨RX6, "hasMaster", "(I)Z"⟩
abbrev cX6_hasFootman : ByteArray := prog_8_method_3_code
def yX6_hasFootman : MethodName := ⟨RX6, "hasFootman", "(I)Z"⟩
abbrev cX6_isOut : ByteArray := prog_8_method_4_code
def yX6_isOut : MethodName := ⟨RX6, "isOut", "(I)Z"⟩
abbrev cX6_addMaster : ByteArray := prog_8_method_5_code
def yX6_addMaster : MethodName := ⟨RX6, "addMaster", "(II)I"⟩
abbrev cX6_addDeed : ByteArray := prog_8_method_6_code
def yX6_addDeed : MethodName := ⟨RX6, "addDeed", "(III)I"⟩
abbrev cX6_addFootman : ByteArray := prog_8_method_7_code
def yX6_addFootman : MethodName := ⟨RX6, "addFootman", "(I)I"⟩
abbrev cX6_addSeen : ByteArray := prog_8_method_8_code
def yX6_addSeen : MethodName := ⟨RX6, "addSeen", "(IIIZ)I"⟩
abbrev cX6_addPlan : ByteArray := prog_8_method_9_code
def yX6_addPlan : MethodName := ⟨RX6, "addPlan", "(II)I"⟩
abbrev cX6_addBook : ByteArray := prog_8_method_10_code
def yX6_addBook : MethodName := ⟨RX6, "addBook", "(II)I"⟩
abbrev cX6_doneWith : ByteArray := prog_8_method_11_code
def yX6_doneWith : MethodName := ⟨RX6, "doneWith", "([I)I"⟩
abbrev cX6_knownIn : ByteArray := prog_8_method_12_code
def yX6_knownIn : MethodName := ⟨RX6, "knownIn", "([I)I"⟩
abbrev cX6_takenBy : ByteArray := prog_8_method_13_code
def yX6_takenBy : MethodName := ⟨RX6, "takenBy", "(II)I"⟩
abbrev cX6_heldWithout : ByteArray := prog_8_method_14_code
def yX6_heldWithout : MethodName := ⟨RX6, "heldWithout", "(I)I"⟩
abbrev cX6_heldByCrew : ByteArray := prog_8_method_15_code
def yX6_heldByCrew : MethodName := ⟨RX6, "heldByCrew", "(I)I"⟩
abbrev cX6_smallestCrew : ByteArray := prog_8_method_16_code
def yX6_smallestCrew : MethodName := ⟨RX6, "smallestCrew", "()I"⟩
abbrev cX6_lostWith : ByteArray := prog_8_method_17_code
def yX6_lostWith : MethodName := ⟨RX6, "lostWith", "(I)I"⟩
abbrev cX6_isSafe : ByteArray := prog_8_method_18_code
def yX6_isSafe : MethodName := ⟨RX6, "isSafe", "()Z"⟩
abbrev cX6_copyFrom : ByteArray := prog_8_method_19_code
def yX6_copyFrom : MethodName := ⟨RX6, "copyFrom", "(LButlerRemembers$Household;)V"⟩
abbrev cX6_copyRow : ByteArray := prog_8_method_20_code
def yX6_copyRow : MethodName := ⟨RX6, "copyRow", "([I[I)V"⟩
abbrev cX6_copyTable : ByteArray := prog_8_method_21_code
def yX6_copyTable : MethodName := ⟨RX6, "copyTable", "([[I[[I)V"⟩
def RX7 : String := "ButlerRemembers$Master"
def TX7 : u_T := fun k => match k with
  | _ => ("", "", "", false)
def tyX7 : Nat → FieldType := fun k => match k with
  | _ => .int
theorem nmX7 : ∀ a, a < 0 → ∀ b, b < 0 → a ≠ b → (TX7 a).2.1 ≠ (TX7 b).2.1 := by decide +kernel
theorem tyX7_ok : ∀ k, k < 0 → parseFieldDescriptor (TX7 k).2.2.1 = some (tyX7 k) := by decide +kernel
abbrev cX7_init : ByteArray := prog_9_method_1_code
def yX7_init : MethodName := ⟨RX7, "<init>", "()V"⟩
abbrev cX7_firmness : ByteArray := prog_9_method_2_code
def yX7_firmness : MethodName := ⟨RX7, "firmness", "(IIIII)I"⟩
abbrev cX7_dines : ByteArray := prog_9_method_3_code
def yX7_dines : MethodName := ⟨RX7, "dines", "(LButlerRemembers$Turn;I)I"⟩
abbrev cX7_nods : ByteArray := prog_9_method_4_code
def yX7_nods : MethodName := ⟨RX7, "nods", "(LButlerRemembers$Turn;I)I"⟩
abbrev cX7_tells : ByteArray := prog_9_method_5_code
def yX7_tells : MethodName := ⟨RX7, "tells", "(LButlerRemembers$Turn;I)I"⟩
def RX8 : String := "ButlerRemembers$Tape"
def TX8 : u_T := fun k => match k with
  | 0 => ("ButlerRemembers$Tape", "sort", "I", false)
  | 1 => ("ButlerRemembers$Tape", "size", "I", false)
  | _ => ("ButlerRemembers$Tape", "items", "[J", true)
def tyX8 : Nat → FieldType := fun k => match k with
  | 0 => .int
  | 1 => .int
  | _ => .array .long
theorem nmX8 : ∀ a, a < 3 → ∀ b, b < 3 → a ≠ b → (TX8 a).2.1 ≠ (TX8 b).2.1 := by decide +kernel
theorem tyX8_ok : ∀ k, k < 3 → parseFieldDescriptor (TX8 k).2.2.1 = some (tyX8 k) := by decide +kernel
abbrev cX8_init : ByteArray := prog_10_method_1_code
def yX8_init : MethodName := ⟨RX8, "<init>", "()V"⟩
abbrev cX8_become : ByteArray := prog_10_method_2_code
def yX8_become : MethodName := ⟨RX8, "become", "(II)V"⟩
abbrev cX8_holdsRow : ByteArray := prog_10_method_3_code
def yX8_holdsRow : MethodName := ⟨RX8, "holdsRow", "()Z"⟩
abbrev cX8_hasPlace : ByteArray := prog_10_method_4_code
def yX8_hasPlace : MethodName := ⟨RX8, "hasPlace", "(J)Z"⟩
abbrev cX8_hasStretch : ByteArray := prog_10_method_5_code
def yX8_hasStretch : MethodName := ⟨RX8, "hasStretch", "(II)Z"⟩
abbrev cX8_narrowed : ByteArray := prog_10_method_6_code
def yX8_narrowed : MethodName := ⟨RX8, "narrowed", "(J)J"⟩
def RX9 : String := "ButlerRemembers$Told"
def TX9 : u_T := fun k => match k with
  | _ => ("", "", "", false)
def tyX9 : Nat → FieldType := fun k => match k with
  | _ => .int
theorem nmX9 : ∀ a, a < 0 → ∀ b, b < 0 → a ≠ b → (TX9 a).2.1 ≠ (TX9 b).2.1 := by decide +kernel
theorem tyX9_ok : ∀ k, k < 0 → parseFieldDescriptor (TX9 k).2.2.1 = some (tyX9 k) := by decide +kernel
abbrev cX9_init : ByteArray := prog_11_method_1_code
def yX9_init : MethodName := ⟨RX9, "<init>", "()V"⟩
abbrev cX9_firmness : ByteArray := prog_11_method_2_code
def yX9_firmness : MethodName := ⟨RX9, "firmness", "(IIIII)I"⟩
abbrev cX9_nods : ByteArray := prog_11_method_3_code
def yX9_nods : MethodName := ⟨RX9, "nods", "(LButlerRemembers$Turn;I)I"⟩
abbrev cX9_dines : ByteArray := prog_11_method_4_code
def yX9_dines : MethodName := ⟨RX9, "dines", "(LButlerRemembers$Turn;I)I"⟩
def RX10 : String := "ButlerRemembers$Turn"
def TX10 : u_T := fun k => match k with
  | 0 => ("ButlerRemembers$Turn", "number", "I", false)
  | 1 => ("ButlerRemembers$Turn", "v", "I", false)
  | 2 => ("ButlerRemembers$Turn", "ran", "I", false)
  | _ => ("ButlerRemembers$Turn", "bodies", "[I", true)
def tyX10 : Nat → FieldType := fun k => match k with
  | 0 => .int
  | 1 => .int
  | 2 => .int
  | _ => .array .int
theorem nmX10 : ∀ a, a < 4 → ∀ b, b < 4 → a ≠ b → (TX10 a).2.1 ≠ (TX10 b).2.1 := by decide +kernel
theorem tyX10_ok : ∀ k, k < 4 → parseFieldDescriptor (TX10 k).2.2.1 = some (tyX10 k) := by decide +kernel
abbrev cX10_init : ByteArray := prog_12_method_1_code
def yX10_init : MethodName := ⟨RX10, "<init>", "()V"⟩
abbrev cX10_clear : ByteArray := prog_12_method_2_code
def yX10_clear : MethodName := ⟨RX10, "clear", "()V"⟩
abbrev cX10_begin : ByteArray := prog_12_method_3_code
def yX10_begin : MethodName := ⟨RX10, "begin", "(I)V"⟩
abbrev cX10_keptCount : ByteArray := prog_12_method_4_code
def yX10_keptCount : MethodName := ⟨RX10, "keptCount", "()I"⟩
def RX11 : String := "ButlerRemembers"
def TX11 : u_T := fun k => match k with
  | 0 => ("ButlerRemembers", "now", "LButlerRemembers$Household;", true)
  | 1 => ("ButlerRemembers", "saved", "LButlerRemembers$Household;", true)
  | 2 => ("ButlerRemembers", "imageTaken", "Z", false)
  | 3 => ("ButlerRemembers", "manners", "[LButlerRemembers$Master;", true)
  | 4 => ("ButlerRemembers", "bare", "LButlerRemembers$House;", true)
  | 5 => ("ButlerRemembers", "houses", "[LButlerRemembers$House;", true)
  | 6 => ("ButlerRemembers", "houseCount", "I", false)
  | 7 => ("ButlerRemembers", "text", "[B", true)
  | 8 => ("ButlerRemembers", "textLength", "I", false)
  | 9 => ("ButlerRemembers", "turn", "LButlerRemembers$Turn;", true)
  | 10 => ("ButlerRemembers", "tapes", "[LButlerRemembers$Tape;", true)
  | 11 => ("ButlerRemembers", "sums", "[I", true)
  | _ => ("ButlerRemembers", "dream", "[I", true)
def tyX11 : Nat → FieldType := fun k => match k with
  | 0 => .object "ButlerRemembers$Household"
  | 1 => .object "ButlerRemembers$Household"
  | 2 => .boolean
  | 3 => .array (.object "ButlerRemembers$Master")
  | 4 => .object "ButlerRemembers$House"
  | 5 => .array (.object "ButlerRemembers$House")
  | 6 => .int
  | 7 => .array .byte
  | 8 => .int
  | 9 => .object "ButlerRemembers$Turn"
  | 10 => .array (.object "ButlerRemembers$Tape")
  | 11 => .array .int
  | _ => .array .int
theorem nmX11 : ∀ a, a < 13 → ∀ b, b < 13 → a ≠ b → (TX11 a).2.1 ≠ (TX11 b).2.1 := by decide +kernel
theorem tyX11_ok : ∀ k, k < 13 → parseFieldDescriptor (TX11 k).2.2.1 = some (tyX11 k) := by decide +kernel
abbrev cX11_init : ByteArray := prog_1_method_1_code
def yX11_init : MethodName := ⟨RX11, "<init>", "()V"⟩
abbrev cX11_master : ByteArray := prog_1_method_2_code
def yX11_master : MethodName := ⟨RX11, "master", "(II)I"⟩
abbrev cX11_of : ByteArray := prog_1_method_3_code
def yX11_of : MethodName := ⟨RX11, "of", "(II)I"⟩
abbrev cX11_grip : ByteArray := prog_1_method_4_code
def yX11_grip : MethodName := ⟨RX11, "grip", "(III)I"⟩
abbrev cX11_tell : ByteArray := prog_1_method_5_code
def yX11_tell : MethodName := ⟨RX11, "tell", "(II)I"⟩
abbrev cX11_mind : ByteArray := prog_1_method_6_code
def yX11_mind : MethodName := ⟨RX11, "mind", "(II)I"⟩
abbrev cX11_deed : ByteArray := prog_1_method_7_code
def yX11_deed : MethodName := ⟨RX11, "deed", "(III)I"⟩
abbrev cX11_footman : ByteArray := prog_1_method_8_code
def yX11_footman : MethodName := ⟨RX11, "footman", "(I)I"⟩
abbrev cX11_out : ByteArray := prog_1_method_9_code
def yX11_out : MethodName := ⟨RX11, "out", "(IZ)I"⟩
abbrev cX11_lost : ByteArray := prog_1_method_10_code
def yX11_lost : MethodName := ⟨RX11, "lost", "(I)I"⟩
abbrev cX11_row : ByteArray := prog_1_method_11_code
def yX11_row : MethodName := ⟨RX11, "row", "(III)I"⟩
abbrev cX11_feed : ByteArray := prog_1_method_12_code
def yX11_feed : MethodName := ⟨RX11, "feed", "(I)I"⟩
abbrev cX11_house : ByteArray := prog_1_method_13_code
def yX11_house : MethodName := ⟨RX11, "house", "()I"⟩
abbrev cX11_told : ByteArray := prog_1_method_14_code
def yX11_told : MethodName := ⟨RX11, "told", "(I)I"⟩
abbrev cX11_pass : ByteArray := prog_1_method_15_code
def yX11_pass : MethodName := ⟨RX11, "pass", "(I)I"⟩
abbrev cX11_on : ByteArray := prog_1_method_16_code
def yX11_on : MethodName := ⟨RX11, "on", "(II)I"⟩
abbrev cX11_see : ByteArray := prog_1_method_17_code
def yX11_see : MethodName := ⟨RX11, "see", "(IIIZ)I"⟩
abbrev cX11_wrong : ByteArray := prog_1_method_18_code
def yX11_wrong : MethodName := ⟨RX11, "wrong", "()I"⟩
abbrev cX11_can : ByteArray := prog_1_method_19_code
def yX11_can : MethodName := ⟨RX11, "can", "(II)I"⟩
abbrev cX11_knew : ByteArray := prog_1_method_20_code
def yX11_knew : MethodName := ⟨RX11, "knew", "(IIII)I"⟩
abbrev cX11_odds : ByteArray := prog_1_method_21_code
def yX11_odds : MethodName := ⟨RX11, "odds", "(II)J"⟩
abbrev cX11_mean : ByteArray := prog_1_method_22_code
def yX11_mean : MethodName := ⟨RX11, "mean", "(II)J"⟩
abbrev cX11_plan : ByteArray := prog_1_method_23_code
def yX11_plan : MethodName := ⟨RX11, "plan", "(II)I"⟩
abbrev cX11_ends : ByteArray := prog_1_method_24_code
def yX11_ends : MethodName := ⟨RX11, "ends", "(I)I"⟩
abbrev cX11_book : ByteArray := prog_1_method_25_code
def yX11_book : MethodName := ⟨RX11, "book", "(II)I"⟩
abbrev cX11_looked : ByteArray := prog_1_method_26_code
def yX11_looked : MethodName := ⟨RX11, "looked", "()I"⟩
abbrev cX11_judge : ByteArray := prog_1_method_27_code
def yX11_judge : MethodName := ⟨RX11, "judge", "(II)I"⟩
abbrev cX11_image : ByteArray := prog_1_method_28_code
def yX11_image : MethodName := ⟨RX11, "image", "()I"⟩
abbrev cX11_undo : ByteArray := prog_1_method_29_code
def yX11_undo : MethodName := ⟨RX11, "undo", "()I"⟩
abbrev cX11_act : ByteArray := prog_1_method_30_code
def yX11_act : MethodName := ⟨RX11, "act", "(III)I"⟩
abbrev cX11_trace : ByteArray := prog_1_method_31_code
def yX11_trace : MethodName := ⟨RX11, "trace", "(I)I"⟩
abbrev cX11_taken : ByteArray := prog_1_method_32_code
def yX11_taken : MethodName := ⟨RX11, "taken", "(II)I"⟩
abbrev cX11_count : ByteArray := prog_1_method_33_code
def yX11_count : MethodName := ⟨RX11, "count", "(I)I"⟩
abbrev cX11_tape : ByteArray := prog_1_method_34_code
def yX11_tape : MethodName := ⟨RX11, "tape", "(III)I"⟩
abbrev cX11_item : ByteArray := prog_1_method_35_code
def yX11_item : MethodName := ⟨RX11, "item", "(IIJ)I"⟩
abbrev cX11_read : ByteArray := prog_1_method_36_code
def yX11_read : MethodName := ⟨RX11, "read", "(II)J"⟩
abbrev cX11_shift : ByteArray := prog_1_method_37_code
def yX11_shift : MethodName := ⟨RX11, "shift", "(IIIII)I"⟩
abbrev cX11_isFact : ByteArray := prog_1_method_38_code
def yX11_isFact : MethodName := ⟨RX11, "isFact", "(I)Z"⟩
abbrev cX11_isSet : ByteArray := prog_1_method_39_code
def yX11_isSet : MethodName := ⟨RX11, "isSet", "(I)Z"⟩
abbrev cX11_isPart : ByteArray := prog_1_method_40_code
def yX11_isPart : MethodName := ⟨RX11, "isPart", "(I)Z"⟩
abbrev cX11_isTape : ByteArray := prog_1_method_41_code
def yX11_isTape : MethodName := ⟨RX11, "isTape", "(I)Z"⟩
abbrev cX11_isUnder : ByteArray := prog_1_method_42_code
def yX11_isUnder : MethodName := ⟨RX11, "isUnder", "(LButlerRemembers$Master;I)Z"⟩
abbrev cX11_partOfFraction : ByteArray := prog_1_method_43_code
def yX11_partOfFraction : MethodName := ⟨RX11, "partOfFraction", "(III)J"⟩
abbrev cX11_holding : ByteArray := prog_1_method_44_code
def yX11_holding : MethodName := ⟨RX11, "holding", "()LButlerRemembers$House;"⟩
abbrev cX11_mannersOf : ByteArray := prog_1_method_45_code
def yX11_mannersOf : MethodName := ⟨RX11, "mannersOf", "(I)LButlerRemembers$Master;"⟩
abbrev cX11_weighedGrip : ByteArray := prog_1_method_46_code
def yX11_weighedGrip : MethodName := ⟨RX11, "weighedGrip", "(IIII)I"⟩
abbrev cX11_keptInNight : ByteArray := prog_1_method_47_code
def yX11_keptInNight : MethodName := ⟨RX11, "keptInNight", "(IIII)I"⟩
abbrev cX11_keptThrough : ByteArray := prog_1_method_48_code
def yX11_keptThrough : MethodName := ⟨RX11, "keptThrough", "(III)I"⟩
abbrev cX11_sleep : ByteArray := prog_1_method_49_code
def yX11_sleep : MethodName := ⟨RX11, "sleep", "([III)V"⟩
abbrev cX11_nightsKept : ByteArray := prog_1_method_50_code
def yX11_nightsKept : MethodName := ⟨RX11, "nightsKept", "(II)I"⟩
abbrev cX11_nightsUntilBlank : ByteArray := prog_1_method_51_code
def yX11_nightsUntilBlank : MethodName := ⟨RX11, "nightsUntilBlank", "(I)I"⟩
abbrev cX11_dreamOfNow : ByteArray := prog_1_method_52_code
def yX11_dreamOfNow : MethodName := ⟨RX11, "dreamOfNow", "()V"⟩
abbrev cX11_dreamOfRow : ByteArray := prog_1_method_53_code
def yX11_dreamOfRow : MethodName := ⟨RX11, "dreamOfRow", "(I)V"⟩
abbrev cX11_tellingsNow : ByteArray := prog_1_method_54_code
def yX11_tellingsNow : MethodName := ⟨RX11, "tellingsNow", "()I"⟩
abbrev cX11_tellDreamers : ByteArray := prog_1_method_55_code
def yX11_tellDreamers : MethodName := ⟨RX11, "tellDreamers", "(I)I"⟩
abbrev cX11_tellingsByDay : ByteArray := prog_1_method_56_code
def yX11_tellingsByDay : MethodName := ⟨RX11, "tellingsByDay", "(Z)I"⟩
abbrev cX11_isSo : ByteArray := prog_1_method_57_code
def yX11_isSo : MethodName := ⟨RX11, "isSo", "(II)Z"⟩
abbrev cX11_fitsSeen : ByteArray := prog_1_method_58_code
def yX11_fitsSeen : MethodName := ⟨RX11, "fitsSeen", "(II)Z"⟩
def RX12 : String := "ButlerRemembersModel"
def TX12 : u_T := fun k => match k with
  | 0 => ("ButlerRemembersModel", "now", "[I", true)
  | 1 => ("ButlerRemembersModel", "mind", "[I", true)
  | 2 => ("ButlerRemembersModel", "then", "[I", true)
  | 3 => ("ButlerRemembersModel", "kept", "Z", false)
  | 4 => ("ButlerRemembersModel", "text", "[I", true)
  | 5 => ("ButlerRemembersModel", "texted", "I", false)
  | 6 => ("ButlerRemembersModel", "rules", "[I", true)
  | 7 => ("ButlerRemembersModel", "sizes", "[I", true)
  | 8 => ("ButlerRemembersModel", "ruled", "I", false)
  | 9 => ("ButlerRemembersModel", "read", "[I", true)
  | 10 => ("ButlerRemembersModel", "size", "I", false)
  | 11 => ("ButlerRemembersModel", "at", "I", false)
  | 12 => ("ButlerRemembersModel", "well", "Z", false)
  | 13 => ("ButlerRemembersModel", "within", "I", false)
  | 14 => ("ButlerRemembersModel", "sum", "I", false)
  | 15 => ("ButlerRemembersModel", "hours", "I", false)
  | 16 => ("ButlerRemembersModel", "names", "[I", true)
  | 17 => ("ButlerRemembersModel", "letters", "[C", true)
  | 18 => ("ButlerRemembersModel", "begins", "[C", true)
  | 19 => ("ButlerRemembersModel", "words", "[C", true)
  | 20 => ("ButlerRemembersModel", "above", "[I", true)
  | 21 => ("ButlerRemembersModel", "bodies", "[I", true)
  | 22 => ("ButlerRemembersModel", "trace", "[I", true)
  | 23 => ("ButlerRemembersModel", "ran", "I", false)
  | 24 => ("ButlerRemembersModel", "sorts", "[I", true)
  | 25 => ("ButlerRemembersModel", "lengths", "[I", true)
  | 26 => ("ButlerRemembersModel", "items", "[J", true)
  | _ => ("ButlerRemembersModel", "moved", "[J", true)
def tyX12 : Nat → FieldType := fun k => match k with
  | 0 => .array .int
  | 1 => .array .int
  | 2 => .array .int
  | 3 => .boolean
  | 4 => .array .int
  | 5 => .int
  | 6 => .array .int
  | 7 => .array .int
  | 8 => .int
  | 9 => .array .int
  | 10 => .int
  | 11 => .int
  | 12 => .boolean
  | 13 => .int
  | 14 => .int
  | 15 => .int
  | 16 => .array .int
  | 17 => .array .char
  | 18 => .array .char
  | 19 => .array .char
  | 20 => .array .int
  | 21 => .array .int
  | 22 => .array .int
  | 23 => .int
  | 24 => .array .int
  | 25 => .array .int
  | 26 => .array .long
  | _ => .array .long
theorem nmX12 : ∀ a, a < 28 → ∀ b, b < 28 → a ≠ b → (TX12 a).2.1 ≠ (TX12 b).2.1 := by decide +kernel
theorem tyX12_ok : ∀ k, k < 28 → parseFieldDescriptor (TX12 k).2.2.1 = some (tyX12 k) := by decide +kernel
abbrev cX12_init : ByteArray := prog_14_method_1_code
def yX12_init : MethodName := ⟨RX12, "<init>", "()V"⟩
abbrev cX12_isIn : ByteArray := prog_14_method_2_code
def yX12_isIn : MethodName := ⟨RX12, "isIn", "(III)Z"⟩
abbrev cX12_move : ByteArray := prog_14_method_3_code
def yX12_move : MethodName := ⟨RX12, "move", "([I[I)V"⟩
abbrev cX12_image : ByteArray := prog_14_method_4_code
def yX12_image : MethodName := ⟨RX12, "image", "()I"⟩
abbrev cX12_undo : ByteArray := prog_14_method_5_code
def yX12_undo : MethodName := ⟨RX12, "undo", "()I"⟩
abbrev cX12_isMaster : ByteArray := prog_14_method_6_code
def yX12_isMaster : MethodName := ⟨RX12, "isMaster", "(I)Z"⟩
abbrev cX12_isFact : ByteArray := prog_14_method_7_code
def yX12_isFact : MethodName := ⟨RX12, "isFact", "(I)Z"⟩
abbrev cX12_isSet : ByteArray := prog_14_method_8_code
def yX12_isSet : MethodName := ⟨RX12, "isSet", "(I)Z"⟩
abbrev cX12_kind : ByteArray := prog_14_method_9_code
def yX12_kind : MethodName := ⟨RX12, "kind", "(I)I"⟩
abbrev cX12_v : ByteArray := prog_14_method_10_code
def yX12_v : MethodName := ⟨RX12, "v", "(I)I"⟩
abbrev cX12_mindOf : ByteArray := prog_14_method_11_code
def yX12_mindOf : MethodName := ⟨RX12, "mindOf", "(I)I"⟩
abbrev cX12_many : ByteArray := prog_14_method_12_code
def yX12_many : MethodName := ⟨RX12, "many", "(I)I"⟩
abbrev cX12_master : ByteArray := prog_14_method_13_code
def yX12_master : MethodName := ⟨RX12, "master", "(II)I"⟩
abbrev cX12_of : ByteArray := prog_14_method_14_code
def yX12_of : MethodName := ⟨RX12, "of", "(II)I"⟩
abbrev cX12_grip : ByteArray := prog_14_method_15_code
def yX12_grip : MethodName := ⟨RX12, "grip", "(III)I"⟩
abbrev cX12_tell : ByteArray := prog_14_method_16_code
def yX12_tell : MethodName := ⟨RX12, "tell", "(II)I"⟩
abbrev cX12_mind : ByteArray := prog_14_method_17_code
def yX12_mind : MethodName := ⟨RX12, "mind", "(II)I"⟩
abbrev cX12_deed : ByteArray := prog_14_method_18_code
def yX12_deed : MethodName := ⟨RX12, "deed", "(III)I"⟩
abbrev cX12_footman : ByteArray := prog_14_method_19_code
def yX12_footman : MethodName := ⟨RX12, "footman", "(I)I"⟩
abbrev cX12_isFootman : ByteArray := prog_14_method_20_code
def yX12_isFootman : MethodName := ⟨RX12, "isFootman", "(I)Z"⟩
abbrev cX12_isOut : ByteArray := prog_14_method_21_code
def yX12_isOut : MethodName := ⟨RX12, "isOut", "(I)Z"⟩
abbrev cX12_out : ByteArray := prog_14_method_22_code
def yX12_out : MethodName := ⟨RX12, "out", "(IZ)I"⟩
abbrev cX12_row : ByteArray := prog_14_method_23_code
def yX12_row : MethodName := ⟨RX12, "row", "(III)I"⟩
abbrev cX12_feed : ByteArray := prog_14_method_24_code
def yX12_feed : MethodName := ⟨RX12, "feed", "(I)I"⟩
abbrev cX12_isAt : ByteArray := prog_14_method_25_code
def yX12_isAt : MethodName := ⟨RX12, "isAt", "(I)Z"⟩
abbrev cX12_takes : ByteArray := prog_14_method_26_code
def yX12_takes : MethodName := ⟨RX12, "takes", "(I)V"⟩
abbrev cX12_isDigit : ByteArray := prog_14_method_27_code
def yX12_isDigit : MethodName := ⟨RX12, "isDigit", "()Z"⟩
abbrev cX12_number : ByteArray := prog_14_method_28_code
def yX12_number : MethodName := ⟨RX12, "number", "()I"⟩
abbrev cX12_test : ByteArray := prog_14_method_29_code
def yX12_test : MethodName := ⟨RX12, "test", "()Z"⟩
abbrev cX12_factor : ByteArray := prog_14_method_30_code
def yX12_factor : MethodName := ⟨RX12, "factor", "()Z"⟩
abbrev cX12_both : ByteArray := prog_14_method_31_code
def yX12_both : MethodName := ⟨RX12, "both", "()Z"⟩
abbrev cX12_any : ByteArray := prog_14_method_32_code
def yX12_any : MethodName := ⟨RX12, "any", "()Z"⟩
abbrev cX12_clause : ByteArray := prog_14_method_33_code
def yX12_clause : MethodName := ⟨RX12, "clause", "()V"⟩
abbrev cX12_readAll : ByteArray := prog_14_method_34_code
def yX12_readAll : MethodName := ⟨RX12, "readAll", "()Z"⟩
abbrev cX12_readFor : ByteArray := prog_14_method_35_code
def yX12_readFor : MethodName := ⟨RX12, "readFor", "(III)V"⟩
abbrev cX12_house : ByteArray := prog_14_method_36_code
def yX12_house : MethodName := ⟨RX12, "house", "()I"⟩
abbrev cX12_gripOn : ByteArray := prog_14_method_37_code
def yX12_gripOn : MethodName := ⟨RX12, "gripOn", "(III)I"⟩
abbrev cX12_keeps : ByteArray := prog_14_method_38_code
def yX12_keeps : MethodName := ⟨RX12, "keeps", "(III)Z"⟩
abbrev cX12_stays : ByteArray := prog_14_method_39_code
def yX12_stays : MethodName := ⟨RX12, "stays", "(III)I"⟩
abbrev cX12_night : ByteArray := prog_14_method_40_code
def yX12_night : MethodName := ⟨RX12, "night", "()V"⟩
abbrev cX12_keptBy : ByteArray := prog_14_method_41_code
def yX12_keptBy : MethodName := ⟨RX12, "keptBy", "(II)I"⟩
abbrev cX12_blank : ByteArray := prog_14_method_42_code
def yX12_blank : MethodName := ⟨RX12, "blank", "(I)I"⟩
abbrev cX12_takes_ : ByteArray := prog_14_method_43_code
def yX12_takes_ : MethodName := ⟨RX12, "takes", "(II)I"⟩
abbrev cX12_done : ByteArray := prog_14_method_44_code
def yX12_done : MethodName := ⟨RX12, "done", "()I"⟩
abbrev cX12_known : ByteArray := prog_14_method_45_code
def yX12_known : MethodName := ⟨RX12, "known", "()I"⟩
abbrev cX12_tellFor : ByteArray := prog_14_method_46_code
def yX12_tellFor : MethodName := ⟨RX12, "tellFor", "(I)I"⟩
abbrev cX12_tellings : ByteArray := prog_14_method_47_code
def yX12_tellings : MethodName := ⟨RX12, "tellings", "()I"⟩
abbrev cX12_days : ByteArray := prog_14_method_48_code
def yX12_days : MethodName := ⟨RX12, "days", "(Z)I"⟩
abbrev cX12_hoursNow : ByteArray := prog_14_method_49_code
def yX12_hoursNow : MethodName := ⟨RX12, "hoursNow", "()I"⟩
abbrev cX12_held : ByteArray := prog_14_method_50_code
def yX12_held : MethodName := ⟨RX12, "held", "(I)I"⟩
abbrev cX12_crew : ByteArray := prog_14_method_51_code
def yX12_crew : MethodName := ⟨RX12, "crew", "()I"⟩
abbrev cX12_lostWith : ByteArray := prog_14_method_52_code
def yX12_lostWith : MethodName := ⟨RX12, "lostWith", "(I)I"⟩
abbrev cX12_lost : ByteArray := prog_14_method_53_code
def yX12_lost : MethodName := ⟨RX12, "lost", "(I)I"⟩
abbrev cX12_outs : ByteArray := prog_14_method_54_code
def yX12_outs : MethodName := ⟨RX12, "outs", "()I"⟩
abbrev cX12_isSafe : ByteArray := prog_14_method_55_code
def yX12_isSafe : MethodName := ⟨RX12, "isSafe", "()I"⟩
abbrev cX12_told : ByteArray := prog_14_method_56_code
def yX12_told : MethodName := ⟨RX12, "told", "(I)I"⟩
abbrev cX12_pass : ByteArray := prog_14_method_57_code
def yX12_pass : MethodName := ⟨RX12, "pass", "(I)I"⟩
abbrev cX12_tells : ByteArray := prog_14_method_58_code
def yX12_tells : MethodName := ⟨RX12, "tells", "(I)I"⟩
abbrev cX12_on : ByteArray := prog_14_method_59_code
def yX12_on : MethodName := ⟨RX12, "on", "(II)I"⟩
abbrev cX12_see : ByteArray := prog_14_method_60_code
def yX12_see : MethodName := ⟨RX12, "see", "(IIIZ)I"⟩
abbrev cX12_isSo : ByteArray := prog_14_method_61_code
def yX12_isSo : MethodName := ⟨RX12, "isSo", "(I)Z"⟩
abbrev cX12_wrong : ByteArray := prog_14_method_62_code
def yX12_wrong : MethodName := ⟨RX12, "wrong", "()I"⟩
abbrev cX12_can : ByteArray := prog_14_method_63_code
def yX12_can : MethodName := ⟨RX12, "can", "(II)I"⟩
abbrev cX12_knew : ByteArray := prog_14_method_64_code
def yX12_knew : MethodName := ⟨RX12, "knew", "(IIII)I"⟩
abbrev cX12_fraction : ByteArray := prog_14_method_65_code
def yX12_fraction : MethodName := ⟨RX12, "fraction", "(JJI)J"⟩
abbrev cX12_odds : ByteArray := prog_14_method_66_code
def yX12_odds : MethodName := ⟨RX12, "odds", "(II)J"⟩
abbrev cX12_mean : ByteArray := prog_14_method_67_code
def yX12_mean : MethodName := ⟨RX12, "mean", "(II)J"⟩
abbrev cX12_plan : ByteArray := prog_14_method_68_code
def yX12_plan : MethodName := ⟨RX12, "plan", "(II)I"⟩
abbrev cX12_ends : ByteArray := prog_14_method_69_code
def yX12_ends : MethodName := ⟨RX12, "ends", "(I)I"⟩
abbrev cX12_book : ByteArray := prog_14_method_70_code
def yX12_book : MethodName := ⟨RX12, "book", "(II)I"⟩
abbrev cX12_looked : ByteArray := prog_14_method_71_code
def yX12_looked : MethodName := ⟨RX12, "looked", "()I"⟩
abbrev cX12_body : ByteArray := prog_14_method_72_code
def yX12_body : MethodName := ⟨RX12, "body", "(I)I"⟩
abbrev cX12_all : ByteArray := prog_14_method_73_code
def yX12_all : MethodName := ⟨RX12, "all", "(III)I"⟩
abbrev cX12_from : ByteArray := prog_14_method_74_code
def yX12_from : MethodName := ⟨RX12, "from", "(IIII)I"⟩
abbrev cX12_act : ByteArray := prog_14_method_75_code
def yX12_act : MethodName := ⟨RX12, "act", "(III)I"⟩
abbrev cX12_trace : ByteArray := prog_14_method_76_code
def yX12_trace : MethodName := ⟨RX12, "trace", "(I)I"⟩
abbrev cX12_taken : ByteArray := prog_14_method_77_code
def yX12_taken : MethodName := ⟨RX12, "taken", "(II)I"⟩
abbrev cX12_count : ByteArray := prog_14_method_78_code
def yX12_count : MethodName := ⟨RX12, "count", "(I)I"⟩
abbrev cX12_isTape : ByteArray := prog_14_method_79_code
def yX12_isTape : MethodName := ⟨RX12, "isTape", "(I)Z"⟩
abbrev cX12_tape : ByteArray := prog_14_method_80_code
def yX12_tape : MethodName := ⟨RX12, "tape", "(III)I"⟩
abbrev cX12_item : ByteArray := prog_14_method_81_code
def yX12_item : MethodName := ⟨RX12, "item", "(IIJ)I"⟩
abbrev cX12_read : ByteArray := prog_14_method_82_code
def yX12_read : MethodName := ⟨RX12, "read", "(II)J"⟩
abbrev cX12_shift : ByteArray := prog_14_method_83_code
def yX12_shift : MethodName := ⟨RX12, "shift", "(IIIII)I"⟩
abbrev cX12_judge : ByteArray := prog_14_method_84_code
def yX12_judge : MethodName := ⟨RX12, "judge", "(II)I"⟩
def RJx145de : String := "java/io/Serializable"
def TJx145de : u_T := fun k => match k with
  | _ => ("", "", "", false)
def tyJx145de : Nat → FieldType := fun k => match k with
  | _ => .int
theorem nmJx145de : ∀ a, a < 0 → ∀ b, b < 0 → a ≠ b → (TJx145de a).2.1 ≠ (TJx145de b).2.1 := by decide +kernel
theorem tyJx145de_ok : ∀ k, k < 0 → parseFieldDescriptor (TJx145de k).2.2.1 = some (tyJx145de k) := by decide +kernel
def RJx9f9b0 : String := "java/lang/CharSequence"
def TJx9f9b0 : u_T := fun k => match k with
  | _ => ("", "", "", false)
def tyJx9f9b0 : Nat → FieldType := fun k => match k with
  | _ => .int
theorem nmJx9f9b0 : ∀ a, a < 0 → ∀ b, b < 0 → a ≠ b → (TJx9f9b0 a).2.1 ≠ (TJx9f9b0 b).2.1 := by decide +kernel
theorem tyJx9f9b0_ok : ∀ k, k < 0 → parseFieldDescriptor (TJx9f9b0 k).2.2.1 = some (tyJx9f9b0 k) := by decide +kernel
def RJ11 : String := "java/lang/Character"
def TJ11 : u_T := fun k => match k with
  | _ => ("", "", "", false)
def tyJ11 : Nat → FieldType := fun k => match k with
  | _ => .int
theorem nmJ11 : ∀ a, a < 0 → ∀ b, b < 0 → a ≠ b → (TJ11 a).2.1 ≠ (TJ11 b).2.1 := by decide +kernel
theorem tyJ11_ok : ∀ k, k < 0 → parseFieldDescriptor (TJ11 k).2.2.1 = some (tyJ11 k) := by decide +kernel
abbrev cJ11_isValidCodePoint_9a6ad : ByteArray := prog_15_method_11_code
def yJ11_isValidCodePoint_9a6ad : MethodName := ⟨RJ11, "isValidCodePoint", "(I)Z"⟩
abbrev cJ11_highSurrogate_5068e : ByteArray := prog_15_method_28_code
def yJ11_highSurrogate_5068e : MethodName := ⟨RJ11, "highSurrogate", "(I)C"⟩
abbrev cJ11_lowSurrogate_5068e : ByteArray := prog_15_method_29_code
def yJ11_lowSurrogate_5068e : MethodName := ⟨RJ11, "lowSurrogate", "(I)C"⟩
def RJxb160c : String := "java/lang/Comparable"
def TJxb160c : u_T := fun k => match k with
  | _ => ("", "", "", false)
def tyJxb160c : Nat → FieldType := fun k => match k with
  | _ => .int
theorem nmJxb160c : ∀ a, a < 0 → ∀ b, b < 0 → a ≠ b → (TJxb160c a).2.1 ≠ (TJxb160c b).2.1 := by decide +kernel
theorem tyJxb160c_ok : ∀ k, k < 0 → parseFieldDescriptor (TJxb160c k).2.2.1 = some (tyJxb160c k) := by decide +kernel
def RJ6 : String := "java/lang/Integer"
def TJ6 : u_T := fun k => match k with
  | _ => ("", "", "", false)
def tyJ6 : Nat → FieldType := fun k => match k with
  | _ => .int
theorem nmJ6 : ∀ a, a < 0 → ∀ b, b < 0 → a ≠ b → (TJ6 a).2.1 ≠ (TJ6 b).2.1 := by decide +kernel
theorem tyJ6_ok : ∀ k, k < 0 → parseFieldDescriptor (TJ6 k).2.2.1 = some (tyJ6 k) := by decide +kernel
abbrev cJ6_bitCount_0f7a4 : ByteArray := prog_16_method_49_code
def yJ6_bitCount_0f7a4 : MethodName := ⟨RJ6, "bitCount", "(I)I"⟩
def RJ9 : String := "java/lang/Math"
def TJ9 : u_T := fun k => match k with
  | _ => ("", "", "", false)
def tyJ9 : Nat → FieldType := fun k => match k with
  | _ => .int
theorem nmJ9 : ∀ a, a < 0 → ∀ b, b < 0 → a ≠ b → (TJ9 a).2.1 ≠ (TJ9 b).2.1 := by decide +kernel
theorem tyJ9_ok : ∀ k, k < 0 → parseFieldDescriptor (TJ9 k).2.2.1 = some (tyJ9 k) := by decide +kernel
abbrev cJ9_max_7cf53 : ByteArray := prog_17_method_65_code
def yJ9_max_7cf53 : MethodName := ⟨RJ9, "max", "(II)I"⟩
abbrev cJ9_min_7cf53 : ByteArray := prog_17_method_69_code
def yJ9_min_7cf53 : MethodName := ⟨RJ9, "min", "(II)I"⟩
def RJ0 : String := "java/lang/String"
def TJ0 : u_T := fun k => match k with
  | _ => ("", "", "", false)
def tyJ0 : Nat → FieldType := fun k => match k with
  | _ => .int
theorem nmJ0 : ∀ a, a < 0 → ∀ b, b < 0 → a ≠ b → (TJ0 a).2.1 ≠ (TJ0 b).2.1 := by decide +kernel
theorem tyJ0_ok : ∀ k, k < 0 → parseFieldDescriptor (TJ0 k).2.2.1 = some (tyJ0 k) := by decide +kernel
abbrev cJ0_length_8abf5 : ByteArray := prog_18_method_54_code
def yJ0_length_8abf5 : MethodName := ⟨RJ0, "length", "()I"⟩
abbrev cJ0_charAt_5068e : ByteArray := prog_18_method_56_code
def yJ0_charAt_5068e : MethodName := ⟨RJ0, "charAt", "(I)C"⟩
abbrev cJ0_indexOf_0f7a4 : ByteArray := prog_18_method_79_code
def yJ0_indexOf_0f7a4 : MethodName := ⟨RJ0, "indexOf", "(I)I"⟩
abbrev cJ0_indexOf_7cf53 : ByteArray := prog_18_method_80_code
def yJ0_indexOf_7cf53 : MethodName := ⟨RJ0, "indexOf", "(II)I"⟩
abbrev cJ0_coder_7d493 : ByteArray := prog_18_method_152_code
def yJ0_coder_7d493 : MethodName := ⟨RJ0, "coder", "()B"⟩
abbrev cJ0_isLatin1_aae02 : ByteArray := prog_18_method_154_code
def yJ0_isLatin1_aae02 : MethodName := ⟨RJ0, "isLatin1", "()Z"⟩
abbrev cJ0_checkIndex_df160 : ByteArray := prog_18_method_155_code
def yJ0_checkIndex_df160 : MethodName := ⟨RJ0, "checkIndex", "(II)V"⟩
abbrev cJ0_checkBoundsBeginEnd_23922 : ByteArray := prog_18_method_158_code
def yJ0_checkBoundsBeginEnd_23922 : MethodName := ⟨RJ0, "checkBoundsBeginEnd", "(III)V"⟩
def RJ1 : String := "java/lang/StringLatin1"
def TJ1 : u_T := fun k => match k with
  | _ => ("", "", "", false)
def tyJ1 : Nat → FieldType := fun k => match k with
  | _ => .int
theorem nmJ1 : ∀ a, a < 0 → ∀ b, b < 0 → a ≠ b → (TJ1 a).2.1 ≠ (TJ1 b).2.1 := by decide +kernel
theorem tyJ1_ok : ∀ k, k < 0 → parseFieldDescriptor (TJ1 k).2.2.1 = some (tyJ1 k) := by decide +kernel
abbrev cJ1_charAt_3b067 : ByteArray := prog_19_method_2_code
def yJ1_charAt_3b067 : MethodName := ⟨RJ1, "charAt", "([BI)C"⟩
abbrev cJ1_canEncode_9a6ad : ByteArray := prog_19_method_4_code
def yJ1_canEncode_9a6ad : MethodName := ⟨RJ1, "canEncode", "(I)Z"⟩
abbrev cJ1_indexOf_4cfef : ByteArray := prog_19_method_22_code
def yJ1_indexOf_4cfef : MethodName := ⟨RJ1, "indexOf", "([BIII)I"⟩
abbrev cJ1_indexOfChar_4cfef : ByteArray := prog_19_method_23_code
def yJ1_indexOfChar_4cfef : MethodName := ⟨RJ1, "indexOfChar", "([BIII)I"⟩
def RJ2 : String := "java/lang/StringUTF16"
def TJ2 : u_T := fun k => match k with
  | _ => ("", "", "", false)
def tyJ2 : Nat → FieldType := fun k => match k with
  | _ => .int
theorem nmJ2 : ∀ a, a < 0 → ∀ b, b < 0 → a ≠ b → (TJ2 a).2.1 ≠ (TJ2 b).2.1 := by decide +kernel
theorem tyJ2_ok : ∀ k, k < 0 → parseFieldDescriptor (TJ2 k).2.2.1 = some (tyJ2 k) := by decide +kernel
abbrev cJ2_getChar_3b067 : ByteArray := prog_20_method_5_code
def yJ2_getChar_3b067 : MethodName := ⟨RJ2, "getChar", "([BI)C"⟩
abbrev cJ2_length_9d52b : ByteArray := prog_20_method_6_code
def yJ2_length_9d52b : MethodName := ⟨RJ2, "length", "([B)I"⟩
abbrev cJ2_indexOf_4cfef : ByteArray := prog_20_method_40_code
def yJ2_indexOf_4cfef : MethodName := ⟨RJ2, "indexOf", "([BIII)I"⟩
abbrev cJ2_indexOfChar_4cfef : ByteArray := prog_20_method_47_code
def yJ2_indexOfChar_4cfef : MethodName := ⟨RJ2, "indexOfChar", "([BIII)I"⟩
abbrev cJ2_indexOfCharUnsafe_4cfef : ByteArray := prog_20_method_48_code
def yJ2_indexOfCharUnsafe_4cfef : MethodName := ⟨RJ2, "indexOfCharUnsafe", "([BIII)I"⟩
abbrev cJ2_indexOfSupplementary_4cfef : ByteArray := prog_20_method_49_code
def yJ2_indexOfSupplementary_4cfef : MethodName := ⟨RJ2, "indexOfSupplementary", "([BIII)I"⟩
abbrev cJ2_charAt_3b067 : ByteArray := prog_20_method_83_code
def yJ2_charAt_3b067 : MethodName := ⟨RJ2, "charAt", "([BI)C"⟩
abbrev cJ2_checkIndex_2214a : ByteArray := prog_20_method_91_code
def yJ2_checkIndex_2214a : MethodName := ⟨RJ2, "checkIndex", "(I[B)V"⟩
abbrev cJ2_checkBoundsBeginEnd_d044e : ByteArray := prog_20_method_93_code
def yJ2_checkBoundsBeginEnd_d044e : MethodName := ⟨RJ2, "checkBoundsBeginEnd", "(II[B)V"⟩
def RJ10 : String := "java/lang/System"
def TJ10 : u_T := fun k => match k with
  | _ => ("", "", "", false)
def tyJ10 : Nat → FieldType := fun k => match k with
  | _ => .int
theorem nmJ10 : ∀ a, a < 0 → ∀ b, b < 0 → a ≠ b → (TJ10 a).2.1 ≠ (TJ10 b).2.1 := by decide +kernel
theorem tyJ10_ok : ∀ k, k < 0 → parseFieldDescriptor (TJ10 k).2.2.1 = some (tyJ10 k) := by decide +kernel
def RJxfd54e : String := "java/lang/constant/Constable"
def TJxfd54e : u_T := fun k => match k with
  | _ => ("", "", "", false)
def tyJxfd54e : Nat → FieldType := fun k => match k with
  | _ => .int
theorem nmJxfd54e : ∀ a, a < 0 → ∀ b, b < 0 → a ≠ b → (TJxfd54e a).2.1 ≠ (TJxfd54e b).2.1 := by decide +kernel
theorem tyJxfd54e_ok : ∀ k, k < 0 → parseFieldDescriptor (TJxfd54e k).2.2.1 = some (tyJxfd54e k) := by decide +kernel
def RJx3cf43 : String := "java/lang/constant/ConstantDesc"
def TJx3cf43 : u_T := fun k => match k with
  | _ => ("", "", "", false)
def tyJx3cf43 : Nat → FieldType := fun k => match k with
  | _ => .int
theorem nmJx3cf43 : ∀ a, a < 0 → ∀ b, b < 0 → a ≠ b → (TJx3cf43 a).2.1 ≠ (TJx3cf43 b).2.1 := by decide +kernel
theorem tyJx3cf43_ok : ∀ k, k < 0 → parseFieldDescriptor (TJx3cf43 k).2.2.1 = some (tyJx3cf43 k) := by decide +kernel
def RJ7 : String := "java/util/Arrays"
def TJ7 : u_T := fun k => match k with
  | _ => ("", "", "", false)
def tyJ7 : Nat → FieldType := fun k => match k with
  | _ => .int
theorem nmJ7 : ∀ a, a < 0 → ∀ b, b < 0 → a ≠ b → (TJ7 a).2.1 ≠ (TJ7 b).2.1 := by decide +kernel
theorem tyJ7_ok : ∀ k, k < 0 → parseFieldDescriptor (TJ7 k).2.2.1 = some (tyJ7 k) := by decide +kernel
abbrev cJ7_fill_d0a16 : ByteArray := prog_22_method_101_code
def yJ7_fill_d0a16 : MethodName := ⟨RJ7, "fill", "([JJ)V"⟩
abbrev cJ7_fill_53178 : ByteArray := prog_22_method_103_code
def yJ7_fill_53178 : MethodName := ⟨RJ7, "fill", "([II)V"⟩
def RJ3 : String := "jdk/internal/util/Preconditions"
def TJ3 : u_T := fun k => match k with
  | _ => ("", "", "", false)
def tyJ3 : Nat → FieldType := fun k => match k with
  | _ => .int
theorem nmJ3 : ∀ a, a < 0 → ∀ b, b < 0 → a ≠ b → (TJ3 a).2.1 ≠ (TJ3 b).2.1 := by decide +kernel
theorem tyJ3_ok : ∀ k, k < 0 → parseFieldDescriptor (TJ3 k).2.2.1 = some (tyJ3 k) := by decide +kernel
abbrev cJ3_checkIndex_8e157 : ByteArray := prog_23_method_11_code
def yJ3_checkIndex_8e157 : MethodName := ⟨RJ3, "checkIndex", "(IILjava/util/function/BiFunction;)I"⟩
abbrev cJ3_checkFromToIndex_8c36e : ByteArray := prog_23_method_12_code
def yJ3_checkFromToIndex_8c36e : MethodName := ⟨RJ3, "checkFromToIndex", "(IIILjava/util/function/BiFunction;)I"⟩
def RL : String := "ButlerRemembersLaw"
abbrev cL_law : ByteArray := code
def yL_law : MethodName := ⟨RL, "law", "([I)Z"⟩
abbrev vwCl : List vw_C := [(RX0, TX0, 0), (RX1, TX1, 0), (RX2, TX2, 0), (RX3, TX3, 0), (RX4, TX4, 0), (RX5, TX5, 9), (RX6, TX6, 20), (RX7, TX7, 0), (RX8, TX8, 3), (RX9, TX9, 0), (RX10, TX10, 4), (RX11, TX11, 13), (RX12, TX12, 28)]
