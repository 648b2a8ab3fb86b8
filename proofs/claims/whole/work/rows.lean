section
/-- a private method of a class that the tables say can be made, by its rows of tables_1 -/
def lw_okq (q : MethodName × Nat) : Prop := (q.1.cls ≠ "java/lang/invoke/MethodHandle" ∧ q.1.cls ≠ "java/lang/invoke/VarHandle") ∧ Cond.instantiable q.1.cls q.2 ∈ tables_1 ∧ Cond.privateMethod q.1 ∈ tables_1 ∧ Cond.instanceMethod q.1 ∈ tables_1
theorem lw_p0 : lw_okq (⟨"SlackRows$Tree", "end", "()I"⟩, 5) := ⟨⟨by decide +kernel, by decide +kernel⟩, List.mem_of_getElem? (i := 56) (by decide +kernel), List.mem_of_getElem? (i := 191) (by decide +kernel), List.mem_of_getElem? (i := 192) (by decide +kernel)⟩
theorem lw_p1 : lw_okq (⟨"SlackRows$CommandText", "skipSpaces", "()Z"⟩, 5) := ⟨⟨by decide +kernel, by decide +kernel⟩, List.mem_of_getElem? (i := 30) (by decide +kernel), List.mem_of_getElem? (i := 215) (by decide +kernel), List.mem_of_getElem? (i := 216) (by decide +kernel)⟩
theorem lw_p2 : lw_okq (⟨"SlackRows$CommandText", "peek", "()I"⟩, 5) := ⟨⟨by decide +kernel, by decide +kernel⟩, List.mem_of_getElem? (i := 30) (by decide +kernel), List.mem_of_getElem? (i := 219) (by decide +kernel), List.mem_of_getElem? (i := 220) (by decide +kernel)⟩
theorem lw_p3 : lw_okq (⟨"SlackRows$CommandText", "readWord", "()LSlackRows$Command;"⟩, 5) := ⟨⟨by decide +kernel, by decide +kernel⟩, List.mem_of_getElem? (i := 30) (by decide +kernel), List.mem_of_getElem? (i := 223) (by decide +kernel), List.mem_of_getElem? (i := 224) (by decide +kernel)⟩
theorem lw_p4 : lw_okq (⟨"SlackRows$CommandText", "isAtLetter", "()Z"⟩, 5) := ⟨⟨by decide +kernel, by decide +kernel⟩, List.mem_of_getElem? (i := 30) (by decide +kernel), List.mem_of_getElem? (i := 227) (by decide +kernel), List.mem_of_getElem? (i := 228) (by decide +kernel)⟩
theorem lw_p5 : lw_okq (⟨"SlackRows$CommandText", "isWordAt", "(Ljava/lang/String;I)Z"⟩, 5) := ⟨⟨by decide +kernel, by decide +kernel⟩, List.mem_of_getElem? (i := 30) (by decide +kernel), List.mem_of_getElem? (i := 236) (by decide +kernel), List.mem_of_getElem? (i := 237) (by decide +kernel)⟩
theorem lw_p6 : lw_okq (⟨"SlackRows$CommandText", "readNumbers", "(I)Z"⟩, 5) := ⟨⟨by decide +kernel, by decide +kernel⟩, List.mem_of_getElem? (i := 30) (by decide +kernel), List.mem_of_getElem? (i := 288) (by decide +kernel), List.mem_of_getElem? (i := 289) (by decide +kernel)⟩
theorem lw_p7 : lw_okq (⟨"SlackRows$CommandText", "isAtDigit", "()Z"⟩, 5) := ⟨⟨by decide +kernel, by decide +kernel⟩, List.mem_of_getElem? (i := 30) (by decide +kernel), List.mem_of_getElem? (i := 292) (by decide +kernel), List.mem_of_getElem? (i := 293) (by decide +kernel)⟩
theorem lw_p8 : lw_okq (⟨"SlackRows$CommandText", "readDigits", "()I"⟩, 5) := ⟨⟨by decide +kernel, by decide +kernel⟩, List.mem_of_getElem? (i := 30) (by decide +kernel), List.mem_of_getElem? (i := 296) (by decide +kernel), List.mem_of_getElem? (i := 297) (by decide +kernel)⟩
theorem lw_p9 : lw_okq (⟨"SlackRows$CommandText", "readSemicolon", "()Z"⟩, 5) := ⟨⟨by decide +kernel, by decide +kernel⟩, List.mem_of_getElem? (i := 30) (by decide +kernel), List.mem_of_getElem? (i := 300) (by decide +kernel), List.mem_of_getElem? (i := 301) (by decide +kernel)⟩
theorem lw_p10 : lw_okq (⟨"SlackRows", "save", "()V"⟩, 4) := ⟨⟨by decide +kernel, by decide +kernel⟩, List.mem_of_getElem? (i := 22) (by decide +kernel), List.mem_of_getElem? (i := 304) (by decide +kernel), List.mem_of_getElem? (i := 305) (by decide +kernel)⟩
theorem lw_p11 : lw_okq (⟨"SlackRows", "runFaultless", "()I"⟩, 4) := ⟨⟨by decide +kernel, by decide +kernel⟩, List.mem_of_getElem? (i := 22) (by decide +kernel), List.mem_of_getElem? (i := 319) (by decide +kernel), List.mem_of_getElem? (i := 320) (by decide +kernel)⟩
theorem lw_p12 : lw_okq (⟨"SlackRows$Tree", "isPossible", "(LSlackRows$Command;LSlackRows$Node;I)Z"⟩, 5) := ⟨⟨by decide +kernel, by decide +kernel⟩, List.mem_of_getElem? (i := 56) (by decide +kernel), List.mem_of_getElem? (i := 355) (by decide +kernel), List.mem_of_getElem? (i := 356) (by decide +kernel)⟩
theorem lw_p13 : lw_okq (⟨"SlackRows$Tree", "lateness", "()I"⟩, 5) := ⟨⟨by decide +kernel, by decide +kernel⟩, List.mem_of_getElem? (i := 56) (by decide +kernel), List.mem_of_getElem? (i := 377) (by decide +kernel), List.mem_of_getElem? (i := 378) (by decide +kernel)⟩
theorem lw_p14 : lw_okq (⟨"SlackRows$Tree", "addNode", "(LSlackRows$Node;IZI)I"⟩, 5) := ⟨⟨by decide +kernel, by decide +kernel⟩, List.mem_of_getElem? (i := 56) (by decide +kernel), List.mem_of_getElem? (i := 382) (by decide +kernel), List.mem_of_getElem? (i := 383) (by decide +kernel)⟩
theorem lw_p15 : lw_okq (⟨"SlackRows$Tree", "findOrder", "()V"⟩, 5) := ⟨⟨by decide +kernel, by decide +kernel⟩, List.mem_of_getElem? (i := 56) (by decide +kernel), List.mem_of_getElem? (i := 390) (by decide +kernel), List.mem_of_getElem? (i := 391) (by decide +kernel)⟩
def lw_privs_1 : List (MethodName × Nat) := [(⟨"SlackRows$Tree", "end", "()I"⟩, 5), (⟨"SlackRows$CommandText", "skipSpaces", "()Z"⟩, 5), (⟨"SlackRows$CommandText", "peek", "()I"⟩, 5), (⟨"SlackRows$CommandText", "readWord", "()LSlackRows$Command;"⟩, 5), (⟨"SlackRows$CommandText", "isAtLetter", "()Z"⟩, 5), (⟨"SlackRows$CommandText", "isWordAt", "(Ljava/lang/String;I)Z"⟩, 5), (⟨"SlackRows$CommandText", "readNumbers", "(I)Z"⟩, 5), (⟨"SlackRows$CommandText", "isAtDigit", "()Z"⟩, 5), (⟨"SlackRows$CommandText", "readDigits", "()I"⟩, 5), (⟨"SlackRows$CommandText", "readSemicolon", "()Z"⟩, 5), (⟨"SlackRows", "save", "()V"⟩, 4), (⟨"SlackRows", "runFaultless", "()I"⟩, 4), (⟨"SlackRows$Tree", "isPossible", "(LSlackRows$Command;LSlackRows$Node;I)Z"⟩, 5), (⟨"SlackRows$Tree", "lateness", "()I"⟩, 5), (⟨"SlackRows$Tree", "addNode", "(LSlackRows$Node;IZI)I"⟩, 5), (⟨"SlackRows$Tree", "findOrder", "()V"⟩, 5)]
theorem lw_r1 : ∀ q ∈ lw_privs_1, lw_okq q := List.forall_mem_cons.mpr ⟨lw_p0, List.forall_mem_cons.mpr ⟨lw_p1, List.forall_mem_cons.mpr ⟨lw_p2, List.forall_mem_cons.mpr ⟨lw_p3, List.forall_mem_cons.mpr ⟨lw_p4, List.forall_mem_cons.mpr ⟨lw_p5, List.forall_mem_cons.mpr ⟨lw_p6, List.forall_mem_cons.mpr ⟨lw_p7, List.forall_mem_cons.mpr ⟨lw_p8, List.forall_mem_cons.mpr ⟨lw_p9, List.forall_mem_cons.mpr ⟨lw_p10, List.forall_mem_cons.mpr ⟨lw_p11, List.forall_mem_cons.mpr ⟨lw_p12, List.forall_mem_cons.mpr ⟨lw_p13, List.forall_mem_cons.mpr ⟨lw_p14, List.forall_mem_cons.mpr ⟨lw_p15, fun _ h => absurd h List.not_mem_nil⟩⟩⟩⟩⟩⟩⟩⟩⟩⟩⟩⟩⟩⟩⟩⟩
theorem lw_p16 : lw_okq (⟨"SlackRows$Tree", "findAhead", "(I)LSlackRows$Node;"⟩, 5) := ⟨⟨by decide +kernel, by decide +kernel⟩, List.mem_of_getElem? (i := 56) (by decide +kernel), List.mem_of_getElem? (i := 394) (by decide +kernel), List.mem_of_getElem? (i := 395) (by decide +kernel)⟩
theorem lw_p17 : lw_okq (⟨"SlackRows$Tree", "measureLengths", "()V"⟩, 5) := ⟨⟨by decide +kernel, by decide +kernel⟩, List.mem_of_getElem? (i := 56) (by decide +kernel), List.mem_of_getElem? (i := 398) (by decide +kernel), List.mem_of_getElem? (i := 399) (by decide +kernel)⟩
theorem lw_p18 : lw_okq (⟨"SlackRows$Tree", "tellTimes", "(LSlackRows$Node;)V"⟩, 5) := ⟨⟨by decide +kernel, by decide +kernel⟩, List.mem_of_getElem? (i := 56) (by decide +kernel), List.mem_of_getElem? (i := 407) (by decide +kernel), List.mem_of_getElem? (i := 408) (by decide +kernel)⟩
theorem lw_p19 : lw_okq (⟨"SlackRows$Tree", "putLast", "(LSlackRows$Node;II)I"⟩, 5) := ⟨⟨by decide +kernel, by decide +kernel⟩, List.mem_of_getElem? (i := 56) (by decide +kernel), List.mem_of_getElem? (i := 412) (by decide +kernel), List.mem_of_getElem? (i := 413) (by decide +kernel)⟩
theorem lw_p20 : lw_okq (⟨"SlackRows$Tree", "dropAll", "(LSlackRows$Node;)I"⟩, 5) := ⟨⟨by decide +kernel, by decide +kernel⟩, List.mem_of_getElem? (i := 56) (by decide +kernel), List.mem_of_getElem? (i := 416) (by decide +kernel), List.mem_of_getElem? (i := 417) (by decide +kernel)⟩
theorem lw_p21 : lw_okq (⟨"SlackRows$Tree", "changeDuration", "(LSlackRows$Node;I)I"⟩, 5) := ⟨⟨by decide +kernel, by decide +kernel⟩, List.mem_of_getElem? (i := 56) (by decide +kernel), List.mem_of_getElem? (i := 421) (by decide +kernel), List.mem_of_getElem? (i := 422) (by decide +kernel)⟩
theorem lw_p22 : lw_okq (⟨"SlackRows$Tree", "changeReserve", "(LSlackRows$Node;I)I"⟩, 5) := ⟨⟨by decide +kernel, by decide +kernel⟩, List.mem_of_getElem? (i := 56) (by decide +kernel), List.mem_of_getElem? (i := 426) (by decide +kernel), List.mem_of_getElem? (i := 427) (by decide +kernel)⟩
theorem lw_p23 : lw_okq (⟨"SlackRows", "wholeValue", "(I)I"⟩, 4) := ⟨⟨by decide +kernel, by decide +kernel⟩, List.mem_of_getElem? (i := 22) (by decide +kernel), List.mem_of_getElem? (i := 439) (by decide +kernel), List.mem_of_getElem? (i := 440) (by decide +kernel)⟩
theorem lw_p24 : lw_okq (⟨"SlackRows$Tree", "countTasks", "()I"⟩, 5) := ⟨⟨by decide +kernel, by decide +kernel⟩, List.mem_of_getElem? (i := 56) (by decide +kernel), List.mem_of_getElem? (i := 447) (by decide +kernel), List.mem_of_getElem? (i := 448) (by decide +kernel)⟩
theorem lw_p25 : lw_okq (⟨"SlackRows$Tree", "countCriticalTasks", "()I"⟩, 5) := ⟨⟨by decide +kernel, by decide +kernel⟩, List.mem_of_getElem? (i := 56) (by decide +kernel), List.mem_of_getElem? (i := 451) (by decide +kernel), List.mem_of_getElem? (i := 452) (by decide +kernel)⟩
theorem lw_p26 : lw_okq (⟨"SlackRows$Tree", "countCriticalRows", "()I"⟩, 5) := ⟨⟨by decide +kernel, by decide +kernel⟩, List.mem_of_getElem? (i := 56) (by decide +kernel), List.mem_of_getElem? (i := 463) (by decide +kernel), List.mem_of_getElem? (i := 464) (by decide +kernel)⟩
theorem lw_p27 : lw_okq (⟨"SlackRows$Tree", "isCriticalRow", "(LSlackRows$Node;I)Z"⟩, 5) := ⟨⟨by decide +kernel, by decide +kernel⟩, List.mem_of_getElem? (i := 56) (by decide +kernel), List.mem_of_getElem? (i := 467) (by decide +kernel), List.mem_of_getElem? (i := 468) (by decide +kernel)⟩
theorem lw_p28 : lw_okq (⟨"SlackRows$Tree", "countChildren", "(LSlackRows$Node;I)I"⟩, 5) := ⟨⟨by decide +kernel, by decide +kernel⟩, List.mem_of_getElem? (i := 56) (by decide +kernel), List.mem_of_getElem? (i := 472) (by decide +kernel), List.mem_of_getElem? (i := 473) (by decide +kernel)⟩
theorem lw_p29 : lw_okq (⟨"SlackRows$Tree", "sumOfDurations", "()I"⟩, 5) := ⟨⟨by decide +kernel, by decide +kernel⟩, List.mem_of_getElem? (i := 56) (by decide +kernel), List.mem_of_getElem? (i := 480) (by decide +kernel), List.mem_of_getElem? (i := 481) (by decide +kernel)⟩
theorem lw_p30 : lw_okq (⟨"SlackRows$Tree", "sumOfReserves", "()I"⟩, 5) := ⟨⟨by decide +kernel, by decide +kernel⟩, List.mem_of_getElem? (i := 56) (by decide +kernel), List.mem_of_getElem? (i := 484) (by decide +kernel), List.mem_of_getElem? (i := 485) (by decide +kernel)⟩
theorem lw_p31 : lw_okq (⟨"SlackRows$Tree", "mostRunning", "()I"⟩, 5) := ⟨⟨by decide +kernel, by decide +kernel⟩, List.mem_of_getElem? (i := 56) (by decide +kernel), List.mem_of_getElem? (i := 488) (by decide +kernel), List.mem_of_getElem? (i := 489) (by decide +kernel)⟩
def lw_privs_2 : List (MethodName × Nat) := [(⟨"SlackRows$Tree", "findAhead", "(I)LSlackRows$Node;"⟩, 5), (⟨"SlackRows$Tree", "measureLengths", "()V"⟩, 5), (⟨"SlackRows$Tree", "tellTimes", "(LSlackRows$Node;)V"⟩, 5), (⟨"SlackRows$Tree", "putLast", "(LSlackRows$Node;II)I"⟩, 5), (⟨"SlackRows$Tree", "dropAll", "(LSlackRows$Node;)I"⟩, 5), (⟨"SlackRows$Tree", "changeDuration", "(LSlackRows$Node;I)I"⟩, 5), (⟨"SlackRows$Tree", "changeReserve", "(LSlackRows$Node;I)I"⟩, 5), (⟨"SlackRows", "wholeValue", "(I)I"⟩, 4), (⟨"SlackRows$Tree", "countTasks", "()I"⟩, 5), (⟨"SlackRows$Tree", "countCriticalTasks", "()I"⟩, 5), (⟨"SlackRows$Tree", "countCriticalRows", "()I"⟩, 5), (⟨"SlackRows$Tree", "isCriticalRow", "(LSlackRows$Node;I)Z"⟩, 5), (⟨"SlackRows$Tree", "countChildren", "(LSlackRows$Node;I)I"⟩, 5), (⟨"SlackRows$Tree", "sumOfDurations", "()I"⟩, 5), (⟨"SlackRows$Tree", "sumOfReserves", "()I"⟩, 5), (⟨"SlackRows$Tree", "mostRunning", "()I"⟩, 5)]
theorem lw_r2 : ∀ q ∈ lw_privs_2, lw_okq q := List.forall_mem_cons.mpr ⟨lw_p16, List.forall_mem_cons.mpr ⟨lw_p17, List.forall_mem_cons.mpr ⟨lw_p18, List.forall_mem_cons.mpr ⟨lw_p19, List.forall_mem_cons.mpr ⟨lw_p20, List.forall_mem_cons.mpr ⟨lw_p21, List.forall_mem_cons.mpr ⟨lw_p22, List.forall_mem_cons.mpr ⟨lw_p23, List.forall_mem_cons.mpr ⟨lw_p24, List.forall_mem_cons.mpr ⟨lw_p25, List.forall_mem_cons.mpr ⟨lw_p26, List.forall_mem_cons.mpr ⟨lw_p27, List.forall_mem_cons.mpr ⟨lw_p28, List.forall_mem_cons.mpr ⟨lw_p29, List.forall_mem_cons.mpr ⟨lw_p30, List.forall_mem_cons.mpr ⟨lw_p31, fun _ h => absurd h List.not_mem_nil⟩⟩⟩⟩⟩⟩⟩⟩⟩⟩⟩⟩⟩⟩⟩⟩
theorem lw_p32 : lw_okq (⟨"SlackRows$Tree", "nextNumbered", "(I)LSlackRows$Node;"⟩, 5) := ⟨⟨by decide +kernel, by decide +kernel⟩, List.mem_of_getElem? (i := 56) (by decide +kernel), List.mem_of_getElem? (i := 504) (by decide +kernel), List.mem_of_getElem? (i := 505) (by decide +kernel)⟩
theorem lw_p33 : lw_okq (⟨"SlackRows$Tree", "mixNode", "(JLSlackRows$Node;)J"⟩, 5) := ⟨⟨by decide +kernel, by decide +kernel⟩, List.mem_of_getElem? (i := 56) (by decide +kernel), List.mem_of_getElem? (i := 508) (by decide +kernel), List.mem_of_getElem? (i := 509) (by decide +kernel)⟩
theorem lw_p34 : lw_okq (⟨"SlackRows$Tree", "nextCritical", "(LSlackRows$Node;)LSlackRows$Node;"⟩, 5) := ⟨⟨by decide +kernel, by decide +kernel⟩, List.mem_of_getElem? (i := 56) (by decide +kernel), List.mem_of_getElem? (i := 525) (by decide +kernel), List.mem_of_getElem? (i := 526) (by decide +kernel)⟩
theorem lw_p35 : lw_okq (⟨"SlackRows", "change", "(LSlackRows$Command;III)I"⟩, 4) := ⟨⟨by decide +kernel, by decide +kernel⟩, List.mem_of_getElem? (i := 22) (by decide +kernel), List.mem_of_getElem? (i := 544) (by decide +kernel), List.mem_of_getElem? (i := 545) (by decide +kernel)⟩
theorem lw_p36 : lw_okq (⟨"java/lang/Throwable", "fillInStackTrace", "(I)Ljava/lang/Throwable;"⟩, 6) := ⟨⟨by decide +kernel, by decide +kernel⟩, List.mem_of_getElem? (i := 590) (by decide +kernel), List.mem_of_getElem? (i := 588) (by decide +kernel), List.mem_of_getElem? (i := 589) (by decide +kernel)⟩
theorem lw_p37 : lw_okq (⟨"SlackRows", "existing", "(I)LSlackRows$Node;"⟩, 4) := ⟨⟨by decide +kernel, by decide +kernel⟩, List.mem_of_getElem? (i := 22) (by decide +kernel), List.mem_of_getElem? (i := 722) (by decide +kernel), List.mem_of_getElem? (i := 723) (by decide +kernel)⟩
theorem lw_p38 : lw_okq (⟨"SlackRowsModel", "whyNotAdd", "(III)I"⟩, 15) := ⟨⟨by decide +kernel, by decide +kernel⟩, List.mem_of_getElem? (i := 849) (by decide +kernel), List.mem_of_getElem? (i := 910) (by decide +kernel), List.mem_of_getElem? (i := 911) (by decide +kernel)⟩
theorem lw_p39 : lw_okq (⟨"SlackRowsModel", "find", "(I)I"⟩, 15) := ⟨⟨by decide +kernel, by decide +kernel⟩, List.mem_of_getElem? (i := 849) (by decide +kernel), List.mem_of_getElem? (i := 914) (by decide +kernel), List.mem_of_getElem? (i := 915) (by decide +kernel)⟩
theorem lw_p40 : lw_okq (⟨"SlackRowsModel", "of", "(II)I"⟩, 15) := ⟨⟨by decide +kernel, by decide +kernel⟩, List.mem_of_getElem? (i := 849) (by decide +kernel), List.mem_of_getElem? (i := 918) (by decide +kernel), List.mem_of_getElem? (i := 919) (by decide +kernel)⟩
theorem lw_p41 : lw_okq (⟨"SlackRowsModel", "isTask", "(I)Z"⟩, 15) := ⟨⟨by decide +kernel, by decide +kernel⟩, List.mem_of_getElem? (i := 849) (by decide +kernel), List.mem_of_getElem? (i := 925) (by decide +kernel), List.mem_of_getElem? (i := 926) (by decide +kernel)⟩
theorem lw_p42 : lw_okq (⟨"SlackRowsModel", "isRefused", "(I)Z"⟩, 15) := ⟨⟨by decide +kernel, by decide +kernel⟩, List.mem_of_getElem? (i := 849) (by decide +kernel), List.mem_of_getElem? (i := 929) (by decide +kernel), List.mem_of_getElem? (i := 930) (by decide +kernel)⟩
theorem lw_p43 : lw_okq (⟨"SlackRowsModel", "saves", "()V"⟩, 15) := ⟨⟨by decide +kernel, by decide +kernel⟩, List.mem_of_getElem? (i := 849) (by decide +kernel), List.mem_of_getElem? (i := 933) (by decide +kernel), List.mem_of_getElem? (i := 934) (by decide +kernel)⟩
theorem lw_p44 : lw_okq (⟨"SlackRowsModel", "copies", "(II)V"⟩, 15) := ⟨⟨by decide +kernel, by decide +kernel⟩, List.mem_of_getElem? (i := 849) (by decide +kernel), List.mem_of_getElem? (i := 937) (by decide +kernel), List.mem_of_getElem? (i := 938) (by decide +kernel)⟩
theorem lw_p45 : lw_okq (⟨"SlackRowsModel", "adds", "(IIII)I"⟩, 15) := ⟨⟨by decide +kernel, by decide +kernel⟩, List.mem_of_getElem? (i := 849) (by decide +kernel), List.mem_of_getElem? (i := 941) (by decide +kernel), List.mem_of_getElem? (i := 942) (by decide +kernel)⟩
theorem lw_p46 : lw_okq (⟨"SlackRowsModel", "childrenOf", "(II)I"⟩, 15) := ⟨⟨by decide +kernel, by decide +kernel⟩, List.mem_of_getElem? (i := 849) (by decide +kernel), List.mem_of_getElem? (i := 945) (by decide +kernel), List.mem_of_getElem? (i := 946) (by decide +kernel)⟩
theorem lw_p47 : lw_okq (⟨"SlackRowsModel", "isIn", "(III)Z"⟩, 15) := ⟨⟨by decide +kernel, by decide +kernel⟩, List.mem_of_getElem? (i := 849) (by decide +kernel), List.mem_of_getElem? (i := 949) (by decide +kernel), List.mem_of_getElem? (i := 950) (by decide +kernel)⟩
def lw_privs_3 : List (MethodName × Nat) := [(⟨"SlackRows$Tree", "nextNumbered", "(I)LSlackRows$Node;"⟩, 5), (⟨"SlackRows$Tree", "mixNode", "(JLSlackRows$Node;)J"⟩, 5), (⟨"SlackRows$Tree", "nextCritical", "(LSlackRows$Node;)LSlackRows$Node;"⟩, 5), (⟨"SlackRows", "change", "(LSlackRows$Command;III)I"⟩, 4), (⟨"java/lang/Throwable", "fillInStackTrace", "(I)Ljava/lang/Throwable;"⟩, 6), (⟨"SlackRows", "existing", "(I)LSlackRows$Node;"⟩, 4), (⟨"SlackRowsModel", "whyNotAdd", "(III)I"⟩, 15), (⟨"SlackRowsModel", "find", "(I)I"⟩, 15), (⟨"SlackRowsModel", "of", "(II)I"⟩, 15), (⟨"SlackRowsModel", "isTask", "(I)Z"⟩, 15), (⟨"SlackRowsModel", "isRefused", "(I)Z"⟩, 15), (⟨"SlackRowsModel", "saves", "()V"⟩, 15), (⟨"SlackRowsModel", "copies", "(II)V"⟩, 15), (⟨"SlackRowsModel", "adds", "(IIII)I"⟩, 15), (⟨"SlackRowsModel", "childrenOf", "(II)I"⟩, 15), (⟨"SlackRowsModel", "isIn", "(III)Z"⟩, 15)]
theorem lw_r3 : ∀ q ∈ lw_privs_3, lw_okq q := List.forall_mem_cons.mpr ⟨lw_p32, List.forall_mem_cons.mpr ⟨lw_p33, List.forall_mem_cons.mpr ⟨lw_p34, List.forall_mem_cons.mpr ⟨lw_p35, List.forall_mem_cons.mpr ⟨lw_p36, List.forall_mem_cons.mpr ⟨lw_p37, List.forall_mem_cons.mpr ⟨lw_p38, List.forall_mem_cons.mpr ⟨lw_p39, List.forall_mem_cons.mpr ⟨lw_p40, List.forall_mem_cons.mpr ⟨lw_p41, List.forall_mem_cons.mpr ⟨lw_p42, List.forall_mem_cons.mpr ⟨lw_p43, List.forall_mem_cons.mpr ⟨lw_p44, List.forall_mem_cons.mpr ⟨lw_p45, List.forall_mem_cons.mpr ⟨lw_p46, List.forall_mem_cons.mpr ⟨lw_p47, fun _ h => absurd h List.not_mem_nil⟩⟩⟩⟩⟩⟩⟩⟩⟩⟩⟩⟩⟩⟩⟩⟩
theorem lw_p48 : lw_okq (⟨"SlackRowsModel", "set", "(III)V"⟩, 15) := ⟨⟨by decide +kernel, by decide +kernel⟩, List.mem_of_getElem? (i := 849) (by decide +kernel), List.mem_of_getElem? (i := 953) (by decide +kernel), List.mem_of_getElem? (i := 954) (by decide +kernel)⟩
theorem lw_p49 : lw_okq (⟨"SlackRowsModel", "whyNotMove", "(III)I"⟩, 15) := ⟨⟨by decide +kernel, by decide +kernel⟩, List.mem_of_getElem? (i := 849) (by decide +kernel), List.mem_of_getElem? (i := 965) (by decide +kernel), List.mem_of_getElem? (i := 966) (by decide +kernel)⟩
theorem lw_p50 : lw_okq (⟨"SlackRowsModel", "reasonOf", "(II)I"⟩, 15) := ⟨⟨by decide +kernel, by decide +kernel⟩, List.mem_of_getElem? (i := 849) (by decide +kernel), List.mem_of_getElem? (i := 969) (by decide +kernel), List.mem_of_getElem? (i := 970) (by decide +kernel)⟩
theorem lw_p51 : lw_okq (⟨"SlackRowsModel", "isBelow", "(II)Z"⟩, 15) := ⟨⟨by decide +kernel, by decide +kernel⟩, List.mem_of_getElem? (i := 849) (by decide +kernel), List.mem_of_getElem? (i := 973) (by decide +kernel), List.mem_of_getElem? (i := 974) (by decide +kernel)⟩
theorem lw_p52 : lw_okq (⟨"SlackRowsModel", "moves", "(III)I"⟩, 15) := ⟨⟨by decide +kernel, by decide +kernel⟩, List.mem_of_getElem? (i := 849) (by decide +kernel), List.mem_of_getElem? (i := 977) (by decide +kernel), List.mem_of_getElem? (i := 978) (by decide +kernel)⟩
theorem lw_p53 : lw_okq (⟨"SlackRowsModel", "leaves", "(I)V"⟩, 15) := ⟨⟨by decide +kernel, by decide +kernel⟩, List.mem_of_getElem? (i := 849) (by decide +kernel), List.mem_of_getElem? (i := 981) (by decide +kernel), List.mem_of_getElem? (i := 982) (by decide +kernel)⟩
theorem lw_p54 : lw_okq (⟨"SlackRowsModel", "whyNotRemove", "(I)I"⟩, 15) := ⟨⟨by decide +kernel, by decide +kernel⟩, List.mem_of_getElem? (i := 849) (by decide +kernel), List.mem_of_getElem? (i := 989) (by decide +kernel), List.mem_of_getElem? (i := 990) (by decide +kernel)⟩
theorem lw_p55 : lw_okq (⟨"SlackRowsModel", "isBarred", "(I)Z"⟩, 15) := ⟨⟨by decide +kernel, by decide +kernel⟩, List.mem_of_getElem? (i := 849) (by decide +kernel), List.mem_of_getElem? (i := 993) (by decide +kernel), List.mem_of_getElem? (i := 994) (by decide +kernel)⟩
theorem lw_p56 : lw_okq (⟨"SlackRowsModel", "removes", "(I)I"⟩, 15) := ⟨⟨by decide +kernel, by decide +kernel⟩, List.mem_of_getElem? (i := 849) (by decide +kernel), List.mem_of_getElem? (i := 997) (by decide +kernel), List.mem_of_getElem? (i := 998) (by decide +kernel)⟩
theorem lw_p57 : lw_okq (⟨"SlackRowsModel", "whyNotTask", "(IZ)I"⟩, 15) := ⟨⟨by decide +kernel, by decide +kernel⟩, List.mem_of_getElem? (i := 849) (by decide +kernel), List.mem_of_getElem? (i := 1005) (by decide +kernel), List.mem_of_getElem? (i := 1006) (by decide +kernel)⟩
theorem lw_p58 : lw_okq (⟨"SlackRowsModel", "lasts", "(II)V"⟩, 15) := ⟨⟨by decide +kernel, by decide +kernel⟩, List.mem_of_getElem? (i := 849) (by decide +kernel), List.mem_of_getElem? (i := 1009) (by decide +kernel), List.mem_of_getElem? (i := 1010) (by decide +kernel)⟩
theorem lw_p59 : lw_okq (⟨"SlackRowsModel", "end", "()I"⟩, 15) := ⟨⟨by decide +kernel, by decide +kernel⟩, List.mem_of_getElem? (i := 849) (by decide +kernel), List.mem_of_getElem? (i := 1013) (by decide +kernel), List.mem_of_getElem? (i := 1014) (by decide +kernel)⟩
theorem lw_p60 : lw_okq (⟨"SlackRowsModel", "lay", "()V"⟩, 15) := ⟨⟨by decide +kernel, by decide +kernel⟩, List.mem_of_getElem? (i := 849) (by decide +kernel), List.mem_of_getElem? (i := 1017) (by decide +kernel), List.mem_of_getElem? (i := 1018) (by decide +kernel)⟩
theorem lw_p61 : lw_okq (⟨"SlackRowsModel", "layOrder", "()V"⟩, 15) := ⟨⟨by decide +kernel, by decide +kernel⟩, List.mem_of_getElem? (i := 849) (by decide +kernel), List.mem_of_getElem? (i := 1021) (by decide +kernel), List.mem_of_getElem? (i := 1022) (by decide +kernel)⟩
theorem lw_p62 : lw_okq (⟨"SlackRowsModel", "lengthOf", "(I)I"⟩, 15) := ⟨⟨by decide +kernel, by decide +kernel⟩, List.mem_of_getElem? (i := 849) (by decide +kernel), List.mem_of_getElem? (i := 1025) (by decide +kernel), List.mem_of_getElem? (i := 1026) (by decide +kernel)⟩
theorem lw_p63 : lw_okq (⟨"SlackRowsModel", "rowLength", "(II)I"⟩, 15) := ⟨⟨by decide +kernel, by decide +kernel⟩, List.mem_of_getElem? (i := 849) (by decide +kernel), List.mem_of_getElem? (i := 1029) (by decide +kernel), List.mem_of_getElem? (i := 1030) (by decide +kernel)⟩
def lw_privs_4 : List (MethodName × Nat) := [(⟨"SlackRowsModel", "set", "(III)V"⟩, 15), (⟨"SlackRowsModel", "whyNotMove", "(III)I"⟩, 15), (⟨"SlackRowsModel", "reasonOf", "(II)I"⟩, 15), (⟨"SlackRowsModel", "isBelow", "(II)Z"⟩, 15), (⟨"SlackRowsModel", "moves", "(III)I"⟩, 15), (⟨"SlackRowsModel", "leaves", "(I)V"⟩, 15), (⟨"SlackRowsModel", "whyNotRemove", "(I)I"⟩, 15), (⟨"SlackRowsModel", "isBarred", "(I)Z"⟩, 15), (⟨"SlackRowsModel", "removes", "(I)I"⟩, 15), (⟨"SlackRowsModel", "whyNotTask", "(IZ)I"⟩, 15), (⟨"SlackRowsModel", "lasts", "(II)V"⟩, 15), (⟨"SlackRowsModel", "end", "()I"⟩, 15), (⟨"SlackRowsModel", "lay", "()V"⟩, 15), (⟨"SlackRowsModel", "layOrder", "()V"⟩, 15), (⟨"SlackRowsModel", "lengthOf", "(I)I"⟩, 15), (⟨"SlackRowsModel", "rowLength", "(II)I"⟩, 15)]
theorem lw_r4 : ∀ q ∈ lw_privs_4, lw_okq q := List.forall_mem_cons.mpr ⟨lw_p48, List.forall_mem_cons.mpr ⟨lw_p49, List.forall_mem_cons.mpr ⟨lw_p50, List.forall_mem_cons.mpr ⟨lw_p51, List.forall_mem_cons.mpr ⟨lw_p52, List.forall_mem_cons.mpr ⟨lw_p53, List.forall_mem_cons.mpr ⟨lw_p54, List.forall_mem_cons.mpr ⟨lw_p55, List.forall_mem_cons.mpr ⟨lw_p56, List.forall_mem_cons.mpr ⟨lw_p57, List.forall_mem_cons.mpr ⟨lw_p58, List.forall_mem_cons.mpr ⟨lw_p59, List.forall_mem_cons.mpr ⟨lw_p60, List.forall_mem_cons.mpr ⟨lw_p61, List.forall_mem_cons.mpr ⟨lw_p62, List.forall_mem_cons.mpr ⟨lw_p63, fun _ h => absurd h List.not_mem_nil⟩⟩⟩⟩⟩⟩⟩⟩⟩⟩⟩⟩⟩⟩⟩⟩
theorem lw_p64 : lw_okq (⟨"SlackRowsModel", "layTimes", "(I)V"⟩, 15) := ⟨⟨by decide +kernel, by decide +kernel⟩, List.mem_of_getElem? (i := 849) (by decide +kernel), List.mem_of_getElem? (i := 1033) (by decide +kernel), List.mem_of_getElem? (i := 1034) (by decide +kernel)⟩
theorem lw_p65 : lw_okq (⟨"SlackRowsModel", "rowSlack", "(II)I"⟩, 15) := ⟨⟨by decide +kernel, by decide +kernel⟩, List.mem_of_getElem? (i := 849) (by decide +kernel), List.mem_of_getElem? (i := 1037) (by decide +kernel), List.mem_of_getElem? (i := 1038) (by decide +kernel)⟩
theorem lw_p66 : lw_okq (⟨"SlackRowsModel", "whyNotBorrow", "(II)I"⟩, 15) := ⟨⟨by decide +kernel, by decide +kernel⟩, List.mem_of_getElem? (i := 849) (by decide +kernel), List.mem_of_getElem? (i := 1045) (by decide +kernel), List.mem_of_getElem? (i := 1046) (by decide +kernel)⟩
theorem lw_p67 : lw_okq (⟨"SlackRowsModel", "slackOf", "(I)I"⟩, 15) := ⟨⟨by decide +kernel, by decide +kernel⟩, List.mem_of_getElem? (i := 849) (by decide +kernel), List.mem_of_getElem? (i := 1049) (by decide +kernel), List.mem_of_getElem? (i := 1050) (by decide +kernel)⟩
theorem lw_p68 : lw_okq (⟨"SlackRowsModel", "reserves", "(II)I"⟩, 15) := ⟨⟨by decide +kernel, by decide +kernel⟩, List.mem_of_getElem? (i := 849) (by decide +kernel), List.mem_of_getElem? (i := 1053) (by decide +kernel), List.mem_of_getElem? (i := 1054) (by decide +kernel)⟩
theorem lw_p69 : lw_okq (⟨"SlackRowsModel", "whyNotBack", "(II)I"⟩, 15) := ⟨⟨by decide +kernel, by decide +kernel⟩, List.mem_of_getElem? (i := 849) (by decide +kernel), List.mem_of_getElem? (i := 1061) (by decide +kernel), List.mem_of_getElem? (i := 1062) (by decide +kernel)⟩
theorem lw_p70 : lw_okq (⟨"SlackRowsModel", "lateness", "()I"⟩, 15) := ⟨⟨by decide +kernel, by decide +kernel⟩, List.mem_of_getElem? (i := 849) (by decide +kernel), List.mem_of_getElem? (i := 1072) (by decide +kernel), List.mem_of_getElem? (i := 1073) (by decide +kernel)⟩
theorem lw_p71 : lw_okq (⟨"SlackRowsModel", "nodeValue", "(II)I"⟩, 15) := ⟨⟨by decide +kernel, by decide +kernel⟩, List.mem_of_getElem? (i := 849) (by decide +kernel), List.mem_of_getElem? (i := 1080) (by decide +kernel), List.mem_of_getElem? (i := 1081) (by decide +kernel)⟩
theorem lw_p72 : lw_okq (⟨"SlackRowsModel", "whyNotRow", "(IZ)I"⟩, 15) := ⟨⟨by decide +kernel, by decide +kernel⟩, List.mem_of_getElem? (i := 849) (by decide +kernel), List.mem_of_getElem? (i := 1088) (by decide +kernel), List.mem_of_getElem? (i := 1089) (by decide +kernel)⟩
theorem lw_p73 : lw_okq (⟨"SlackRowsModel", "rowValue", "(III)I"⟩, 15) := ⟨⟨by decide +kernel, by decide +kernel⟩, List.mem_of_getElem? (i := 849) (by decide +kernel), List.mem_of_getElem? (i := 1092) (by decide +kernel), List.mem_of_getElem? (i := 1093) (by decide +kernel)⟩
theorem lw_p74 : lw_okq (⟨"SlackRowsModel", "isCriticalRow", "(II)Z"⟩, 15) := ⟨⟨by decide +kernel, by decide +kernel⟩, List.mem_of_getElem? (i := 849) (by decide +kernel), List.mem_of_getElem? (i := 1096) (by decide +kernel), List.mem_of_getElem? (i := 1097) (by decide +kernel)⟩
theorem lw_p75 : lw_okq (⟨"SlackRowsModel", "layCritical", "()I"⟩, 15) := ⟨⟨by decide +kernel, by decide +kernel⟩, List.mem_of_getElem? (i := 849) (by decide +kernel), List.mem_of_getElem? (i := 1108) (by decide +kernel), List.mem_of_getElem? (i := 1109) (by decide +kernel)⟩
theorem lw_p76 : lw_okq (⟨"SlackRowsModel", "runningAt", "(I)I"⟩, 15) := ⟨⟨by decide +kernel, by decide +kernel⟩, List.mem_of_getElem? (i := 849) (by decide +kernel), List.mem_of_getElem? (i := 1116) (by decide +kernel), List.mem_of_getElem? (i := 1117) (by decide +kernel)⟩
theorem lw_p77 : lw_okq (⟨"SlackRowsModel", "wholeValue", "(I)I"⟩, 15) := ⟨⟨by decide +kernel, by decide +kernel⟩, List.mem_of_getElem? (i := 849) (by decide +kernel), List.mem_of_getElem? (i := 1124) (by decide +kernel), List.mem_of_getElem? (i := 1125) (by decide +kernel)⟩
theorem lw_p78 : lw_okq (⟨"SlackRowsModel", "endBy", "(II)I"⟩, 15) := ⟨⟨by decide +kernel, by decide +kernel⟩, List.mem_of_getElem? (i := 849) (by decide +kernel), List.mem_of_getElem? (i := 1132) (by decide +kernel), List.mem_of_getElem? (i := 1133) (by decide +kernel)⟩
theorem lw_p79 : lw_okq (⟨"SlackRowsModel", "putAside", "()V"⟩, 15) := ⟨⟨by decide +kernel, by decide +kernel⟩, List.mem_of_getElem? (i := 849) (by decide +kernel), List.mem_of_getElem? (i := 1136) (by decide +kernel), List.mem_of_getElem? (i := 1137) (by decide +kernel)⟩
def lw_privs_5 : List (MethodName × Nat) := [(⟨"SlackRowsModel", "layTimes", "(I)V"⟩, 15), (⟨"SlackRowsModel", "rowSlack", "(II)I"⟩, 15), (⟨"SlackRowsModel", "whyNotBorrow", "(II)I"⟩, 15), (⟨"SlackRowsModel", "slackOf", "(I)I"⟩, 15), (⟨"SlackRowsModel", "reserves", "(II)I"⟩, 15), (⟨"SlackRowsModel", "whyNotBack", "(II)I"⟩, 15), (⟨"SlackRowsModel", "lateness", "()I"⟩, 15), (⟨"SlackRowsModel", "nodeValue", "(II)I"⟩, 15), (⟨"SlackRowsModel", "whyNotRow", "(IZ)I"⟩, 15), (⟨"SlackRowsModel", "rowValue", "(III)I"⟩, 15), (⟨"SlackRowsModel", "isCriticalRow", "(II)Z"⟩, 15), (⟨"SlackRowsModel", "layCritical", "()I"⟩, 15), (⟨"SlackRowsModel", "runningAt", "(I)I"⟩, 15), (⟨"SlackRowsModel", "wholeValue", "(I)I"⟩, 15), (⟨"SlackRowsModel", "endBy", "(II)I"⟩, 15), (⟨"SlackRowsModel", "putAside", "()V"⟩, 15)]
theorem lw_r5 : ∀ q ∈ lw_privs_5, lw_okq q := List.forall_mem_cons.mpr ⟨lw_p64, List.forall_mem_cons.mpr ⟨lw_p65, List.forall_mem_cons.mpr ⟨lw_p66, List.forall_mem_cons.mpr ⟨lw_p67, List.forall_mem_cons.mpr ⟨lw_p68, List.forall_mem_cons.mpr ⟨lw_p69, List.forall_mem_cons.mpr ⟨lw_p70, List.forall_mem_cons.mpr ⟨lw_p71, List.forall_mem_cons.mpr ⟨lw_p72, List.forall_mem_cons.mpr ⟨lw_p73, List.forall_mem_cons.mpr ⟨lw_p74, List.forall_mem_cons.mpr ⟨lw_p75, List.forall_mem_cons.mpr ⟨lw_p76, List.forall_mem_cons.mpr ⟨lw_p77, List.forall_mem_cons.mpr ⟨lw_p78, List.forall_mem_cons.mpr ⟨lw_p79, fun _ h => absurd h List.not_mem_nil⟩⟩⟩⟩⟩⟩⟩⟩⟩⟩⟩⟩⟩⟩⟩⟩
theorem lw_p80 : lw_okq (⟨"SlackRowsModel", "comesBack", "()V"⟩, 15) := ⟨⟨by decide +kernel, by decide +kernel⟩, List.mem_of_getElem? (i := 849) (by decide +kernel), List.mem_of_getElem? (i := 1140) (by decide +kernel), List.mem_of_getElem? (i := 1141) (by decide +kernel)⟩
theorem lw_p81 : lw_okq (⟨"SlackRowsModel", "cutTask", "()I"⟩, 15) := ⟨⟨by decide +kernel, by decide +kernel⟩, List.mem_of_getElem? (i := 849) (by decide +kernel), List.mem_of_getElem? (i := 1152) (by decide +kernel), List.mem_of_getElem? (i := 1153) (by decide +kernel)⟩
theorem lw_p82 : lw_okq (⟨"SlackRowsModel", "fault", "()I"⟩, 15) := ⟨⟨by decide +kernel, by decide +kernel⟩, List.mem_of_getElem? (i := 849) (by decide +kernel), List.mem_of_getElem? (i := 1176) (by decide +kernel), List.mem_of_getElem? (i := 1177) (by decide +kernel)⟩
theorem lw_p83 : lw_okq (⟨"SlackRowsModel", "passSpaces", "()V"⟩, 15) := ⟨⟨by decide +kernel, by decide +kernel⟩, List.mem_of_getElem? (i := 849) (by decide +kernel), List.mem_of_getElem? (i := 1180) (by decide +kernel), List.mem_of_getElem? (i := 1181) (by decide +kernel)⟩
theorem lw_p84 : lw_okq (⟨"SlackRowsModel", "here", "()I"⟩, 15) := ⟨⟨by decide +kernel, by decide +kernel⟩, List.mem_of_getElem? (i := 849) (by decide +kernel), List.mem_of_getElem? (i := 1184) (by decide +kernel), List.mem_of_getElem? (i := 1185) (by decide +kernel)⟩
theorem lw_p85 : lw_okq (⟨"SlackRowsModel", "command", "()I"⟩, 15) := ⟨⟨by decide +kernel, by decide +kernel⟩, List.mem_of_getElem? (i := 849) (by decide +kernel), List.mem_of_getElem? (i := 1188) (by decide +kernel), List.mem_of_getElem? (i := 1189) (by decide +kernel)⟩
theorem lw_p86 : lw_okq (⟨"SlackRowsModel", "word", "()I"⟩, 15) := ⟨⟨by decide +kernel, by decide +kernel⟩, List.mem_of_getElem? (i := 849) (by decide +kernel), List.mem_of_getElem? (i := 1192) (by decide +kernel), List.mem_of_getElem? (i := 1193) (by decide +kernel)⟩
theorem lw_p87 : lw_okq (⟨"SlackRowsModel", "isNumber", "()Z"⟩, 15) := ⟨⟨by decide +kernel, by decide +kernel⟩, List.mem_of_getElem? (i := 849) (by decide +kernel), List.mem_of_getElem? (i := 1210) (by decide +kernel), List.mem_of_getElem? (i := 1211) (by decide +kernel)⟩
theorem lw_p88 : lw_okq (⟨"SlackRowsModel", "does", "(I)Z"⟩, 15) := ⟨⟨by decide +kernel, by decide +kernel⟩, List.mem_of_getElem? (i := 849) (by decide +kernel), List.mem_of_getElem? (i := 1214) (by decide +kernel), List.mem_of_getElem? (i := 1215) (by decide +kernel)⟩
theorem lw_p89 : lw_okq (⟨"SlackRowsModel", "changes", "(IIII)V"⟩, 15) := ⟨⟨by decide +kernel, by decide +kernel⟩, List.mem_of_getElem? (i := 849) (by decide +kernel), List.mem_of_getElem? (i := 1218) (by decide +kernel), List.mem_of_getElem? (i := 1219) (by decide +kernel)⟩
def lw_privs_6 : List (MethodName × Nat) := [(⟨"SlackRowsModel", "comesBack", "()V"⟩, 15), (⟨"SlackRowsModel", "cutTask", "()I"⟩, 15), (⟨"SlackRowsModel", "fault", "()I"⟩, 15), (⟨"SlackRowsModel", "passSpaces", "()V"⟩, 15), (⟨"SlackRowsModel", "here", "()I"⟩, 15), (⟨"SlackRowsModel", "command", "()I"⟩, 15), (⟨"SlackRowsModel", "word", "()I"⟩, 15), (⟨"SlackRowsModel", "isNumber", "()Z"⟩, 15), (⟨"SlackRowsModel", "does", "(I)Z"⟩, 15), (⟨"SlackRowsModel", "changes", "(IIII)V"⟩, 15)]
theorem lw_r6 : ∀ q ∈ lw_privs_6, lw_okq q := List.forall_mem_cons.mpr ⟨lw_p80, List.forall_mem_cons.mpr ⟨lw_p81, List.forall_mem_cons.mpr ⟨lw_p82, List.forall_mem_cons.mpr ⟨lw_p83, List.forall_mem_cons.mpr ⟨lw_p84, List.forall_mem_cons.mpr ⟨lw_p85, List.forall_mem_cons.mpr ⟨lw_p86, List.forall_mem_cons.mpr ⟨lw_p87, List.forall_mem_cons.mpr ⟨lw_p88, List.forall_mem_cons.mpr ⟨lw_p89, fun _ h => absurd h List.not_mem_nil⟩⟩⟩⟩⟩⟩⟩⟩⟩⟩
def lw_privs : List (MethodName × Nat) := lw_privs_1 ++ (lw_privs_2 ++ (lw_privs_3 ++ (lw_privs_4 ++ (lw_privs_5 ++ (lw_privs_6)))))
def lw_tbl : List Cond := k2_sels lw_privs ++ tables_1
theorem lw_privs_ok : ∀ q ∈ lw_privs, lw_okq q := by
  show ∀ q ∈ lw_privs_1 ++ (lw_privs_2 ++ (lw_privs_3 ++ (lw_privs_4 ++ (lw_privs_5 ++ (lw_privs_6))))), lw_okq q
  exact List.forall_mem_append.mpr ⟨lw_r1, List.forall_mem_append.mpr ⟨lw_r2, List.forall_mem_append.mpr ⟨lw_r3, List.forall_mem_append.mpr ⟨lw_r4, List.forall_mem_append.mpr ⟨lw_r5, lw_r6⟩⟩⟩⟩⟩

/-! ===== BEGIN exceptions that leave a method, and their catching by the caller (launches without stack traces) ===== -/
section VXA
/-! The laws vx_back, vx_callV, vx_callS, vx_callSW, vx_throw0, vx_throwS follow proofs of the library, with one case more: JvmDerived/Free/Laws.lean (Back.of_free), Shelf42/LK1.lean (callV, callS), Shelf/KitTraced.lean (throwNew0V, throwNewS). -/
/-- where a method has thrown q: the class by its name, the cell, what was written, the world -/
def vx_T (XC : String → State → State → Prop) (st : State) (q : Addr) (t : State) (mc ms : Nat) (free : Addr → Prop) : Prop :=
  ∃ (E : String) (ce : Cell) (L : List Loc), XC E st t ∧ t.heap[q]? = some ce ∧ ce.vm = .none ∧ st.vm.findClass E = some ce.cls ∧ st.WarmedH t.vm ∧ st.sameButNew ({ t with vm := st.vm } : State) L mc ms ∧ ∀ z ∈ L, free z.base
def vx_Q (Qc : Array Value → State → Outcome → State → Prop) (XC : String → State → State → Prop) (mc ms : Nat) (free : Addr → Prop) : Array Value → State → Outcome → State → Prop := fun a st o t =>
  (Qc a st o t ∧ ∃ L, FrameEnd st o t L mc ms ∧ ∀ q ∈ L, free q.base) ∨ ∃ q, o = .threw q ∧ vx_T XC st q t mc ms free
/-- a callee that returns or throws -/
def vx_Met (l : Launch) (y : MethodName) (ws : List Cond) (rm : Room) (Pc : Array Value → State → Prop) (Qc : Array Value → State → Outcome → State → Prop) (XC : String → State → State → Prop) (mc ms : Nat) (free : Addr → Prop) : Prop :=
  MetFree l y (headSpec ws rm) Pc (fun _ _ _ _ _ => True) (vx_Q Qc XC mc ms free)
def vx_Post (XC : String → State → State → Prop) (mc ms : Nat) (free : Addr → Prop) : Pt → Array Value → Addr → Pt → Prop := fun A a q B =>
  ∃ (g : JFrame) (mk : MethodId) (t : State) (L : List Loc) (E : String) (ce : Cell), B.U.heap = t.heap ∧ B.U.vm = t.vm ∧ XC E (A.U.calling g mk a) t ∧ t.heap[q]? = some ce ∧ ce.vm = .none ∧ A.U.vm.findClass E = some ce.cls ∧ B.locs = A.locs ++ L ∧ (∀ z ∈ L, free z.base) ∧ B.cells = A.cells + mc ∧ B.slots = A.slots + ms
def vx_Back (l : Launch) (R : Room) (p : Program) (e : Env) (below : List Frame) (s : State) (sargs : Array Value) (y : MethodName) (len W9 : Nat)
    (Pre : Pt → Array Value → Prop) (Post : Pt → Array Value → Option Value → Pt → Prop) (PostX : Pt → Array Value → Addr → Pt → Prop) : Prop :=
  ∀ (m : MethodId) (meth : Method) (c : Code) (A : Pt) (g : JFrame) (ig : Instr) (mk : MethodId) (a : Array Value),
    Stand p l e R s m sargs below meth c A.U A.locs A.cells A.slots → g.method = m → g.locals.size = c.maxLocals → decode c.code g.pc = .ok (ig, len) →
    2 * g.monitorRoom + (g.stack.map fun v => v.category).sum ≤ W9 → A.U.methodNamed? y = some mk → Pre A a →
    (∃ (v : Option Value) (B : Pt), Stand p l e R s m sargs below meth c B.U B.locs B.cells B.slots ∧ Post A a v B ∧
      Steps p.tables e below (doInvoke e (A.U.setTop g) [] mk a).1 (B.U.setTop { g with pc := g.pc + len, stack := v.toList ++ g.stack })) ∨
    (∃ (q : Addr) (B : Pt), Stand p l e R s m sargs below meth c B.U B.locs B.cells B.slots ∧ PostX A a q B ∧
      Steps p.tables e below (doInvoke e (A.U.setTop g) [] mk a).1 ((B.U.setTop g).pushFrame (.throwing q)))
section Payer
variable {l : Launch} {R : Room} {p : Program} {e : Env} {below : List Frame} {s : State} {sargs : Array Value} {y : MethodName} {len W9 : Nat}
theorem vx_back {ws : List Cond} {rm : Room} {Pc : Array Value → State → Prop} {Qc : Array Value → State → Outcome → State → Prop} {XC : String → State → State → Prop} {mc ms : Nat} {free : Addr → Prop} {bytes : ByteArray} {maxL : Nat} {ret : Option FieldType}
    (hM : vx_Met l y ws rm Pc Qc XC mc ms free) (hblind : FrameBlind Pc) (hrc : rm.cells = mc) (hrs : rm.slots = ms)
    (hframes : rm.frames + 1 ≤ R.frames) (hlocals : W9 + (maxL + 11) + rm.locals ≤ R.locals)
    (hws : ∀ w ∈ ws, ∀ a' U, s.WarmedH U.vm → w.before a' U = true) (hcode : Cond.code y bytes maxL ret ∈ ws) (hinit : ∀ a' U, s.WarmedH U.vm → (Cond.initialized y.cls).before a' U = true) :
    vx_Back l R p e below s sargs y len W9 (PreOf R mc ms Pc) (PostOf Qc mc ms free) (vx_Post XC mc ms free) := by
  intro m meth c A g ig mk a X hg hsize hdg hW hn hp
  have h1 : (headSpec ws rm).pre.before a A.U = true := atoms_intro fun w hw => hws w hw _ _ X.warmed
  have h2 : (Cond.code y bytes maxL ret).before a A.U = true := hws _ hcode _ _ X.warmed
  have h3 : (Cond.initialized y.cls).before a A.U = true := hinit _ _ X.warmed
  have h4 : A.cells + (headSpec ws rm).room.cells ≤ R.cells := by rw [show (headSpec ws rm).room.cells = mc from hrc]; exact hp.1
  have h5 : A.slots + (headSpec ws rm).room.slots ≤ R.slots := by rw [show (headSpec ws rm).room.slots = ms from hrs]; exact hp.2.1
  have hPc : Pc a (A.U.calling g mk a) := hblind _ _ _ _ hp.2.2
  obtain ⟨U, Ls, c0, s0⟩ := A
  dsimp only [Pt.U, Pt.locs, Pt.cells, Pt.slots] at h1 h2 h3 h4 h5 X hn hPc ⊢
  obtain ⟨methY, cY, hmY, hcY, -, hlY, -, -, -, -⟩ := Cond.code_spec hn h2
  obtain ⟨kY, hkY, -⟩ := className_of_methodNamed hn
  have hinitY : kY.init = .initialized := Cond.initialized_spec (findClass_of_methodNamed hn) hkY h3
  have h : At U g.method c below := by rw [hg]; exact X.here
  have hlocals9 : W9 + (maxL + 11) + (headSpec ws rm).room.locals ≤ R.locals := hlocals
  have happ : (headSpec ws rm).appliesLoose y e.platform (U.calling g mk a) = true :=
    Spec.appliesLoose_calling (g := g) h hdg hn hkY hinitY
      (X.room_calling (g := g) (R' := (headSpec ws rm).room) hsize hmY hcY hframes (by rw [hlY]; omega) h4 h5) h1
  obtain ⟨mid, hmid⟩ := h.above
  have hfr : (U.setTop g).frames = (.java g :: mid) ++ below := by rw [State.frames_setTop' g h.top, hmid]; rfl
  obtain ⟨o, s₂, hsteps, -, hend, hq⟩ := Steps.callFree hM p X.admits X.cas X.clock (acts := []) hfr happ hPc trivial
  have hq' : vx_Q Qc XC mc ms free a (U.calling g mk a) o s₂ := hq
  rw [State.frames_setTop' g h.top] at hend
  obtain ⟨g₀, hg0⟩ := Option.isSome_iff_exists.mp h.top
  obtain ⟨r, hr⟩ := State.topJava?_eq_some.mp hg0
  have hr' : (({ U with heap := s₂.heap, slotsUsed := s₂.slotsUsed } : State).setVm s₂.vm).frames = .java g₀ :: r := hr
  rcases hq' with ⟨hqc, L, hfe, hL⟩ | ⟨q, rfl, E, ce, L, hx, hce, hcv, hcl, hW₂, hsm, hL⟩
  · obtain ⟨⟨v, rfl⟩, hW₂, e2, q2, q3, q4, q5, q6⟩ := id hfe
    have e3 : s₂ = ({ (U.calling g mk a).setFrames s₂.frames with heap := s₂.heap, slotsUsed := s₂.slotsUsed } : State).setVm s₂.vm := by
      have : s₂ = ({ s₂ with vm := (U.calling g mk a).vm } : State).setVm s₂.vm := rfl
      rw [e2] at this
      exact this
    obtain ⟨c₂, i₂, len₂, hc₂, hd₂, hf₂⟩ := hend
    have hW' : U.WarmedH s₂.vm := hW₂
    have hcc : c₂ = c := by
      have h1 : s₂.code? g.method = U.code? g.method := by
        rw [State.code?_eq, State.code?_eq, hW'.alike.method?]
      exact Option.some.inj (hc₂.symm.trans (h1.trans h.code))
    subst hcc
    have hlen : len₂ = len := by rw [hdg] at hd₂; cases hd₂; rfl
    subst hlen
    have hs₂ : s₂ = (({ U with heap := s₂.heap, slotsUsed := s₂.slotsUsed } : State).setVm s₂.vm).setTop { g with pc := g.pc + len₂, stack := v.toList ++ g.stack } := by
      refine e3.trans ?_
      rw [hf₂, State.calling_eq h.top, State.setFrames_setFrames, State.setTop_of_frames _ hr', hr]
      rfl
    have hsame : U.sameButNew ({ U with heap := s₂.heap, slotsUsed := s₂.slotsUsed } : State) L mc ms := by
      refine ⟨?_, q2, q3, q4, q5, q6⟩
      obtain ⟨t, ht, -⟩ := State.frames_cons hr
      show ({ U with heap := s₂.heap, slotsUsed := s₂.slotsUsed } : State) = { U.setFrames U.frames with heap := s₂.heap, slotsUsed := s₂.slotsUsed }
      rw [State.setFrames_self ht]
    subst hg
    refine Or.inl ⟨v, ⟨(({ U with heap := s₂.heap, slotsUsed := s₂.slotsUsed } : State).setVm s₂.vm), Ls ++ L, c0 + mc, s0 + ms⟩,
      ⟨X.admits, X.cas, X.clock, X.frames, X.room, X.hears, X.method, X.code, (X.here.setHeapUsed s₂.heap s₂.slotsUsed).setVm hW'.alike, X.tail, State.WarmedH.trans X.warmed hW', X.limits, X.bytes, X.same.trans (hsame.setVm s.vm)⟩,
      ⟨g, mk, s₂, L, rfl, rfl, hqc, rfl, hL, rfl, rfl⟩, ?_⟩
    show Steps p.tables e below _ ((({ U with heap := s₂.heap, slotsUsed := s₂.slotsUsed } : State).setVm s₂.vm).setTop { g with pc := g.pc + len₂, stack := v.toList ++ g.stack })
    rw [← hs₂]
    exact hsteps
  · obtain ⟨e2, q2, q3, q4, q5, q6⟩ := id hsm
    have e3 : s₂ = ({ (U.calling g mk a).setFrames s₂.frames with heap := s₂.heap, slotsUsed := s₂.slotsUsed } : State).setVm s₂.vm := by
      have : s₂ = ({ s₂ with vm := (U.calling g mk a).vm } : State).setVm s₂.vm := rfl
      rw [e2] at this
      exact this
    have hf₂ : s₂.frames = .throwing q :: .java g :: U.frames.tail := hend
    have hW' : U.WarmedH s₂.vm := hW₂
    have hs₂ : s₂ = ((({ U with heap := s₂.heap, slotsUsed := s₂.slotsUsed } : State).setVm s₂.vm).setTop g).pushFrame (.throwing q) := by
      refine e3.trans ?_
      rw [hf₂, State.calling_eq h.top, State.setFrames_setFrames, State.pushFrame, State.frames_setTop _ hr', State.setTop_of_frames _ hr', State.setFrames_setFrames, hr]
      rfl
    have hsame : U.sameButNew ({ U with heap := s₂.heap, slotsUsed := s₂.slotsUsed } : State) L mc ms := by
      refine ⟨?_, q2, q3, q4, q5, q6⟩
      obtain ⟨t, ht, -⟩ := State.frames_cons hr
      show ({ U with heap := s₂.heap, slotsUsed := s₂.slotsUsed } : State) = { U.setFrames U.frames with heap := s₂.heap, slotsUsed := s₂.slotsUsed }
      rw [State.setFrames_self ht]
    subst hg
    refine Or.inr ⟨q, ⟨(({ U with heap := s₂.heap, slotsUsed := s₂.slotsUsed } : State).setVm s₂.vm), Ls ++ L, c0 + mc, s0 + ms⟩,
      ⟨X.admits, X.cas, X.clock, X.frames, X.room, X.hears, X.method, X.code, (X.here.setHeapUsed s₂.heap s₂.slotsUsed).setVm hW'.alike, X.tail, State.WarmedH.trans X.warmed hW', X.limits, X.bytes, X.same.trans (hsame.setVm s.vm)⟩,
      ⟨g, mk, s₂, L, E, ce, rfl, rfl, hx, hce, hcv, hcl, rfl, hL, rfl, rfl⟩, ?_⟩
    show Steps p.tables e below _ (((({ U with heap := s₂.heap, slotsUsed := s₂.slotsUsed } : State).setVm s₂.vm).setTop g).pushFrame (.throwing q))
    rw [← hs₂]
    exact hsteps
end Payer
section Calls
variable {p : Program} {l : Launch} {e : Env} {R : Room} {s : State} {m : MethodId} {args : Array Value} {below : List Frame} {meth : Method} {c : Code} {T : State} {locs : List Loc} {cells slots : Nat}
theorem vx_callV (X : Stand p l e R s m args below meth c T locs cells slots) (hexec : p.tables.exec = Jvm.exec) {own C : String} {index : Nat} {y : MethodName} {bytes : ByteArray} {maxL : Nat} {ret : Option FieldType}
    (hown : s.vm.findClass own = some m.cls) (hlink : (Cond.methodLink own index y).before args s = true) (hinst : (Cond.instanceMethod y).before args s = true) (hsel : (Cond.selects C y y).before args s = true)
    (hcode : (Cond.code y bytes maxL ret).before args s = true) (hy : y.cls ≠ "java/lang/invoke/MethodHandle" ∧ y.cls ≠ "java/lang/invoke/VarHandle")
    {W9 : Nat} {Pre : Pt → Array Value → Prop} {Post : Pt → Array Value → Option Value → Pt → Prop} {PostX : Pt → Array Value → Addr → Pt → Prop} (hK : vx_Back l R p e below s args y 3 W9 Pre Post PostX)
    {b : Addr} {cellB : Cell} (hcell : T.heap[b]? = some cellB) (hobj : cellB.vm.isStatics = false) (hcls : s.vm.findClass C = some cellB.cls)
    {g : JFrame} (hg : g.method = m) (hsize : g.locals.size = c.maxLocals) {argsL rest : List Value} (hlen : ∀ sig, parseMethodDescriptor y.desc = some sig → argsL.length = sig.parameters.length)
    (hstack : g.stack = argsL.reverse ++ .ref b :: rest) (hW : 2 * g.monitorRoom + (rest.map fun v => v.category).sum ≤ W9) (hdg : decode c.code g.pc = .ok (.invokevirtual index, 3))
    (hpre : ∀ vm₁, s.WarmedH vm₁ → Pre ⟨T.setVm vm₁, locs, cells, slots⟩ (Value.ref b :: argsL).toArray) :
    (∃ (v : Option Value) (vm₁ : Vm) (B : Pt), s.WarmedH vm₁ ∧ Stand p l e R s m args below meth c B.U B.locs B.cells B.slots ∧ Post ⟨T.setVm vm₁, locs, cells, slots⟩ (Value.ref b :: argsL).toArray v B ∧
      ∀ target, Steps p.tables e below (B.U.setTop { g with pc := g.pc + 3, stack := v.toList ++ rest }) target → Steps p.tables e below (T.setTop g) target) ∨
    (∃ (q : Addr) (vm₁ : Vm) (B : Pt), s.WarmedH vm₁ ∧ Stand p l e R s m args below meth c B.U B.locs B.cells B.slots ∧ PostX ⟨T.setVm vm₁, locs, cells, slots⟩ (Value.ref b :: argsL).toArray q B ∧
      Steps p.tables e below (T.setTop g) ((B.U.setTop { g with stack := rest }).pushFrame (.throwing q))) := by
  obtain ⟨mk, methM, hnamed, hmethM, hstM, habM⟩ := Cond.instanceMethod_spec hinst
  obtain ⟨methM', cM, hmethM', -, -, -, -, -, -, hsigM⟩ := Cond.code_spec hnamed hcode
  cases hmethM.symm.trans hmethM'
  obtain ⟨c2, r2, m2, q1, q2, q3, q4, kP, hkP, hkPi⟩ := Cond.selects_spec hsel
  cases hcls.symm.trans q1
  cases (State.methodFound?_of_named hnamed hy).symm.trans q2
  cases hnamed.symm.trans q3
  have hselP : selectMethod e.platform s.vm cellB.cls mk = .method mk := by rw [Launch.admits_selectMethod X.admits]; exact q4
  obtain ⟨vm₁, X₁, hstep₁⟩ := X.invokevirtual hexec hown hlink hnamed hmethM hstM hkP hkPi hy (a := b) (cell := cellB) hcell
    (fun z h => by rw [h] at hobj; cases hobj) hselP hmethM habM hkP hkPi (g := g) hg (argsL := argsL) (rest := rest) (hlen _ hsigM) hstack hdg
  rcases hK m meth c ⟨T.setVm vm₁, locs, cells, slots⟩ { g with stack := rest } (.invokevirtual index) mk (Value.ref b :: argsL).toArray X₁ hg hsize hdg hW (X₁.named hnamed) (hpre vm₁ X₁.warmed) with ⟨v, B, X', hpost, hsteps⟩ | ⟨q, B, X', hpost, hsteps⟩
  · exact Or.inl ⟨v, vm₁, B, X₁.warmed, X', hpost, fun target h => hstep₁ _ fun acts => by rw [doInvoke_state]; exact hsteps.trans h⟩
  · exact Or.inr ⟨q, vm₁, B, X₁.warmed, X', hpost, hstep₁ _ fun acts => by rw [doInvoke_state]; exact hsteps⟩
theorem vx_callS (X : Stand p l e R s m args below meth c T locs cells slots) (hexec : p.tables.exec = Jvm.exec) {own : String} {index : Nat} {y : MethodName} {bytes : ByteArray} {maxL : Nat} {ret : Option FieldType}
    (hown : s.vm.findClass own = some m.cls) (hlink : (Cond.methodLink own index y).before args s = true) (hstat : (Cond.static y).before args s = true) (hinit : (Cond.initialized y.cls).before args s = true)
    (hcode : (Cond.code y bytes maxL ret).before args s = true) (hy : y.cls ≠ "java/lang/invoke/MethodHandle" ∧ y.cls ≠ "java/lang/invoke/VarHandle")
    {W9 : Nat} {Pre : Pt → Array Value → Prop} {Post : Pt → Array Value → Option Value → Pt → Prop} {PostX : Pt → Array Value → Addr → Pt → Prop} (hK : vx_Back l R p e below s args y 3 W9 Pre Post PostX)
    {g : JFrame} (hg : g.method = m) (hsize : g.locals.size = c.maxLocals) {argsL rest : List Value} (hlen : ∀ sig, parseMethodDescriptor y.desc = some sig → argsL.length = sig.parameters.length)
    (hstack : g.stack = argsL.reverse ++ rest) (hW : 2 * g.monitorRoom + (rest.map fun v => v.category).sum ≤ W9) (hdg : decode c.code g.pc = .ok (.invokestatic index, 3))
    (hpre : ∀ vm₁, s.WarmedH vm₁ → Pre ⟨T.setVm vm₁, locs, cells, slots⟩ argsL.toArray) :
    (∃ (v : Option Value) (vm₁ : Vm) (B : Pt), s.WarmedH vm₁ ∧ Stand p l e R s m args below meth c B.U B.locs B.cells B.slots ∧ Post ⟨T.setVm vm₁, locs, cells, slots⟩ argsL.toArray v B ∧
      ∀ target, Steps p.tables e below (B.U.setTop { g with pc := g.pc + 3, stack := v.toList ++ rest }) target → Steps p.tables e below (T.setTop g) target) ∨
    (∃ (q : Addr) (vm₁ : Vm) (B : Pt), s.WarmedH vm₁ ∧ Stand p l e R s m args below meth c B.U B.locs B.cells B.slots ∧ PostX ⟨T.setVm vm₁, locs, cells, slots⟩ argsL.toArray q B ∧
      Steps p.tables e below (T.setTop g) ((B.U.setTop { g with stack := rest }).pushFrame (.throwing q))) := by
  obtain ⟨mk, hnamed⟩ := Cond.code_named hcode
  obtain ⟨methM, cM, hmethM, -, -, -, -, -, -, hsigM⟩ := Cond.code_spec hnamed hcode
  have hstatic : methM.isStatic = true := Cond.static_spec hnamed hmethM hstat
  obtain ⟨kP, hkP, -⟩ := className_of_methodNamed hnamed
  have hinitP : kP.init = .initialized := Cond.initialized_spec (findClass_of_methodNamed hnamed) hkP hinit
  obtain ⟨vm₁, X₁, hstep₁⟩ := X.invokestatic hexec hown hlink hnamed hmethM hstatic hkP hinitP hy (g := g) hg (argsL := argsL) (rest := rest) (hlen _ hsigM) hstack hdg
  rcases hK m meth c ⟨T.setVm vm₁, locs, cells, slots⟩ { g with stack := rest } (.invokestatic index) mk argsL.toArray X₁ hg hsize hdg hW (X₁.named hnamed) (hpre vm₁ X₁.warmed) with ⟨v, B, X', hpost, hsteps⟩ | ⟨q, B, X', hpost, hsteps⟩
  · exact Or.inl ⟨v, vm₁, B, X₁.warmed, X', hpost, fun target h => hstep₁ _ fun acts => by rw [doInvoke_state]; exact hsteps.trans h⟩
  · exact Or.inr ⟨q, vm₁, B, X₁.warmed, X', hpost, hstep₁ _ fun acts => by rw [doInvoke_state]; exact hsteps⟩
end Calls
theorem vx_cls {s : State} {T : State} {vm₁ : Vm} {E : String} {k : ClassId} (hW : s.WarmedH vm₁) (h : (T.setVm vm₁).vm.findClass E = some k) : s.vm.findClass E = some k := by
  have h1 : vm₁.findClass E = some k := h
  rw [hW.alike.findClass] at h1
  exact h1
/-- the method's frame g, with q thrown over it -/
def vx_W (p : Program) (l : Launch) (e : Env) (R : Room) (s : State) (m : MethodId) (args : Array Value) (below : List Frame) (meth : Method) (c : Code) (H : Heap) (locs : List Loc) (cells slots : Nat) (Q : State → Prop) (g : JFrame) (q : Addr) : Prop :=
  ∀ T : State, T.heap = H → Stand p l e R s m args below meth c T locs cells slots → ∃ t, Steps p.tables e below ((T.setTop g).pushFrame (.throwing q)) t ∧ Q t
def vx_Run (p : Program) (l : Launch) (e : Env) (R : Room) (s : State) (m : MethodId) (args : Array Value) (below : List Frame) (meth : Method) (c : Code) (H : Heap) (locs : List Loc) (cells slots mc ms : Nat) (g : JFrame) (rest : List Value) (Qa : State → Outcome → State → Prop) (XC : String → State → State → Prop) (free : Addr → Prop) : Prop :=
  ∀ T : State, T.heap = H → Stand p l e R s m args below meth c T locs cells slots →
    (∃ (v : Option Value) (st₀ t T' : State) (L : List Loc), st₀.heap = H ∧ Stand p l e R s m args below meth c T' (locs ++ L) (cells + mc) (slots + ms) ∧ (∀ q ∈ L, free q.base) ∧ T'.heap = t.heap ∧ T'.vm = t.vm ∧ Qa st₀ (.returned v) t ∧
      Goes p e below T g T' { g with pc := g.pc + 3, stack := v.toList ++ rest }) ∨
    (∃ (q : Addr) (st₀ t T' : State) (L : List Loc) (E : String) (ce : Cell), st₀.heap = H ∧ Stand p l e R s m args below meth c T' (locs ++ L) (cells + mc) (slots + ms) ∧ (∀ z ∈ L, free z.base) ∧ T'.heap = t.heap ∧ T'.vm = t.vm ∧ XC E st₀ t ∧ t.heap[q]? = some ce ∧ ce.vm = .none ∧ s.vm.findClass E = some ce.cls ∧
      Steps p.tables e below (T.setTop g) ((T'.setTop { g with stack := rest }).pushFrame (.throwing q)))
def vx_X {S : Type} (px : S → Prop) (B : String → S → State → Prop) (A : Nat → Prop) : String → State → State → Prop := fun E st t => ∃ u : S, px u ∧ B E u t ∧ va_F A st t
section Runs
variable {p : Program} {l : Launch} {e : Env} {R : Room} {s : State} {m : MethodId} {args : Array Value} {below : List Frame} {meth : Method} {c : Code} {H : Heap} {locs : List Loc} {cells slots : Nat}
variable {y : MethodName} {bytes cc : ByteArray} {maxL nL mc ms n index : Nat} {ret : Option FieldType} {ws : List Cond} {rm : Room} {Pc : Array Value → State → Prop} {Qc : Array Value → State → Outcome → State → Prop} {XC : String → State → State → Prop} {free : Addr → Prop} {Ts : List Cond} {own C : String} {b : Addr} {As rest : List Value} {g : JFrame}
theorem vx_callBack (cb : CallB R s args own index y bytes maxL ret ws rm mc ms n) (hM : vx_Met l y ws rm Pc Qc XC mc ms free) (hbl : FrameBlind Pc) : vx_Back l R p e below s args y 3 8 (PreOf R mc ms Pc) (PostOf Qc mc ms free) (vx_Post XC mc ms free) := by
  obtain ⟨hrc, hrs, hfr, hlo, hws, hcw, -, hini, -⟩ := cb
  exact vx_back (bytes := bytes) (maxL := maxL) (ret := ret) hM hbl hrc hrs hfr hlo hws hcw (fun a' U hW => word_at hW (Or.inl (by first | rfl | simp [Cond.onTables, Cond.keeps, Cond.steady])) hini)
theorem vx_runV (S : CallFix p m c cc nL s args Ts own) (hM : vx_Met l y ws rm Pc Qc XC mc ms free) (cw : CallW R s args own C index y bytes maxL ret ws rm mc ms n) (hp : PreV s H C b Pc As)
    (hg : g.method = m) (hn : As.length = n) (hsize : g.locals.size = nL) (hstack : g.stack = As.reverse ++ .ref b :: rest) (hW : 2 * g.monitorRoom + (rest.map fun v => v.category).sum ≤ 8) (hdg : decode cc g.pc = .ok (.invokevirtual index, 3)) (hf : cells + mc ≤ R.cells ∧ slots + ms ≤ R.slots) :
    vx_Run p l e R s m args below meth c H locs cells slots mc ms g rest (Qc (Value.ref b :: As).toArray) XC free := by
  have hK : vx_Back l R p e below s args y 3 8 (PreOf R mc ms Pc) (PostOf Qc mc ms free) (vx_Post XC mc ms free) := vx_callBack cw.1 hM hp.1
  obtain ⟨⟨-, -, -, -, -, -, hcode, -, hy, hlen, hl⟩, hin, hse⟩ := cw
  obtain ⟨hx, hb, hml, ho, -⟩ := S
  obtain ⟨-, ⟨cellB, hcB, hoB, hclB⟩, hPc⟩ := hp
  intro T hT X
  rcases vx_callV X hx (C := C) (bytes := bytes) (maxL := maxL) (ret := ret) ho hl hin hse hcode hy hK (by rw [hT]; exact hcB) hoB hclB hg (hsize.trans hml.symm) (argsL := As) (rest := rest) (fun sig h => hn.trans (hlen sig h)) hstack hW (by rw [hb]; exact hdg)
    (fun vm₁ hW₁ => ⟨hf.1, hf.2, hPc (T.setVm vm₁) hT hW₁⟩) with ⟨v, vm₁, ⟨U', l2, c2, s2⟩, hW₁, X', ⟨g', mk, t, L, e1, e2, hq, h1, hL, h2, h3⟩, st⟩ | ⟨q, vm₁, ⟨U', l2, c2, s2⟩, hW₁, X', ⟨g', mk, t, L, E, ce, e1, e2, hq, hce, hcv, hcl, h1, hL, h2, h3⟩, st⟩
  · dsimp only [Pt.U, Pt.locs, Pt.cells, Pt.slots] at X' e1 e2 h1 h2 h3 st
    subst h1; subst h2; subst h3
    exact Or.inl ⟨v, (T.setVm vm₁).calling g' mk (Value.ref b :: As).toArray, t, U', L, hT, X', hL, e1, e2, hq, st⟩
  · dsimp only [Pt.U, Pt.locs, Pt.cells, Pt.slots] at X' e1 e2 h1 h2 h3 st hcl
    subst h1; subst h2; subst h3
    exact Or.inr ⟨q, (T.setVm vm₁).calling g' mk (Value.ref b :: As).toArray, t, U', L, E, ce, hT, X', hL, e1, e2, hq, hce, hcv, vx_cls hW₁ hcl, st⟩
theorem vx_runS (S : CallFix p m c cc nL s args Ts own) (hM : vx_Met l y ws rm Pc Qc XC mc ms free) (cw : CallB R s args own index y bytes maxL ret ws rm mc ms n ∧ (Cond.static y).before args s = true) (hp : PreS s H Pc As)
    (hg : g.method = m) (hn : As.length = n) (hsize : g.locals.size = nL) (hstack : g.stack = As.reverse ++ rest) (hW : 2 * g.monitorRoom + (rest.map fun v => v.category).sum ≤ 8) (hdg : decode cc g.pc = .ok (.invokestatic index, 3)) (hf : cells + mc ≤ R.cells ∧ slots + ms ≤ R.slots) :
    vx_Run p l e R s m args below meth c H locs cells slots mc ms g rest (Qc As.toArray) XC free := by
  have hK : vx_Back l R p e below s args y 3 8 (PreOf R mc ms Pc) (PostOf Qc mc ms free) (vx_Post XC mc ms free) := vx_callBack cw.1 hM hp.1
  obtain ⟨⟨-, -, -, -, -, -, hcode, hini, hy, hlen, hl⟩, hstt⟩ := cw
  obtain ⟨hx, hb, hml, ho, -⟩ := S
  intro T hT X
  rcases vx_callS X hx (bytes := bytes) (maxL := maxL) (ret := ret) ho hl hstt hini hcode hy hK hg (hsize.trans hml.symm) (argsL := As) (rest := rest) (fun sig h => hn.trans (hlen sig h)) hstack hW (by rw [hb]; exact hdg)
    (fun vm₁ hW₁ => ⟨hf.1, hf.2, hp.2 (T.setVm vm₁) hT hW₁⟩) with ⟨v, vm₁, ⟨U', l2, c2, s2⟩, hW₁, X', ⟨g', mk, t, L, e1, e2, hq, h1, hL, h2, h3⟩, st⟩ | ⟨q, vm₁, ⟨U', l2, c2, s2⟩, hW₁, X', ⟨g', mk, t, L, E, ce, e1, e2, hq, hce, hcv, hcl, h1, hL, h2, h3⟩, st⟩
  · dsimp only [Pt.U, Pt.locs, Pt.cells, Pt.slots] at X' e1 e2 h1 h2 h3 st
    subst h1; subst h2; subst h3
    exact Or.inl ⟨v, (T.setVm vm₁).calling g' mk As.toArray, t, U', L, hT, X', hL, e1, e2, hq, st⟩
  · dsimp only [Pt.U, Pt.locs, Pt.cells, Pt.slots] at X' e1 e2 h1 h2 h3 st hcl
    subst h1; subst h2; subst h3
    exact Or.inr ⟨q, (T.setVm vm₁).calling g' mk As.toArray, t, U', L, E, ce, hT, X', hL, e1, e2, hq, hce, hcv, vx_cls hW₁ hcl, st⟩
end Runs
section Rows
variable {p : Program} {l : Launch} {e : Env} {R : Room} {s : State} {m : MethodId} {args : Array Value} {below : List Frame} {meth : Method} {c : Code} {H : Heap} {locs : List Loc} {cells slots : Nat} {Q : State → Prop}
variable {mc ms : Nat} {free : Addr → Prop} {A0 A1 : Nat → Prop} {H0 : Heap} {a : Array Value} {pc : Nat} {ls : Array Slot} {st0 rest : List Value}
theorem vx_keep {st₀ t T' : State} {L : List Loc} (h0 : st₀.heap = H) (e1 : T'.heap = t.heap) (hS : va_S A0 H0 H locs) (hA : ∀ q, q < H.size → A1 q → A0 q) (hf : ∀ q, free q → A0 q) (hL : ∀ q ∈ L, free q.base) (hF : va_F A1 st₀ t) :
    H.size ≤ T'.heap.size ∧ (∀ q : Nat, q < H.size → ¬ A1 q → T'.heap[q]? = H[q]?) ∧ va_S A0 H0 T'.heap (locs ++ L) := by
  obtain ⟨hz, hk⟩ := hF
  rw [h0] at hz hk
  exact ⟨by rw [e1]; exact hz, fun q h1 h2 => by rw [e1]; exact hk q h1 h2,
    ⟨Nat.le_trans hS.1 (by rw [e1]; exact hz), fun q h1 h2 => by rw [e1, hk q (Nat.lt_of_lt_of_le h1 hS.1) (fun z => h2 (hA q (Nat.lt_of_lt_of_le h1 hS.1) z))]; exact hS.2.1 q h1 h2, fun q hq => by
      rcases List.mem_append.mp hq with h | h
      · exact hS.2.2 q h
      · exact hf _ (hL q h)⟩⟩
theorem vx_calli {S SX : Type} {post : Int32 → S → Prop} {px : SX → Prop} {B : S → State → Prop} {BX : String → SX → State → Prop} {AX : Nat → Prop} (hr : vx_Run p l e R s m args below meth c H locs cells slots mc ms (F0 m pc ls st0) rest (va_Qi post B A1 a) (vx_X px BX AX) free) (hS : va_S A0 H0 H locs) (hA : ∀ q, q < H.size → A1 q → A0 q) (hf : ∀ q, free q → A0 q) (hAX : ∀ q, q < H.size → AX q → A0 q)
    (kx : ∀ (E : String) (ce : Cell) (q9 : Addr) (u : SX) (t : State) (H1 : Heap) (locs1 : List Loc), t.heap = H1 → s.vm.Alike t.vm → px u → BX E u t → H.size ≤ H1.size → (∀ q : Nat, q < H.size → ¬ AX q → H1[q]? = H[q]?) → va_S A0 H0 H1 locs1 → H1[q9]? = some ce → ce.vm = .none → s.vm.findClass E = some ce.cls → vx_W p l e R s m args below meth c H1 locs1 (cells + mc) (slots + ms) Q (F0 m pc ls rest) q9)
    (kk : ∀ (r : Int32) (u : S) (t : State) (H1 : Heap) (locs1 : List Loc), t.heap = H1 → s.vm.Alike t.vm → post r u → B u t → H.size ≤ H1.size → (∀ q : Nat, q < H.size → ¬ A1 q → H1[q]? = H[q]?) → va_S A0 H0 H1 locs1 → W p l e R s m args below meth c H1 locs1 (cells + mc) (slots + ms) Q (F0 m (pc + 3) ls (.int r :: rest))) : W p l e R s m args below meth c H locs cells slots Q (F0 m pc ls st0) := by
  intro T hT X
  rcases hr T hT X with ⟨v, st₀, t, T', L, h0, X', hL, e1, e2, ⟨⟨r, u, hv, hp, hb⟩, hF⟩, st⟩ | ⟨q, st₀, t, T', L, E, ce, h0, X', hL, e1, e2, ⟨u, hp, hb, hF⟩, hce, hcv, hcl, st⟩
  · cases hv
    obtain ⟨k1, k2, k3⟩ := vx_keep h0 e1 hS hA hf hL hF
    obtain ⟨t2, a1, b1⟩ := kk r u t T'.heap (locs ++ L) e1.symm (by rw [← e2]; exact X'.warmed.alike) hp hb k1 k2 k3 T' rfl X'
    exact ⟨t2, st t2 a1, b1⟩
  · obtain ⟨k1, k2, k3⟩ := vx_keep h0 e1 hS hAX hf hL hF
    obtain ⟨t2, a1, b1⟩ := kx E ce q u t T'.heap (locs ++ L) e1.symm (by rw [← e2]; exact X'.warmed.alike) hp hb k1 k2 k3 (by rw [e1]; exact hce) hcv hcl T' rfl X'
    exact ⟨t2, st.trans a1, b1⟩
theorem vx_calll {S SX : Type} {post : Int64 → S → Prop} {px : SX → Prop} {B : S → State → Prop} {BX : String → SX → State → Prop} {AX : Nat → Prop} (hr : vx_Run p l e R s m args below meth c H locs cells slots mc ms (F0 m pc ls st0) rest (va_Ql post B A1 a) (vx_X px BX AX) free) (hS : va_S A0 H0 H locs) (hA : ∀ q, q < H.size → A1 q → A0 q) (hf : ∀ q, free q → A0 q) (hAX : ∀ q, q < H.size → AX q → A0 q)
    (kx : ∀ (E : String) (ce : Cell) (q9 : Addr) (u : SX) (t : State) (H1 : Heap) (locs1 : List Loc), t.heap = H1 → s.vm.Alike t.vm → px u → BX E u t → H.size ≤ H1.size → (∀ q : Nat, q < H.size → ¬ AX q → H1[q]? = H[q]?) → va_S A0 H0 H1 locs1 → H1[q9]? = some ce → ce.vm = .none → s.vm.findClass E = some ce.cls → vx_W p l e R s m args below meth c H1 locs1 (cells + mc) (slots + ms) Q (F0 m pc ls rest) q9)
    (kk : ∀ (r : Int64) (u : S) (t : State) (H1 : Heap) (locs1 : List Loc), t.heap = H1 → s.vm.Alike t.vm → post r u → B u t → H.size ≤ H1.size → (∀ q : Nat, q < H.size → ¬ A1 q → H1[q]? = H[q]?) → va_S A0 H0 H1 locs1 → W p l e R s m args below meth c H1 locs1 (cells + mc) (slots + ms) Q (F0 m (pc + 3) ls (.long r :: rest))) : W p l e R s m args below meth c H locs cells slots Q (F0 m pc ls st0) := by
  intro T hT X
  rcases hr T hT X with ⟨v, st₀, t, T', L, h0, X', hL, e1, e2, ⟨⟨r, u, hv, hp, hb⟩, hF⟩, st⟩ | ⟨q, st₀, t, T', L, E, ce, h0, X', hL, e1, e2, ⟨u, hp, hb, hF⟩, hce, hcv, hcl, st⟩
  · cases hv
    obtain ⟨k1, k2, k3⟩ := vx_keep h0 e1 hS hA hf hL hF
    obtain ⟨t2, a1, b1⟩ := kk r u t T'.heap (locs ++ L) e1.symm (by rw [← e2]; exact X'.warmed.alike) hp hb k1 k2 k3 T' rfl X'
    exact ⟨t2, st t2 a1, b1⟩
  · obtain ⟨k1, k2, k3⟩ := vx_keep h0 e1 hS hAX hf hL hF
    obtain ⟨t2, a1, b1⟩ := kx E ce q u t T'.heap (locs ++ L) e1.symm (by rw [← e2]; exact X'.warmed.alike) hp hb k1 k2 k3 (by rw [e1]; exact hce) hcv hcl T' rfl X'
    exact ⟨t2, st.trans a1, b1⟩
theorem vx_callf {S SX : Type} {post : UInt32 → S → Prop} {px : SX → Prop} {B : S → State → Prop} {BX : String → SX → State → Prop} {AX : Nat → Prop} (hr : vx_Run p l e R s m args below meth c H locs cells slots mc ms (F0 m pc ls st0) rest (va_Qf post B A1 a) (vx_X px BX AX) free) (hS : va_S A0 H0 H locs) (hA : ∀ q, q < H.size → A1 q → A0 q) (hf : ∀ q, free q → A0 q) (hAX : ∀ q, q < H.size → AX q → A0 q)
    (kx : ∀ (E : String) (ce : Cell) (q9 : Addr) (u : SX) (t : State) (H1 : Heap) (locs1 : List Loc), t.heap = H1 → s.vm.Alike t.vm → px u → BX E u t → H.size ≤ H1.size → (∀ q : Nat, q < H.size → ¬ AX q → H1[q]? = H[q]?) → va_S A0 H0 H1 locs1 → H1[q9]? = some ce → ce.vm = .none → s.vm.findClass E = some ce.cls → vx_W p l e R s m args below meth c H1 locs1 (cells + mc) (slots + ms) Q (F0 m pc ls rest) q9)
    (kk : ∀ (r : UInt32) (u : S) (t : State) (H1 : Heap) (locs1 : List Loc), t.heap = H1 → s.vm.Alike t.vm → post r u → B u t → H.size ≤ H1.size → (∀ q : Nat, q < H.size → ¬ A1 q → H1[q]? = H[q]?) → va_S A0 H0 H1 locs1 → W p l e R s m args below meth c H1 locs1 (cells + mc) (slots + ms) Q (F0 m (pc + 3) ls (.float r :: rest))) : W p l e R s m args below meth c H locs cells slots Q (F0 m pc ls st0) := by
  intro T hT X
  rcases hr T hT X with ⟨v, st₀, t, T', L, h0, X', hL, e1, e2, ⟨⟨r, u, hv, hp, hb⟩, hF⟩, st⟩ | ⟨q, st₀, t, T', L, E, ce, h0, X', hL, e1, e2, ⟨u, hp, hb, hF⟩, hce, hcv, hcl, st⟩
  · cases hv
    obtain ⟨k1, k2, k3⟩ := vx_keep h0 e1 hS hA hf hL hF
    obtain ⟨t2, a1, b1⟩ := kk r u t T'.heap (locs ++ L) e1.symm (by rw [← e2]; exact X'.warmed.alike) hp hb k1 k2 k3 T' rfl X'
    exact ⟨t2, st t2 a1, b1⟩
  · obtain ⟨k1, k2, k3⟩ := vx_keep h0 e1 hS hAX hf hL hF
    obtain ⟨t2, a1, b1⟩ := kx E ce q u t T'.heap (locs ++ L) e1.symm (by rw [← e2]; exact X'.warmed.alike) hp hb k1 k2 k3 (by rw [e1]; exact hce) hcv hcl T' rfl X'
    exact ⟨t2, st.trans a1, b1⟩
theorem vx_calld {S SX : Type} {post : UInt64 → S → Prop} {px : SX → Prop} {B : S → State → Prop} {BX : String → SX → State → Prop} {AX : Nat → Prop} (hr : vx_Run p l e R s m args below meth c H locs cells slots mc ms (F0 m pc ls st0) rest (va_Qd post B A1 a) (vx_X px BX AX) free) (hS : va_S A0 H0 H locs) (hA : ∀ q, q < H.size → A1 q → A0 q) (hf : ∀ q, free q → A0 q) (hAX : ∀ q, q < H.size → AX q → A0 q)
    (kx : ∀ (E : String) (ce : Cell) (q9 : Addr) (u : SX) (t : State) (H1 : Heap) (locs1 : List Loc), t.heap = H1 → s.vm.Alike t.vm → px u → BX E u t → H.size ≤ H1.size → (∀ q : Nat, q < H.size → ¬ AX q → H1[q]? = H[q]?) → va_S A0 H0 H1 locs1 → H1[q9]? = some ce → ce.vm = .none → s.vm.findClass E = some ce.cls → vx_W p l e R s m args below meth c H1 locs1 (cells + mc) (slots + ms) Q (F0 m pc ls rest) q9)
    (kk : ∀ (r : UInt64) (u : S) (t : State) (H1 : Heap) (locs1 : List Loc), t.heap = H1 → s.vm.Alike t.vm → post r u → B u t → H.size ≤ H1.size → (∀ q : Nat, q < H.size → ¬ A1 q → H1[q]? = H[q]?) → va_S A0 H0 H1 locs1 → W p l e R s m args below meth c H1 locs1 (cells + mc) (slots + ms) Q (F0 m (pc + 3) ls (.double r :: rest))) : W p l e R s m args below meth c H locs cells slots Q (F0 m pc ls st0) := by
  intro T hT X
  rcases hr T hT X with ⟨v, st₀, t, T', L, h0, X', hL, e1, e2, ⟨⟨r, u, hv, hp, hb⟩, hF⟩, st⟩ | ⟨q, st₀, t, T', L, E, ce, h0, X', hL, e1, e2, ⟨u, hp, hb, hF⟩, hce, hcv, hcl, st⟩
  · cases hv
    obtain ⟨k1, k2, k3⟩ := vx_keep h0 e1 hS hA hf hL hF
    obtain ⟨t2, a1, b1⟩ := kk r u t T'.heap (locs ++ L) e1.symm (by rw [← e2]; exact X'.warmed.alike) hp hb k1 k2 k3 T' rfl X'
    exact ⟨t2, st t2 a1, b1⟩
  · obtain ⟨k1, k2, k3⟩ := vx_keep h0 e1 hS hAX hf hL hF
    obtain ⟨t2, a1, b1⟩ := kx E ce q u t T'.heap (locs ++ L) e1.symm (by rw [← e2]; exact X'.warmed.alike) hp hb k1 k2 k3 (by rw [e1]; exact hce) hcv hcl T' rfl X'
    exact ⟨t2, st.trans a1, b1⟩
theorem vx_callv {S SX : Type} {post : S → Prop} {px : SX → Prop} {B : S → State → Prop} {BX : String → SX → State → Prop} {AX : Nat → Prop} (hr : vx_Run p l e R s m args below meth c H locs cells slots mc ms (F0 m pc ls st0) rest (va_Qv post B A1 a) (vx_X px BX AX) free) (hS : va_S A0 H0 H locs) (hA : ∀ q, q < H.size → A1 q → A0 q) (hf : ∀ q, free q → A0 q) (hAX : ∀ q, q < H.size → AX q → A0 q)
    (kx : ∀ (E : String) (ce : Cell) (q9 : Addr) (u : SX) (t : State) (H1 : Heap) (locs1 : List Loc), t.heap = H1 → s.vm.Alike t.vm → px u → BX E u t → H.size ≤ H1.size → (∀ q : Nat, q < H.size → ¬ AX q → H1[q]? = H[q]?) → va_S A0 H0 H1 locs1 → H1[q9]? = some ce → ce.vm = .none → s.vm.findClass E = some ce.cls → vx_W p l e R s m args below meth c H1 locs1 (cells + mc) (slots + ms) Q (F0 m pc ls rest) q9)
    (kk : ∀ (u : S) (t : State) (H1 : Heap) (locs1 : List Loc), t.heap = H1 → s.vm.Alike t.vm → post u → B u t → H.size ≤ H1.size → (∀ q : Nat, q < H.size → ¬ A1 q → H1[q]? = H[q]?) → va_S A0 H0 H1 locs1 → W p l e R s m args below meth c H1 locs1 (cells + mc) (slots + ms) Q (F0 m (pc + 3) ls (rest))) : W p l e R s m args below meth c H locs cells slots Q (F0 m pc ls st0) := by
  intro T hT X
  rcases hr T hT X with ⟨v, st₀, t, T', L, h0, X', hL, e1, e2, ⟨⟨u, hv, hp, hb⟩, hF⟩, st⟩ | ⟨q, st₀, t, T', L, E, ce, h0, X', hL, e1, e2, ⟨u, hp, hb, hF⟩, hce, hcv, hcl, st⟩
  · cases hv
    obtain ⟨k1, k2, k3⟩ := vx_keep h0 e1 hS hA hf hL hF
    obtain ⟨t2, a1, b1⟩ := kk u t T'.heap (locs ++ L) e1.symm (by rw [← e2]; exact X'.warmed.alike) hp hb k1 k2 k3 T' rfl X'
    exact ⟨t2, st t2 a1, b1⟩
  · obtain ⟨k1, k2, k3⟩ := vx_keep h0 e1 hS hAX hf hL hF
    obtain ⟨t2, a1, b1⟩ := kx E ce q u t T'.heap (locs ++ L) e1.symm (by rw [← e2]; exact X'.warmed.alike) hp hb k1 k2 k3 (by rw [e1]; exact hce) hcv hcl T' rfl X'
    exact ⟨t2, st.trans a1, b1⟩
/-- caught by the row x of this method's table; the rows ahead don't take it -/
theorem vx_catch {own name : String} {E : String} {ce : Cell} {q : Addr} (hown : s.vm.findClass own = some m.cls) (pre : List ExceptionTableEntry) (x : ExceptionTableEntry) (suf : List ExceptionTableEntry) (hsplit : c.exceptionTable.toList = pre ++ x :: suf)
    (hpass : ∀ z ∈ pre, covers z pc = false ∨ (z.catchType ≠ 0 ∧ ∃ nm : String, (Cond.classLink own z.catchType nm).before args s = true ∧ va_Nc E nm s)) (hx : covers x pc = true) (h0 : x.catchType ≠ 0)
    (hlink : (Cond.classLink own x.catchType name).before args s = true) (hcast : (Cond.castable E name).before args s = true) (hcell : H[q]? = some ce) (hv : ce.vm = .none) (hcl : s.vm.findClass E = some ce.cls)
    (kk : W p l e R s m args below meth c H locs cells slots Q (F0 m x.handlerPc ls [.ref q])) : vx_W p l e R s m args below meth c H locs cells slots Q (F0 m pc ls rest) q := by
  intro T hT X
  have hpl : e.platform.magicAccessors = ({} : Platform).magicAccessors := by rw [X.admits.platform]
  obtain ⟨c3, c4, hc3, hc4, hasg⟩ := Cond.castable_spec hcast
  cases Option.some.inj (hc3.symm.trans hcl)
  obtain ⟨c5, hc5, hcl5⟩ := Cond.classLink_spec hown hlink e.platform hpl
  cases Option.some.inj (hc4.symm.trans hc5)
  obtain ⟨vm', X', st⟩ := X.thenCaughtThrough q (g := F0 m pc ls rest) rfl (Steps.refl _) (by rw [hT]; exact hcell) (by rw [hv]; rfl) (by obtain ⟨k9, h9, -⟩ := Vm.findClass_spec hcl; exact ⟨k9, h9⟩) pre x suf hsplit
    (fun z hz => by
      rcases hpass z hz with h | ⟨hz0, nm, hl1, hn1⟩
      · exact Or.inl h
      · obtain ⟨c6, hc6, hcl6⟩ := Cond.classLink_spec hown hl1 e.platform hpl
        obtain ⟨a8, b8, h1, h2, h3⟩ := hn1
        cases Option.some.inj (h1.symm.trans hcl)
        cases Option.some.inj (h2.symm.trans hc6)
        exact Or.inr ⟨hz0, _, hcl6, h3⟩) hx (Or.inr ⟨h0, c4, hcl5, hasg⟩)
  obtain ⟨t, a1, b1⟩ := kk (T.setVm vm') hT X'
  exact ⟨t, st.trans a1, b1⟩
end Rows
section Ends
variable {p : Program} {l : Launch} {e : Env} {R : Room} {s : State} {m : MethodId} {args : Array Value} {below : List Frame} {meth : Method} {c : Code} {H : Heap} {locs : List Loc} {cells slots : Nat} {Q : State → Prop}
variable {mc ms : Nat} {free : Addr → Prop} {A0 A1 : Nat → Prop} {H0 : Heap} {a : Array Value} {ls : Array Slot} {st0 rest : List Value}
variable {Qc : Array Value → State → Outcome → State → Prop} {XC : String → State → State → Prop}
/-- what a body that may throw owes at its end -/
def vx_MQ (below : List Frame) (Qc : Array Value → State → Outcome → State → Prop) (XC : String → State → State → Prop) (a : Array Value) (s : State) (mc ms : Nat) (free : Addr → Prop) : State → Prop := fun t =>
  ∃ o, t.status = .running ∧ Ended t below o ∧ vx_Q Qc XC mc ms free a s o t
theorem vx_ret {g : JFrame} {mc ms : Nat} (k : W p l e R s m args below meth c H locs cells slots (MQ below Qc args s mc ms free) g) : W p l e R s m args below meth c H locs cells slots (vx_MQ below Qc XC args s mc ms free) g := by
  intro T hT X
  obtain ⟨t, a1, o, b1, b2, b3, b4⟩ := k T hT X
  exact ⟨t, a1, o, b1, b2, Or.inl ⟨b3, b4⟩⟩
/-- not caught here: it goes on to the caller -/
theorem vx_widen {g : JFrame} {q : Addr} {k n : Nat} (h1 : cells ≤ k) (h2 : slots ≤ n) (kk : vx_W p l e R s m args below meth c H locs k n Q g q) : vx_W p l e R s m args below meth c H locs cells slots Q g q := fun T hT X => kk T hT (stand_widen X h1 h2)
theorem vx_out {pc : Nat} {E : String} {ce : Cell} {q : Addr} {mc ms : Nat} (hout : ∀ x ∈ c.exceptionTable.toList, covers x pc = false) (hlocks : meth.locks = false) (hcell : H[q]? = some ce) (hv : ce.vm = .none) (hcl : s.vm.findClass E = some ce.cls)
    (hx : ∀ t : State, t.heap = H → s.vm.Alike t.vm → XC E s t) (hf : ∀ z ∈ locs, free z.base) (hc : cells ≤ mc) (hs : slots ≤ ms) :
    vx_W p l e R s m args below meth c H locs cells slots (vx_MQ below Qc XC args s mc ms free) (F0 m pc ls rest) q := by
  intro T hT X
  obtain ⟨st1, hrun, hend, hW, hsm⟩ := X.leaveThrown q (g := F0 m pc ls rest) rfl rfl rfl hout hlocks
  have hcell9 : (T.setFrames (.throwing q :: below)).heap[q]? = some ce := by
    show T.heap[q]? = some ce
    rw [hT]; exact hcell
  exact ⟨_, st1, .threw q, hrun, hend, Or.inr ⟨q, rfl, E, ce, locs, hx _ hT hW.alike, hcell9, hv, hcl, hW, hsm.mono hc hs, hf⟩⟩
theorem vx_frame {U : State} {k n : Nat} (h : s.sameButNew ({ U with vm := s.vm } : State) locs k n) : s.heap.size ≤ U.heap.size ∧ ∀ q : Nat, q < s.heap.size → (∀ z ∈ locs, z.base ≠ q) → U.heap[q]? = s.heap[q]? := by
  obtain ⟨-, h2, -, -, -, h6⟩ := h
  refine ⟨h2, fun q hq hz => ?_⟩
  obtain ⟨c9, e1, e2, e3, e4⟩ := h6 q _ (Array.getElem?_eq_getElem hq)
  have hs : c9.slots = (s.heap[q]).slots := Array.ext_getElem? fun i => e4 i fun hm => hz _ hm rfl
  have h9 : c9 = s.heap[q] := by
    rw [hs] at e2
    exact e2
  have e5 : U.heap[q]? = some c9 := e1
  rw [e5, h9, Array.getElem?_eq_getElem hq]
/-- the words of a throw but the four that speak of the heap -/
def vx_no (w : Cond) : Bool := decide (w ≠ .isRef (.static Bundle.tN "UNASSIGNED_STACK" Bundle.steD)) && decide (w ≠ .isRef (.static Bundle.tN "SUPPRESSED_SENTINEL" Bundle.listD)) && decide (w ≠ .laysStatic Bundle.tN "UNASSIGNED_STACK" Bundle.steD) && decide (w ≠ .laysStatic Bundle.tN "SUPPRESSED_SENTINEL" Bundle.listD)
def vx_at0 (own : String) (ic : Nat) (X : String) (names : List String) : List Cond := (Bundle.ownAtoms0 own ic X names).filter vx_no
def vx_atS (own : String) (ic : Nat) (X : String) (names : List String) : List Cond := (Bundle.ownAtoms own ic X names).filter vx_no
/-- a word that the tables alone decide, or a good one -/
def vx_ot (w : Cond) : Bool := w.onTables || goodWord w
theorem vx_ot_at {args a' : Array Value} {s U : State} {w : Cond} (hW : s.WarmedH U.vm) (hvm : s.vm = U.vm) (hg : vx_ot w = true) (h : w.before args s = true) : w.before a' U = true := by
  simp only [vx_ot, Bool.or_eq_true] at hg
  rcases hg with hg | hg
  · exact va_tabs hg hvm h
  · exact word_at hW (good_of_word hg) h
/-- a list's words: the good ones out of the method's own list, the others by premises of their own -/
theorem vx_hat {args : Array Value} {s : State} {L B : List Cond} (h1 : ∀ w ∈ L.filter goodWord, w.before args s = true) (h2 : ∀ w ∈ L.filter (fun w => !goodWord w), w ∈ B) (h3 : ∀ w ∈ B, w.before args s = true) : ∀ w ∈ L, w.before args s = true := by
  intro w hw
  by_cases g : goodWord w = true
  · exact h1 w (List.mem_filter.mpr ⟨hw, g⟩)
  · refine h3 w (h2 w (List.mem_filter.mpr ⟨hw, ?_⟩))
    show (!goodWord w) = true
    cases hgw : goodWord w
    · rfl
    · exact absurd hgw g
theorem vx_c {args : Array Value} {s : State} {w : Cond} {B : List Cond} (h : w.before args s = true) (t : ∀ w ∈ B, w.before args s = true) : ∀ w' ∈ w :: B, w'.before args s = true := fun w' h' => (List.mem_cons.mp h').elim (fun e => by rw [e]; exact h) (t w')
theorem vx_n {args : Array Value} {s : State} : ∀ w ∈ ([] : List Cond), w.before args s = true := fun _ h => nomatch h
theorem vx_own {args : Array Value} {s : State} {L : List Cond} (h1 : ∀ w ∈ L.filter vx_no, w.before args s = true)
    (hU : (Cond.isRef (.static Bundle.tN "UNASSIGNED_STACK" Bundle.steD)).before args s = true) (hN : (Cond.isRef (.static Bundle.tN "SUPPRESSED_SENTINEL" Bundle.listD)).before args s = true)
    (lU : (Cond.laysStatic Bundle.tN "UNASSIGNED_STACK" Bundle.steD).before args s = true) (lN : (Cond.laysStatic Bundle.tN "SUPPRESSED_SENTINEL" Bundle.listD).before args s = true) : ∀ w ∈ L, w.before args s = true := by
  intro w hw
  by_cases e1 : w = .isRef (.static Bundle.tN "UNASSIGNED_STACK" Bundle.steD)
  · rw [e1]; exact hU
  · by_cases e2 : w = .isRef (.static Bundle.tN "SUPPRESSED_SENTINEL" Bundle.listD)
    · rw [e2]; exact hN
    · by_cases e3 : w = .laysStatic Bundle.tN "UNASSIGNED_STACK" Bundle.steD
      · rw [e3]; exact lU
      · by_cases e4 : w = .laysStatic Bundle.tN "SUPPRESSED_SENTINEL" Bundle.listD
        · rw [e4]; exact lN
        · exact h1 w (List.mem_filter.mpr ⟨hw, by unfold vx_no; rw [decide_eq_true e1, decide_eq_true e2, decide_eq_true e3, decide_eq_true e4]; rfl⟩)
/-- where a static field lies, its class's statics cell in H -/
def vx_L (C n d : String) (A : Nat → Prop) (U : State) (H : Heap) : Prop := ∃ (c : ClassId) (k : Class) (i : Nat) (f : Field) (a : Nat) (cell : Cell), U.vm.findClass C = some c ∧ U.fieldFound? C n d = some (c, k, i, f) ∧ f.isStatic = true ∧ k.statics = some a ∧ H[a]? = some cell ∧ cell.vm.isStatics = true ∧ cell.cls = c ∧ f.slot < cell.slots.size ∧ k.staticTypes[f.slot]? = some f.type ∧ ¬ A a
theorem vx_L.moved {C n d : String} {A : Nat → Prop} {u U : State} {H : Heap} (hvm : u.vm.Alike U.vm) (h : vx_L C n d A u H) : vx_L C n d A U H := by
  obtain ⟨c, k, i, f, a, cell, h1, h2, h3, h4, h5, h6, h7, h8, h9, h10⟩ := h
  obtain ⟨k', hi', he⟩ := State.fieldFound?_setVm hvm h2
  exact ⟨c, k', i, f, a, cell, by rw [hvm.findClass]; exact h1, hi', h3, by rw [he]; exact h4, h5, h6, h7, h8, by rw [he]; exact h9, h10⟩
theorem vx_L.kept {C n d : String} {A : Nat → Prop} {U : State} {H H1 : Heap} (h : vx_L C n d A U H) (hq : ∀ a : Nat, a < H.size → ¬ A a → H1[a]? = H[a]?) : vx_L C n d A U H1 := by
  obtain ⟨c, k, i, f, a, cell, h1, h2, h3, h4, h5, h6, h7, h8, h9, h10⟩ := h
  exact ⟨c, k, i, f, a, cell, h1, h2, h3, h4, by rw [hq a (Array.getElem?_eq_some_iff.mp h5).1 h10]; exact h5, h6, h7, h8, h9, h10⟩
theorem vx_L.narrow {C n d : String} {A B : Nat → Prop} {U : State} {H : Heap} (h : vx_L C n d A U H) (hAB : ∀ q, B q → A q) : vx_L C n d B U H := by
  obtain ⟨c, k, i, f, a, cell, h1, h2, h3, h4, h5, h6, h7, h8, h9, h10⟩ := h
  exact ⟨c, k, i, f, a, cell, h1, h2, h3, h4, h5, h6, h7, h8, h9, fun z => h10 (hAB _ z)⟩
theorem vx_L.word {C n d : String} {A : Nat → Prop} {s : State} {args : Array Value} (h : vx_L C n d A s s.heap) : (Cond.laysStatic C n d).before args s = true := by
  obtain ⟨c, k, i, f, a, cell, h1, h2, h3, h4, h5, h6, h7, h8, h9, -⟩ := h
  show (Cond.laysStatic C n d).holds args s none s [] = true
  exact Cond.laysStatic_of h1 h2 h3 h4 h5 h6 h7 h8 h9
/-- .. and what it holds: null or some reference -/
def vx_Zq (C n d : String) (A : Nat → Prop) (U : State) (H : Heap) : Prop := va_Zq C n d A U H ∧ vx_L C n d A U H
theorem vx_Zq.moved {C n d : String} {A : Nat → Prop} {u U : State} {H : Heap} (hvm : u.vm.Alike U.vm) (h : vx_Zq C n d A u H) : vx_Zq C n d A U H := ⟨va_Zq.moved hvm h.1, vx_L.moved hvm h.2⟩
theorem vx_Zq.kept {C n d : String} {A : Nat → Prop} {U : State} {H H1 : Heap} (h : vx_Zq C n d A U H) (hq : ∀ a : Nat, a < H.size → ¬ A a → H1[a]? = H[a]?) : vx_Zq C n d A U H1 := ⟨va_Zq.kept h.1 hq, vx_L.kept h.2 hq⟩
theorem vx_Zq.narrow {C n d : String} {A B : Nat → Prop} {U : State} {H : Heap} (h : vx_Zq C n d A U H) (hAB : ∀ q, B q → A q) : vx_Zq C n d B U H := ⟨va_Zq.narrow h.1 hAB, vx_L.narrow h.2 hAB⟩
theorem vx_Zqof {args : Array Value} {s : State} {C n d : String} {A : Nat → Prop} (hl : (Cond.laysStatic C n d).before args s = true) (hini : (Cond.initialized C).before args s = true) (h : (Cond.isRef (.static C n d)).before args s = true) (hA : ∀ a : Nat, a < s.heap.size → ¬ A a) : vx_Zq C n d A s s.heap := by
  refine ⟨va_Zqof hl hini h hA, ?_⟩
  obtain ⟨c, k, i, f, a, cell, h1, h2, h3, h4, h5, h6, h7, h8, h9⟩ := Cond.laysStatic_spec hl
  exact ⟨c, k, i, f, a, cell, h1, h2, h3, h4, h5, h6, h7, h8, h9, hA a (Array.getElem?_eq_some_iff.mp h5).1⟩
theorem vx_isRef {C n d : String} {v : Value} {A : Nat → Prop} {s : State} {args : Array Value} (h : va_Z C n d v A s s.heap) (hv : v.isRef = true) : (Cond.isRef (.static C n d)).before args s = true := by
  obtain ⟨cf, kf, fi, f, a, cell, h1, h2, h3, h4, h5, h6, h7, -⟩ := h
  have he : (Term.static C n d).eval args s none [] s = some v := by
    simp [Term.eval, State.fieldNamed?, h1, h2, h4, h5, h6, h7]
  simp only [Cond.before, Cond.holds, Cond.value, he]
  cases v <;> simp_all [Value.isRef]
theorem vx_isRefq {C n d : String} {A : Nat → Prop} {s : State} {args : Array Value} (h : va_Zq C n d A s s.heap) : (Cond.isRef (.static C n d)).before args s = true := by
  rcases h with h | ⟨t, h⟩
  · exact vx_isRef h rfl
  · exact vx_isRef h rfl
/-- the same frame, seen from here: as if the method were called anew in this heap -/
theorem vx_rebase {T : State} (X : Stand p l e R s m args below meth c T locs cells slots) {R' : Room} (hf : R'.frames ≤ R.frames) (hl : R'.locals ≤ R.locals) (hc : cells + R'.cells ≤ R.cells) (hs : slots + R'.slots ≤ R.slots) :
    Stand p l e R' ((T.setVm s.vm).setFrames (.invoking m args :: below)) m args below meth c T [] 0 0 := by
  have htop : (T.setVm s.vm).topJava?.isSome := X.here.top
  have hF : ((T.setVm s.vm).setFrames (.invoking m args :: below)).frames = .invoking m args :: below := State.frames_setFrames _ (State.cur_lt_of_top htop)
  obtain ⟨g₀, hg0⟩ := Option.isSome_iff_exists.mp htop
  obtain ⟨r, hr⟩ := State.topJava?_eq_some.mp hg0
  have hl9 : e.platform.stackLimits (T.setVm s.vm).me = e.platform.stackLimits s.me := X.limits
  have hb9 : (T.setVm s.vm).me.stackBytes = s.me.stackBytes := X.bytes
  refine ⟨X.admits, X.cas, X.clock, hF, ?_, X.hears, X.method, X.code, X.here, X.tail, X.warmed, ?_, ?_, ?_⟩
  · have h := X.room
    have hU : ((T.setVm s.vm).setFrames (.invoking m args :: below)).localsInUse = s.localsInUse := by
      rw [State.localsInUse_invoking hF (meth := meth) (c := c) X.method X.code, State.localsInUse_invoking X.frames X.method X.code]
    simp only [State.hasRoom, Bool.and_eq_true, decide_eq_true_eq] at h ⊢
    obtain ⟨⟨⟨⟨h1, h2, h3, h4, h5, h6⟩, h7⟩, h8⟩, h9⟩ := h
    rw [X.frames, List.length_cons] at h2 h3
    have q1 := X.heapSize
    have q2 := X.used
    simp only [hF, hU, List.length_cons, State.stackLimits_setFrames, State.stackBytes_setFrames, hl9, hb9]
    refine ⟨⟨⟨⟨by omega, by omega, by omega, by omega, by omega, h6⟩, ?_⟩, ?_⟩, X.book⟩
    · show T.heap.size + R'.cells ≤ e.platform.maxCells
      omega
    · show T.slotsUsed + R'.slots ≤ e.platform.maxSlots
      omega
  · rw [State.stackLimits_setFrames]; rfl
  · rw [State.stackBytes_setFrames]; rfl
  · refine ⟨?_, Nat.le_refl _, Nat.le_refl _, ?_, ?_, fun a c9 h9 => ⟨c9, h9, rfl, rfl, fun _ _ => rfl⟩⟩
    · obtain ⟨t, ht, -⟩ := State.frames_cons hr
      show T.setVm s.vm = { ((T.setVm s.vm).setFrames (.invoking m args :: below)).setFrames (T.setVm s.vm).frames with heap := T.heap, slotsUsed := T.slotsUsed }
      rw [State.setFrames_setFrames, State.setFrames_self ht]
      rfl
    · show T.slotsUsed = T.slotsUsed + ((T.heap.toList.drop T.heap.size).map (·.slots.size)).sum
      rw [List.drop_eq_nil_of_le (Nat.le_of_eq Array.length_toList)]
      rfl
    · show ((T.heap.toList.drop T.heap.size).map (·.slots.size)).sum ≤ 0
      rw [List.drop_eq_nil_of_le (Nat.le_of_eq Array.length_toList)]
      exact Nat.le_refl _
/-- 'throw new E()': new; dup; invokespecial; athrow -/
theorem vx_throw0 {cc : ByteArray} {pc : Nat} (hexec : p.tables.exec = Jvm.exec) (hb : c.code = cc) (hl : l.stackTraces = false) {own cls : String} {names : List String} {ik ic mc ms : Nat} {A : Nat → Prop}
    (hown : s.vm.findClass own = some m.cls) (hcls : Bundle.fit cls = true) (hnames : ∀ n ∈ names, Bundle.fit n = true)
    (hk : (Cond.classLink own ik cls).before args s = true) (hini : (Cond.initialized cls).before args s = true) (hat : ∀ w ∈ vx_at0 own ic cls names, w.before args s = true)
    (hgood : ∀ w ∈ Cond.classLink own ik cls :: Cond.initialized cls :: vx_at0 own ic cls names, vx_ot w = true)
    (hU : vx_Zq Bundle.tN "UNASSIGNED_STACK" Bundle.steD A s s.heap) (hN : vx_Zq Bundle.tN "SUPPRESSED_SENTINEL" Bundle.listD A s s.heap) (hS : va_S A s.heap H locs) (hsize : ls.size = c.maxLocals)
    (d0 : decode cc pc = .ok (.new ik, 3)) (d3 : decode cc (pc + 3) = .ok (.dup, 1)) (d4 : decode cc (pc + 4) = .ok (.invokespecial ic, 3)) (d7 : decode cc (pc + 7) = .ok (.athrow, 1))
    (hout : ∀ x ∈ c.exceptionTable.toList, covers x (pc + 7) = false)
    (hRframes : names.length + 3 < R.frames) (hRlocals : (rest.map fun v => v.category).sum + (13 * (names.length + 1) + 42) ≤ R.locals) (hRcells : cells + 1 ≤ R.cells) (hRslots : slots + 6 ≤ R.slots) (hlocks : meth.locks = false)
    (hx : ∀ t : State, s.vm.Alike t.vm → H.size ≤ t.heap.size → (∀ q : Nat, q < H.size → t.heap[q]? = H[q]?) → XC cls s t)
    (hf : ∀ z ∈ locs, free z.base) (hc : cells + 1 ≤ mc) (hs : slots + 6 ≤ ms) :
    W p l e R s m args below meth c H locs cells slots (vx_MQ below Qc XC args s mc ms free) (F0 m pc ls rest) := by
  intro T hT X
  have htr : e.platform.stackTraces = false := (show e.platform.stackTraces = l.stackTraces by rw [X.admits.platform]).trans hl
  have Y := vx_rebase X (R' := { frames := R.frames, locals := R.locals, cells := 1, slots := 6 }) (Nat.le_refl _) (Nat.le_refl _) hRcells hRslots
  obtain ⟨s', hA⟩ : ∃ z, z = (T.setVm s.vm).setFrames (.invoking m args :: below) := ⟨_, rfl⟩
  rw [← hA] at Y
  have hvm : s'.vm = s.vm := by rw [hA]; rfl
  have hhp : s'.heap = H := by rw [hA]; exact hT
  have hW0 : s.WarmedH s'.vm := by rw [hvm]; exact State.WarmedH.refl s
  have hat' : ∀ w ∈ vx_at0 own ic cls names, w.before args s' = true := fun w hw => vx_ot_at hW0 hvm.symm (hgood w (List.mem_cons_of_mem _ (List.mem_cons_of_mem _ hw))) (hat w hw)
  have hk' : (Cond.classLink own ik cls).before args s' = true := vx_ot_at hW0 hvm.symm (hgood _ List.mem_cons_self) hk
  have hini' : (Cond.initialized cls).before args s' = true := vx_ot_at hW0 hvm.symm (hgood _ (List.mem_cons_of_mem _ List.mem_cons_self)) hini
  have hU' : vx_Zq Bundle.tN "UNASSIGNED_STACK" Bundle.steD A s' s'.heap := by rw [hhp]; exact vx_Zq.moved hW0.alike (hU.kept hS.2.1)
  have hN' : vx_Zq Bundle.tN "SUPPRESSED_SENTINEL" Bundle.listD A s' s'.heap := by rw [hhp]; exact vx_Zq.moved hW0.alike (hN.kept hS.2.1)
  have h : ∀ w ∈ Bundle.ownAtoms0 own ic cls names, w.before args s' = true := vx_own hat' (vx_isRefq hU'.1) (vx_isRefq hN'.1) hU'.2.word hN'.2.word
  have hown' : s'.vm.findClass own = some m.cls := by rw [hvm]; exact hown
  have hins : (Cond.instantiable cls 6).before args s' = true := h _ (by simp [Bundle.ownAtoms0])
  obtain ⟨vm₁, cX, kX, hfX, hkX, -, -, X₁, st1⟩ := Y.newCold hexec (own := own) (C := cls) (index := ik) (n := 6) hown' hk' hins hini'
    (g := F0 m pc ls rest) rfl (by rw [hb]; exact d0) (Nat.le_refl _) (Nat.le_refl _)
  generalize hT1 : (T.setVm vm₁).pushCell { cls := cX, slots := kX.instanceTypes.map defaultValue, vm := .none } = T1 at X₁ st1
  have hcat : (Value.ref T.heap.size).category = 1 := rfl
  have hcellA : T1.heap[T.heap.size]? = some (freshCell cX kX) := by rw [← hT1]; exact State.heap_pushCell_size _ _
  have d3' : decode c.code (pc + 3) = .ok (.dup, 1) := by rw [hb]; exact d3
  obtain ⟨U, hsteps, hrun, hend, hW, hsame, ce, hce, hO⟩ := X₁.ctorThrow0 hexec htr (own := own) (cls := cls) (names := names) (ic := ic) hown' hcls hnames h (fun x hx => nomatch hx) hfX hkX hcellA (by rw [hhp, hT]; exact Nat.le_refl _)
    (g := { method := m, pc := pc + 4, locals := ls, stack := .ref T.heap.size :: .ref T.heap.size :: rest, locked := none }) rfl hsize rfl rfl (rest := rest) rfl
    (by rw [hb]; exact d4) (by rw [hb]; exact d7) hout hRframes (by simp only [List.map_cons, List.sum_cons, hcat]; omega) hlocks
  obtain ⟨f1, f2⟩ := vx_frame hsame
  rw [hhp] at f1 f2
  have hWs : s.WarmedH U.vm := State.WarmedH.trans hW0 hW
  have hcl : s.vm.findClass cls = some ce.cls := by
    have h9 := hO.cls
    rw [hvm] at h9
    exact h9
  have hall : s.sameButNew ({ U with vm := s.vm } : State) locs mc ms := by
    subst hA
    obtain ⟨e1, e2⟩ := hsame
    rw [State.setFrames_setFrames] at e1
    have h2 : (T.setVm s.vm).sameButNew ({ U with vm := s.vm } : State) [] (0 + 1) (0 + 6) := ⟨e1, e2⟩
    have h3 := X.same.trans h2
    rw [List.append_nil] at h3
    exact h3.mono hc hs
  refine ⟨U, ?_, .threw T.heap.size, hrun, hend, Or.inr ⟨T.heap.size, rfl, cls, ce, locs, hx U hWs.alike f1 (fun q hq => f2 q hq (fun z hz => nomatch hz)), hce, hO.vm, hcl, hWs, hall, hf⟩⟩
  refine st1 _ ?_
  show Steps p.tables e below (T1.setTop { method := m, pc := pc + 3, locals := ls, stack := .ref T.heap.size :: rest, locked := none }) _
  jvm_step X₁.here [X₁.here.top, hexec, d3', Value.category]
  exact hsteps
/-- 'throw new E("text")': new; dup; ldc; invokespecial; athrow -/
theorem vx_throwS {cc : ByteArray} {pc : Nat} (hexec : p.tables.exec = Jvm.exec) (hb : c.code = cc) (hl : l.stackTraces = false) {own cls text : String} {names : List String} {ik is ic mc ms sa : Nat} {A : Nat → Prop}
    (hown : s.vm.findClass own = some m.cls) (hcls : Bundle.fit cls = true) (hnames : ∀ n ∈ names, Bundle.fit n = true)
    (hk : (Cond.classLink own ik cls).before args s = true) (hini : (Cond.initialized cls).before args s = true) (hstr : vk_R own is text sa s) (hat : ∀ w ∈ vx_atS own ic cls names, w.before args s = true)
    (hgood : ∀ w ∈ Cond.classLink own ik cls :: Cond.initialized cls :: vx_atS own ic cls names, vx_ot w = true)
    (hU : vx_Zq Bundle.tN "UNASSIGNED_STACK" Bundle.steD A s s.heap) (hN : vx_Zq Bundle.tN "SUPPRESSED_SENTINEL" Bundle.listD A s s.heap) (hS : va_S A s.heap H locs) (hsize : ls.size = c.maxLocals)
    (d0 : decode cc pc = .ok (.new ik, 3)) (d3 : decode cc (pc + 3) = .ok (.dup, 1)) (d4 : decode cc (pc + 4) = .ok (.ldc is, 2)) (d6 : decode cc (pc + 6) = .ok (.invokespecial ic, 3)) (d9 : decode cc (pc + 9) = .ok (.athrow, 1))
    (hout : ∀ x ∈ c.exceptionTable.toList, covers x (pc + 9) = false)
    (hRframes : names.length + 3 < R.frames) (hRlocals : (rest.map fun v => v.category).sum + (13 * (names.length + 1) + 43) ≤ R.locals) (hRcells : cells + 1 ≤ R.cells) (hRslots : slots + 6 ≤ R.slots) (hlocks : meth.locks = false)
    (hx : ∀ t : State, s.vm.Alike t.vm → H.size ≤ t.heap.size → (∀ q : Nat, q < H.size → t.heap[q]? = H[q]?) → XC cls s t)
    (hf : ∀ z ∈ locs, free z.base) (hc : cells + 1 ≤ mc) (hs : slots + 6 ≤ ms) :
    W p l e R s m args below meth c H locs cells slots (vx_MQ below Qc XC args s mc ms free) (F0 m pc ls rest) := by
  intro T hT X
  have htr : e.platform.stackTraces = false := (show e.platform.stackTraces = l.stackTraces by rw [X.admits.platform]).trans hl
  have Y := vx_rebase X (R' := { frames := R.frames, locals := R.locals, cells := 1, slots := 6 }) (Nat.le_refl _) (Nat.le_refl _) hRcells hRslots
  obtain ⟨s', hA⟩ : ∃ z, z = (T.setVm s.vm).setFrames (.invoking m args :: below) := ⟨_, rfl⟩
  rw [← hA] at Y
  have hvm : s'.vm = s.vm := by rw [hA]; rfl
  have hhp : s'.heap = H := by rw [hA]; exact hT
  have hW0 : s.WarmedH s'.vm := by rw [hvm]; exact State.WarmedH.refl s
  have hat' : ∀ w ∈ vx_atS own ic cls names, w.before args s' = true := fun w hw => vx_ot_at hW0 hvm.symm (hgood w (List.mem_cons_of_mem _ (List.mem_cons_of_mem _ hw))) (hat w hw)
  have hk' : (Cond.classLink own ik cls).before args s' = true := vx_ot_at hW0 hvm.symm (hgood _ List.mem_cons_self) hk
  have hini' : (Cond.initialized cls).before args s' = true := vx_ot_at hW0 hvm.symm (hgood _ (List.mem_cons_of_mem _ List.mem_cons_self)) hini
  have hU' : vx_Zq Bundle.tN "UNASSIGNED_STACK" Bundle.steD A s' s'.heap := by rw [hhp]; exact vx_Zq.moved hW0.alike (hU.kept hS.2.1)
  have hN' : vx_Zq Bundle.tN "SUPPRESSED_SENTINEL" Bundle.listD A s' s'.heap := by rw [hhp]; exact vx_Zq.moved hW0.alike (hN.kept hS.2.1)
  have h : ∀ w ∈ Bundle.ownAtoms own ic cls names, w.before args s' = true := vx_own hat' (vx_isRefq hU'.1) (vx_isRefq hN'.1) hU'.2.word hN'.2.word
  have hown' : s'.vm.findClass own = some m.cls := by rw [hvm]; exact hown
  have hins : (Cond.instantiable cls 6).before args s' = true := h _ (by simp [Bundle.ownAtoms])
  obtain ⟨vm₁, cX, kX, hfX, hkX, -, -, X₁, st1⟩ := Y.newCold hexec (own := own) (C := cls) (index := ik) (n := 6) hown' hk' hins hini'
    (g := F0 m pc ls rest) rfl (by rw [hb]; exact d0) (Nat.le_refl _) (Nat.le_refl _)
  generalize hT1 : (T.setVm vm₁).pushCell { cls := cX, slots := kX.instanceTypes.map defaultValue, vm := .none } = T1 at X₁ st1
  have hcat : (Value.ref T.heap.size).category = 1 := rfl
  have hcellA : T1.heap[T.heap.size]? = some (freshCell cX kX) := by rw [← hT1]; exact State.heap_pushCell_size _ _
  have d3' : decode c.code (pc + 3) = .ok (.dup, 1) := by rw [hb]; exact d3
  have d4' : decode c.code (pc + 4) = .ok (.ldc is, 2) := by rw [hb]; exact d4
  have hstr' : vk_R own is text sa s' := vk_R.warm hW0 hstr
  obtain ⟨U, hsteps, hrun, hend, hW, hsame, ce, hce, hO⟩ := X₁.ctorThrowS hexec htr (own := own) (cls := cls) (names := names) (ic := ic) hown' hcls hnames h (fun x hx => nomatch hx) hfX hkX hcellA (by rw [hhp, hT]; exact Nat.le_refl _) (msg := .ref sa) rfl
    (g := { method := m, pc := pc + 6, locals := ls, stack := .ref sa :: .ref T.heap.size :: .ref T.heap.size :: rest, locked := none }) rfl hsize rfl rfl (rest := rest) rfl
    (by rw [hb]; exact d6) (by rw [hb]; exact d9) hout hRframes (by simp only [List.map_cons, List.sum_cons, hcat]; omega) hlocks
  obtain ⟨f1, f2⟩ := vx_frame hsame
  rw [hhp] at f1 f2
  have hWs : s.WarmedH U.vm := State.WarmedH.trans hW0 hW
  have hcl : s.vm.findClass cls = some ce.cls := by
    have h9 := hO.cls
    rw [hvm] at h9
    exact h9
  have hall : s.sameButNew ({ U with vm := s.vm } : State) locs mc ms := by
    subst hA
    obtain ⟨e1, e2⟩ := hsame
    rw [State.setFrames_setFrames] at e1
    have h2 : (T.setVm s.vm).sameButNew ({ U with vm := s.vm } : State) [] (0 + 1) (0 + 6) := ⟨e1, e2⟩
    have h3 := X.same.trans h2
    rw [List.append_nil] at h3
    exact h3.mono hc hs
  refine ⟨U, ?_, .threw T.heap.size, hrun, hend, Or.inr ⟨T.heap.size, rfl, cls, ce, locs, hx U hWs.alike f1 (fun q hq => f2 q hq (fun z hz => nomatch hz)), hce, hO.vm, hcl, hWs, hall, hf⟩⟩
  refine st1 _ ?_
  show Steps p.tables e below (T1.setTop { method := m, pc := pc + 3, locals := ls, stack := .ref T.heap.size :: rest, locked := none }) _
  jvm_step X₁.here [X₁.here.top, hexec, d3', Value.category]
  exact X₁.ldcString hexec (own := own) (text := text) (index := is) (a := sa) hown' hstr'.1 hstr'.2
    (g := { method := m, pc := pc + 4, locals := ls, stack := .ref T.heap.size :: .ref T.heap.size :: rest, locked := none }) rfl d4' _ hsteps
/-- 'throw new E("text")', the text by a wide index -/
theorem vx_throwSW {cc : ByteArray} {pc : Nat} (hexec : p.tables.exec = Jvm.exec) (hb : c.code = cc) (hl : l.stackTraces = false) {own cls text : String} {names : List String} {ik is ic mc ms sa : Nat} {A : Nat → Prop}
    (hown : s.vm.findClass own = some m.cls) (hcls : Bundle.fit cls = true) (hnames : ∀ n ∈ names, Bundle.fit n = true)
    (hk : (Cond.classLink own ik cls).before args s = true) (hini : (Cond.initialized cls).before args s = true) (hstr : vk_R own is text sa s) (hat : ∀ w ∈ vx_atS own ic cls names, w.before args s = true)
    (hgood : ∀ w ∈ Cond.classLink own ik cls :: Cond.initialized cls :: vx_atS own ic cls names, vx_ot w = true)
    (hU : vx_Zq Bundle.tN "UNASSIGNED_STACK" Bundle.steD A s s.heap) (hN : vx_Zq Bundle.tN "SUPPRESSED_SENTINEL" Bundle.listD A s s.heap) (hS : va_S A s.heap H locs) (hsize : ls.size = c.maxLocals)
    (d0 : decode cc pc = .ok (.new ik, 3)) (d3 : decode cc (pc + 3) = .ok (.dup, 1)) (d4 : decode cc (pc + 4) = .ok (.ldc_w is, 3)) (d7 : decode cc (pc + 7) = .ok (.invokespecial ic, 3)) (d10 : decode cc (pc + 10) = .ok (.athrow, 1))
    (hout : ∀ x ∈ c.exceptionTable.toList, covers x (pc + 10) = false)
    (hRframes : names.length + 3 < R.frames) (hRlocals : (rest.map fun v => v.category).sum + (13 * (names.length + 1) + 43) ≤ R.locals) (hRcells : cells + 1 ≤ R.cells) (hRslots : slots + 6 ≤ R.slots) (hlocks : meth.locks = false)
    (hx : ∀ t : State, s.vm.Alike t.vm → H.size ≤ t.heap.size → (∀ q : Nat, q < H.size → t.heap[q]? = H[q]?) → XC cls s t)
    (hf : ∀ z ∈ locs, free z.base) (hc : cells + 1 ≤ mc) (hs : slots + 6 ≤ ms) :
    W p l e R s m args below meth c H locs cells slots (vx_MQ below Qc XC args s mc ms free) (F0 m pc ls rest) := by
  intro T hT X
  have htr : e.platform.stackTraces = false := (show e.platform.stackTraces = l.stackTraces by rw [X.admits.platform]).trans hl
  have Y := vx_rebase X (R' := { frames := R.frames, locals := R.locals, cells := 1, slots := 6 }) (Nat.le_refl _) (Nat.le_refl _) hRcells hRslots
  obtain ⟨s', hA⟩ : ∃ z, z = (T.setVm s.vm).setFrames (.invoking m args :: below) := ⟨_, rfl⟩
  rw [← hA] at Y
  have hvm : s'.vm = s.vm := by rw [hA]; rfl
  have hhp : s'.heap = H := by rw [hA]; exact hT
  have hW0 : s.WarmedH s'.vm := by rw [hvm]; exact State.WarmedH.refl s
  have hat' : ∀ w ∈ vx_atS own ic cls names, w.before args s' = true := fun w hw => vx_ot_at hW0 hvm.symm (hgood w (List.mem_cons_of_mem _ (List.mem_cons_of_mem _ hw))) (hat w hw)
  have hk' : (Cond.classLink own ik cls).before args s' = true := vx_ot_at hW0 hvm.symm (hgood _ List.mem_cons_self) hk
  have hini' : (Cond.initialized cls).before args s' = true := vx_ot_at hW0 hvm.symm (hgood _ (List.mem_cons_of_mem _ List.mem_cons_self)) hini
  have hU' : vx_Zq Bundle.tN "UNASSIGNED_STACK" Bundle.steD A s' s'.heap := by rw [hhp]; exact vx_Zq.moved hW0.alike (hU.kept hS.2.1)
  have hN' : vx_Zq Bundle.tN "SUPPRESSED_SENTINEL" Bundle.listD A s' s'.heap := by rw [hhp]; exact vx_Zq.moved hW0.alike (hN.kept hS.2.1)
  have h : ∀ w ∈ Bundle.ownAtoms own ic cls names, w.before args s' = true := vx_own hat' (vx_isRefq hU'.1) (vx_isRefq hN'.1) hU'.2.word hN'.2.word
  have hown' : s'.vm.findClass own = some m.cls := by rw [hvm]; exact hown
  have hins : (Cond.instantiable cls 6).before args s' = true := h _ (by simp [Bundle.ownAtoms])
  obtain ⟨vm₁, cX, kX, hfX, hkX, -, -, X₁, st1⟩ := Y.newCold hexec (own := own) (C := cls) (index := ik) (n := 6) hown' hk' hins hini'
    (g := F0 m pc ls rest) rfl (by rw [hb]; exact d0) (Nat.le_refl _) (Nat.le_refl _)
  generalize hT1 : (T.setVm vm₁).pushCell { cls := cX, slots := kX.instanceTypes.map defaultValue, vm := .none } = T1 at X₁ st1
  have hcat : (Value.ref T.heap.size).category = 1 := rfl
  have hcellA : T1.heap[T.heap.size]? = some (freshCell cX kX) := by rw [← hT1]; exact State.heap_pushCell_size _ _
  have d3' : decode c.code (pc + 3) = .ok (.dup, 1) := by rw [hb]; exact d3
  have d4' : decode c.code (pc + 4) = .ok (.ldc_w is, 3) := by rw [hb]; exact d4
  have hstr' : vk_R own is text sa s' := vk_R.warm hW0 hstr
  obtain ⟨U, hsteps, hrun, hend, hW, hsame, ce, hce, hO⟩ := X₁.ctorThrowS hexec htr (own := own) (cls := cls) (names := names) (ic := ic) hown' hcls hnames h (fun x hx => nomatch hx) hfX hkX hcellA (by rw [hhp, hT]; exact Nat.le_refl _) (msg := .ref sa) rfl
    (g := { method := m, pc := pc + 7, locals := ls, stack := .ref sa :: .ref T.heap.size :: .ref T.heap.size :: rest, locked := none }) rfl hsize rfl rfl (rest := rest) rfl
    (by rw [hb]; exact d7) (by rw [hb]; exact d10) hout hRframes (by simp only [List.map_cons, List.sum_cons, hcat]; omega) hlocks
  obtain ⟨f1, f2⟩ := vx_frame hsame
  rw [hhp] at f1 f2
  have hWs : s.WarmedH U.vm := State.WarmedH.trans hW0 hW
  have hcl : s.vm.findClass cls = some ce.cls := by
    have h9 := hO.cls
    rw [hvm] at h9
    exact h9
  have hall : s.sameButNew ({ U with vm := s.vm } : State) locs mc ms := by
    subst hA
    obtain ⟨e1, e2⟩ := hsame
    rw [State.setFrames_setFrames] at e1
    have h2 : (T.setVm s.vm).sameButNew ({ U with vm := s.vm } : State) [] (0 + 1) (0 + 6) := ⟨e1, e2⟩
    have h3 := X.same.trans h2
    rw [List.append_nil] at h3
    exact h3.mono hc hs
  refine ⟨U, ?_, .threw T.heap.size, hrun, hend, Or.inr ⟨T.heap.size, rfl, cls, ce, locs, hx U hWs.alike f1 (fun q hq => f2 q hq (fun z hz => nomatch hz)), hce, hO.vm, hcl, hWs, hall, hf⟩⟩
  refine st1 _ ?_
  show Steps p.tables e below (T1.setTop { method := m, pc := pc + 3, locals := ls, stack := .ref T.heap.size :: rest, locked := none }) _
  jvm_step X₁.here [X₁.here.top, hexec, d3', Value.category]
  exact X₁.ldcStringW hexec (own := own) (text := text) (index := is) (a := sa) hown' hstr'.1 hstr'.2
    (g := { method := m, pc := pc + 4, locals := ls, stack := .ref T.heap.size :: .ref T.heap.size :: rest, locked := none }) rfl d4' _ hsteps
end Ends
section Bodies
variable {l : Launch}
theorem vx_ofW {y : MethodName} {ws ws' : List Cond} {rm : Room} {Pc : Array Value → State → Prop} {Qc : Array Value → State → Outcome → State → Prop} {XC : String → State → State → Prop} {mc ms : Nat} {free : Addr → Prop} {cc : ByteArray} {maxL : Nat} {ret : Option FieldType}
    (hy : plainName y.cls = true) (hw : ws = Cond.code y cc maxL ret :: ws')
    (body : ∀ p e s m args below meth c s₁, BodyLoose p l y (headSpec ws rm) cc maxL ret e s m args below meth c s₁ → c.maxLocals = maxL → (∀ x ∈ c.exceptionTable.toList, False) → Pc args s →
      W p l e (headSpec ws rm).room s m args below meth c s.heap [] 0 0 (vx_MQ below Qc XC args s mc ms free) (entryFrame m args maxL)) : vx_Met l y ws rm Pc Qc XC mc ms free := by
  refine MetFree.of_bodyS (code := cc) (maxLocals := maxL) (ret := ret) hy ?_ ?_
  · intro args s m h hn
    obtain ⟨meth, c, h1, h2, h3, h4, h5, h6, -, -⟩ := Cond.code_spec hn (atoms_spec (ws := ws) h _ (by rw [hw]; exact List.mem_cons_self))
    exact ⟨meth, c, h1, h2, h3, h4, h5, h6⟩
  · intro p e s m args below meth c s₁ B hml hP _
    have hh0 : s₁.heap = s.heap := by rw [B.state]; rfl
    have ht : ∀ x ∈ c.exceptionTable.toList, False := by
      obtain ⟨meth9, c9, h1, h2, -, -, -, -, h7, -⟩ := Cond.code_spec B.named (atoms_spec (ws := ws) B.pre _ (by rw [hw]; exact List.mem_cons_self))
      cases Option.some.inj (h1.symm.trans B.method)
      cases Option.some.inj (h2.symm.trans (Stand.of_body B).code)
      intro x hx
      rw [Array.isEmpty_iff.mp h7] at hx
      cases hx
    obtain ⟨t, a1, o, b1, b2, b3⟩ := body p e s m args below meth c s₁ B hml ht hP s₁ hh0 (Stand.of_body B)
    exact ⟨t, o, a1, b1, b2, b3⟩
/-- the table of a body with handlers -/
theorem vx_table {p : Program} {x y : MethodName} {S : Spec} {cc bytes : ByteArray} {maxL maxL' : Nat} {ret ret' : Option FieldType} {e : Env} {s s₁ : State} {m : MethodId} {args : Array Value} {below : List Frame} {meth : Method} {c : Code} {hh : List (Nat × Nat × Nat × Nat)}
    (B : BodyLoose p l y S cc maxL ret e s m args below meth c s₁) (h : (Cond.codeWith y bytes maxL' ret' hh).before args s = true) : c.exceptionTable.toList = tableOf hh := by
  obtain ⟨m9, meth9, c9, hn9, h1, h2, -, -, h6, -⟩ := Cond.codeWith_spec h
  cases Option.some.inj (hn9.symm.trans B.named)
  cases Option.some.inj (h1.symm.trans B.method)
  cases Option.some.inj (h2.symm.trans (Stand.of_body B).code)
  rw [← h6, table_eq]
end Bodies
end VXA
/-! ===== END ===== -/
/-! ===== BEGIN a static call of a method with an exception table ===== -/
section VXS
variable {p : Program} {l : Launch} {e : Env} {R : Room} {s : State} {m : MethodId} {args : Array Value} {below : List Frame} {meth : Method} {c : Code} {T : State} {H : Heap} {locs : List Loc} {cells slots : Nat}
abbrev vx_CSW (R : Room) (s : State) (args : Array Value) (own : String) (index : Nat) (y : MethodName) (bytes : ByteArray) (maxL : Nat) (ret : Option FieldType) (hh : List (Nat × Nat × Nat × Nat)) (ws : List Cond) (rm : Room) (mc ms n : Nat) : Prop :=
  (rm.cells = mc ∧ rm.slots = ms ∧ rm.frames + 1 ≤ R.frames ∧ 8 + (maxL + 11) + rm.locals ≤ R.locals ∧ (∀ w ∈ ws, ∀ (a' : Array Value) (U : State), s.WarmedH U.vm → w.before a' U = true) ∧ Cond.codeWith y bytes maxL ret hh ∈ ws) ∧
  (Cond.codeWith y bytes maxL ret hh).before args s = true ∧ (Cond.initialized y.cls).before args s = true ∧ (y.cls ≠ "java/lang/invoke/MethodHandle" ∧ y.cls ≠ "java/lang/invoke/VarHandle") ∧
  (∀ sig, parseMethodDescriptor y.desc = some sig → n = sig.parameters.length) ∧ (Cond.methodLink own index y).before args s = true ∧ (Cond.static y).before args s = true
theorem vx_cwSW {own : String} {index maxL mc ms : Nat} {y : MethodName} {bytes : ByteArray} {ret : Option FieldType} {hh : List (Nat × Nat × Nat × Nat)} {Ts ws ws' : List Cond} {rm : Room} (n : Nat) (ht : ∀ w ∈ Ts, w.before args s = true) (hT : GoodIn Ts (va_wsS own index y ws)) (hw : ws = Cond.codeWith y bytes maxL ret hh :: ws') (hrc : rm.cells = mc) (hrs : rm.slots = ms)
    (hd : y.cls ≠ "java/lang/invoke/MethodHandle" ∧ y.cls ≠ "java/lang/invoke/VarHandle" ∧ (parseMethodDescriptor y.desc).map (fun d => d.parameters.length) = some n) (hR : rm.frames + 1 ≤ R.frames ∧ 8 + (maxL + 11) + rm.locals ≤ R.locals) :
    vx_CSW R s args own index y bytes maxL ret hh ws rm mc ms n := by
  have ok : ∀ w ∈ va_wsS own index y ws, w.before args s = true := fun w h => ht w (hT w h).1
  have hG : GoodIn Ts ws := fun w h => hT w (by unfold va_wsS; exact List.mem_append_right _ h)
  have hc : Cond.codeWith y bytes maxL ret hh ∈ ws := by rw [hw]; exact List.mem_cons_self
  refine ⟨⟨hrc, hrs, hR.1, hR.2, pay_in ht hG, hc⟩, ht _ (hG _ hc).1, ok _ (by simp [va_wsS]), ⟨hd.1, hd.2.1⟩, fun sig h => ?_, ok _ (by simp [va_wsS]), ok _ (by simp [va_wsS])⟩
  have h2 := hd.2.2
  rw [h] at h2
  exact (Option.some.inj h2).symm
theorem vx_callSW (X : Stand p l e R s m args below meth c T locs cells slots) (hexec : p.tables.exec = Jvm.exec) {own : String} {index : Nat} {y : MethodName} {bytes : ByteArray} {maxL : Nat} {ret : Option FieldType} {hh : List (Nat × Nat × Nat × Nat)}
    (hown : s.vm.findClass own = some m.cls) (hlink : (Cond.methodLink own index y).before args s = true) (hstat : (Cond.static y).before args s = true) (hinit : (Cond.initialized y.cls).before args s = true)
    (hcode : (Cond.codeWith y bytes maxL ret hh).before args s = true) (hy : y.cls ≠ "java/lang/invoke/MethodHandle" ∧ y.cls ≠ "java/lang/invoke/VarHandle")
    {W9 : Nat} {Pre : Pt → Array Value → Prop} {Post : Pt → Array Value → Option Value → Pt → Prop} (hK : Back l R p e below s args y 3 W9 Pre Post)
    {g : JFrame} (hg : g.method = m) (hsize : g.locals.size = c.maxLocals) {argsL rest : List Value} (hlen : ∀ sig, parseMethodDescriptor y.desc = some sig → argsL.length = sig.parameters.length)
    (hstack : g.stack = argsL.reverse ++ rest) (hW : 2 * g.monitorRoom + (rest.map fun v => v.category).sum ≤ W9) (hdg : decode c.code g.pc = .ok (.invokestatic index, 3))
    (hpre : ∀ vm₁, s.WarmedH vm₁ → Pre ⟨T.setVm vm₁, locs, cells, slots⟩ argsL.toArray) :
    ∃ (v : Option Value) (vm₁ : Vm) (B : Pt), s.WarmedH vm₁ ∧ Stand p l e R s m args below meth c B.U B.locs B.cells B.slots ∧ Post ⟨T.setVm vm₁, locs, cells, slots⟩ argsL.toArray v B ∧
      ∀ target, Steps p.tables e below (B.U.setTop { g with pc := g.pc + 3, stack := v.toList ++ rest }) target → Steps p.tables e below (T.setTop g) target := by
  obtain ⟨mk, methM, cM, hnamed, hmethM, -, -, -, -, -, -, hsigM⟩ := Cond.codeWith_spec hcode
  have hstatic : methM.isStatic = true := Cond.static_spec hnamed hmethM hstat
  obtain ⟨kP, hkP, -⟩ := className_of_methodNamed hnamed
  have hinitP : kP.init = .initialized := Cond.initialized_spec (findClass_of_methodNamed hnamed) hkP hinit
  obtain ⟨vm₁, X₁, hstep₁⟩ := X.invokestatic hexec hown hlink hnamed hmethM hstatic hkP hinitP hy (g := g) hg (argsL := argsL) (rest := rest) (hlen _ hsigM) hstack hdg
  obtain ⟨v, B, X', hpost, hsteps⟩ := hK m meth c ⟨T.setVm vm₁, locs, cells, slots⟩ { g with stack := rest } (.invokestatic index) mk argsL.toArray X₁ hg hsize hdg hW (X₁.named hnamed) (hpre vm₁ X₁.warmed)
  exact ⟨v, vm₁, B, X₁.warmed, X', hpost, fun target h => hstep₁ _ fun acts => by rw [doInvoke_state]; exact hsteps.trans h⟩
theorem vx_runSW {y : MethodName} {bytes cc : ByteArray} {maxL nL mc ms n index : Nat} {ret : Option FieldType} {hh : List (Nat × Nat × Nat × Nat)} {ws : List Cond} {rm : Room} {Pc : Array Value → State → Prop} {Qc : Array Value → State → Outcome → State → Prop} {free : Addr → Prop} {Ts : List Cond} {own : String} {As rest : List Value} {g : JFrame}
    (S : CallFix p m c cc nL s args Ts own) (hM : Met l y ws rm Pc Qc mc ms free) (cw : vx_CSW R s args own index y bytes maxL ret hh ws rm mc ms n) (hp : PreS s H Pc As)
    (hg : g.method = m) (hn : As.length = n) (hsize : g.locals.size = nL) (hstack : g.stack = As.reverse ++ rest) (hW : 2 * g.monitorRoom + (rest.map fun v => v.category).sum ≤ 8) (hdg : decode cc g.pc = .ok (.invokestatic index, 3)) (hf : cells + mc ≤ R.cells ∧ slots + ms ≤ R.slots) :
    va_Run p l e R s m args below meth c H locs cells slots mc ms g rest (Qc As.toArray) (free) := by
  obtain ⟨⟨hrc, hrs, hfr, hlo, hws, hcw⟩, hcode, hini, hy, hlen, hl, hstt⟩ := cw
  have hK : Back l R p e below s args y 3 8 (PreOf R mc ms Pc) (PostOf Qc mc ms free) := va_backW (hh := hh) (bytes := bytes) (maxL := maxL) (ret := ret) hM hp.1 hrc hrs hfr hlo hws hcw (fun a' U hW => word_at hW (Or.inl (by first | rfl | simp [Cond.onTables, Cond.keeps, Cond.steady])) hini)
  obtain ⟨hx, hb, hml, ho, -⟩ := S
  intro T hT X
  obtain ⟨v, vm₁, ⟨U', l2, c2, s2⟩, hW₁, X', ⟨g', mk, t, L, e1, e2, hq, h1, hL, h2, h3⟩, st⟩ := vx_callSW X hx (hh := hh) (bytes := bytes) (maxL := maxL) (ret := ret) ho hl hstt hini hcode hy hK hg (hsize.trans hml.symm) (argsL := As) (rest := rest) (fun sig h => hn.trans (hlen sig h)) hstack hW (by rw [hb]; exact hdg)
    (fun vm₁ hW₁ => ⟨hf.1, hf.2, hp.2 (T.setVm vm₁) hT hW₁⟩)
  dsimp only [Pt.U, Pt.locs, Pt.cells, Pt.slots] at X' e1 e2 h1 h2 h3 st
  subst h1; subst h2; subst h3
  exact ⟨v, (T.setVm vm₁).calling g' mk As.toArray, t, U', L, hT, X', hL, e1, e2, hq, st⟩
/-- not caught here, past rows that name other classes: it goes on to the caller -/
theorem vx_outP {p : Program} {l : Launch} {e : Env} {R : Room} {s : State} {m : MethodId} {args : Array Value} {below : List Frame} {meth : Method} {c : Code} {H : Heap} {locs : List Loc} {cells slots : Nat} {free : Addr → Prop} {ls : Array Slot} {rest : List Value} {Qc : Array Value → State → Outcome → State → Prop} {XC : String → State → State → Prop}
    {pc : Nat} {own E : String} {ce : Cell} {q : Addr} {mc ms : Nat} (hown : s.vm.findClass own = some m.cls) (hlocks : meth.locks = false)
    (hpass : ∀ z ∈ c.exceptionTable.toList, covers z pc = false ∨ (z.catchType ≠ 0 ∧ ∃ nm : String, (Cond.classLink own z.catchType nm).before args s = true ∧ va_Nc E nm s)) (hcell : H[q]? = some ce) (hv : ce.vm = .none) (hcl : s.vm.findClass E = some ce.cls)
    (hx : ∀ t : State, t.heap = H → s.vm.Alike t.vm → XC E s t) (hf : ∀ z ∈ locs, free z.base) (hc : cells ≤ mc) (hs : slots ≤ ms) :
    vx_W p l e R s m args below meth c H locs cells slots (vx_MQ below Qc XC args s mc ms free) (F0 m pc ls rest) q := by
  intro T hT X
  have hpl : e.platform.magicAccessors = ({} : Platform).magicAccessors := by rw [X.admits.platform]
  obtain ⟨vm', hW', X', st⟩ := X.outThrough hlocks q (g := F0 m pc ls rest) rfl rfl rfl (cell := ce) (by rw [hT]; exact hcell) (by rw [hv]; rfl)
    (by obtain ⟨k9, h9, -⟩ := Vm.findClass_spec hcl; exact ⟨k9, h9⟩) (fun z hz => by
      rcases hpass z hz with h | ⟨hz0, nm, hl1, hn1⟩
      · exact Or.inl h
      · obtain ⟨c6, hc6, hcl6⟩ := Cond.classLink_spec hown hl1 e.platform hpl
        obtain ⟨a8, b8, h1, h2, h3⟩ := hn1
        cases Option.some.inj (h1.symm.trans hcl)
        cases Option.some.inj (h2.symm.trans hc6)
        exact Or.inr ⟨hz0, _, hcl6, h3⟩)
  obtain ⟨g₀, hfr⟩ := X'.frames_eq
  have hcell9 : ((T.setVm vm').setFrames (.throwing q :: below)).heap[q]? = some ce := by
    show T.heap[q]? = some ce
    rw [hT]; exact hcell
  have hend : Ended ((T.setVm vm').setFrames (.throwing q :: below)) below (.threw q) := State.frames_setFrames _ (State.cur_lt_of_frames hfr)
  refine ⟨(T.setVm vm').setFrames (.throwing q :: below), ?_, .threw q, X'.here.running, hend, Or.inr ⟨q, rfl, E, ce, locs, hx _ hT (X'.ends _).1.alike, hcell9, hv, hcl, (X'.ends _).1, (X'.ends _).2.mono hc hs, hf⟩⟩
  rw [X.pushThrowing_eq]
  exact st
/-- a thing of a world lies in the heap -/
theorem vx_lt {D : va_G} {cl : List vw_C} {ws : va_W} {H1 : Heap} (h : va_P D cl ws H1) {k : Nat} {q : Nat × va_E} (hk : ws[k]? = some q) : q.1 < H1.size := (h k q hk).lt
end VXS
/-! ===== END ===== -/
/-! ===== BEGIN methods with a table of their own: called by a name, returning or throwing ===== -/
section VXH
/-! vx_backW, vx_callVX, vx_callSX, vx_callVW, vx_runVW, vx_runVX, vx_runSX, vx_ofWH follow the same proofs as their sisters above (Free/Laws.lean, Shelf42/LK1.lean); vx_outP calls Shelf42/NT130.lean (outThrough). -/
section
variable {l : Launch} {R : Room} {p : Program} {e : Env} {below : List Frame} {s : State} {sargs : Array Value} {y : MethodName} {len W9 : Nat}
theorem vx_backW {ws : List Cond} {rm : Room} {Pc : Array Value → State → Prop} {Qc : Array Value → State → Outcome → State → Prop} {XC : String → State → State → Prop} {mc ms : Nat} {free : Addr → Prop} {bytes : ByteArray} {maxL : Nat} {ret : Option FieldType} {hh : List (Nat × Nat × Nat × Nat)}
    (hM : vx_Met l y ws rm Pc Qc XC mc ms free) (hblind : FrameBlind Pc) (hrc : rm.cells = mc) (hrs : rm.slots = ms)
    (hframes : rm.frames + 1 ≤ R.frames) (hlocals : W9 + (maxL + 11) + rm.locals ≤ R.locals)
    (hws : ∀ w ∈ ws, ∀ a' U, s.WarmedH U.vm → w.before a' U = true) (hcode : Cond.codeWith y bytes maxL ret hh ∈ ws) (hinit : ∀ a' U, s.WarmedH U.vm → (Cond.initialized y.cls).before a' U = true) :
    vx_Back l R p e below s sargs y len W9 (PreOf R mc ms Pc) (PostOf Qc mc ms free) (vx_Post XC mc ms free) := by
  intro m meth c A g ig mk a X hg hsize hdg hW hn hp
  have h1 : (headSpec ws rm).pre.before a A.U = true := atoms_intro fun w hw => hws w hw _ _ X.warmed
  have h2 : (Cond.codeWith y bytes maxL ret hh).before a A.U = true := hws _ hcode _ _ X.warmed
  have h3 : (Cond.initialized y.cls).before a A.U = true := hinit _ _ X.warmed
  have h4 : A.cells + (headSpec ws rm).room.cells ≤ R.cells := by rw [show (headSpec ws rm).room.cells = mc from hrc]; exact hp.1
  have h5 : A.slots + (headSpec ws rm).room.slots ≤ R.slots := by rw [show (headSpec ws rm).room.slots = ms from hrs]; exact hp.2.1
  have hPc : Pc a (A.U.calling g mk a) := hblind _ _ _ _ hp.2.2
  obtain ⟨U, Ls, c0, s0⟩ := A
  dsimp only [Pt.U, Pt.locs, Pt.cells, Pt.slots] at h1 h2 h3 h4 h5 X hn hPc ⊢
  obtain ⟨m9, methY, cY, hn9, hmY, hcY, -, hlY, -⟩ := Cond.codeWith_spec h2
  cases Option.some.inj (hn9.symm.trans hn)
  obtain ⟨kY, hkY, -⟩ := className_of_methodNamed hn
  have hinitY : kY.init = .initialized := Cond.initialized_spec (findClass_of_methodNamed hn) hkY h3
  have h : At U g.method c below := by rw [hg]; exact X.here
  have hlocals9 : W9 + (maxL + 11) + (headSpec ws rm).room.locals ≤ R.locals := hlocals
  have happ : (headSpec ws rm).appliesLoose y e.platform (U.calling g mk a) = true :=
    Spec.appliesLoose_calling (g := g) h hdg hn hkY hinitY
      (X.room_calling (g := g) (R' := (headSpec ws rm).room) hsize hmY hcY hframes (by rw [hlY]; omega) h4 h5) h1
  obtain ⟨mid, hmid⟩ := h.above
  have hfr : (U.setTop g).frames = (.java g :: mid) ++ below := by rw [State.frames_setTop' g h.top, hmid]; rfl
  obtain ⟨o, s₂, hsteps, -, hend, hq⟩ := Steps.callFree hM p X.admits X.cas X.clock (acts := []) hfr happ hPc trivial
  have hq' : vx_Q Qc XC mc ms free a (U.calling g mk a) o s₂ := hq
  rw [State.frames_setTop' g h.top] at hend
  obtain ⟨g₀, hg0⟩ := Option.isSome_iff_exists.mp h.top
  obtain ⟨r, hr⟩ := State.topJava?_eq_some.mp hg0
  have hr' : (({ U with heap := s₂.heap, slotsUsed := s₂.slotsUsed } : State).setVm s₂.vm).frames = .java g₀ :: r := hr
  rcases hq' with ⟨hqc, L, hfe, hL⟩ | ⟨q, rfl, E, ce, L, hx, hce, hcv, hcl, hW₂, hsm, hL⟩
  · obtain ⟨⟨v, rfl⟩, hW₂, e2, q2, q3, q4, q5, q6⟩ := id hfe
    have e3 : s₂ = ({ (U.calling g mk a).setFrames s₂.frames with heap := s₂.heap, slotsUsed := s₂.slotsUsed } : State).setVm s₂.vm := by
      have : s₂ = ({ s₂ with vm := (U.calling g mk a).vm } : State).setVm s₂.vm := rfl
      rw [e2] at this
      exact this
    obtain ⟨c₂, i₂, len₂, hc₂, hd₂, hf₂⟩ := hend
    have hW' : U.WarmedH s₂.vm := hW₂
    have hcc : c₂ = c := by
      have h1 : s₂.code? g.method = U.code? g.method := by
        rw [State.code?_eq, State.code?_eq, hW'.alike.method?]
      exact Option.some.inj (hc₂.symm.trans (h1.trans h.code))
    subst hcc
    have hlen : len₂ = len := by rw [hdg] at hd₂; cases hd₂; rfl
    subst hlen
    have hs₂ : s₂ = (({ U with heap := s₂.heap, slotsUsed := s₂.slotsUsed } : State).setVm s₂.vm).setTop { g with pc := g.pc + len₂, stack := v.toList ++ g.stack } := by
      refine e3.trans ?_
      rw [hf₂, State.calling_eq h.top, State.setFrames_setFrames, State.setTop_of_frames _ hr', hr]
      rfl
    have hsame : U.sameButNew ({ U with heap := s₂.heap, slotsUsed := s₂.slotsUsed } : State) L mc ms := by
      refine ⟨?_, q2, q3, q4, q5, q6⟩
      obtain ⟨t, ht, -⟩ := State.frames_cons hr
      show ({ U with heap := s₂.heap, slotsUsed := s₂.slotsUsed } : State) = { U.setFrames U.frames with heap := s₂.heap, slotsUsed := s₂.slotsUsed }
      rw [State.setFrames_self ht]
    subst hg
    refine Or.inl ⟨v, ⟨(({ U with heap := s₂.heap, slotsUsed := s₂.slotsUsed } : State).setVm s₂.vm), Ls ++ L, c0 + mc, s0 + ms⟩,
      ⟨X.admits, X.cas, X.clock, X.frames, X.room, X.hears, X.method, X.code, (X.here.setHeapUsed s₂.heap s₂.slotsUsed).setVm hW'.alike, X.tail, State.WarmedH.trans X.warmed hW', X.limits, X.bytes, X.same.trans (hsame.setVm s.vm)⟩,
      ⟨g, mk, s₂, L, rfl, rfl, hqc, rfl, hL, rfl, rfl⟩, ?_⟩
    show Steps p.tables e below _ ((({ U with heap := s₂.heap, slotsUsed := s₂.slotsUsed } : State).setVm s₂.vm).setTop { g with pc := g.pc + len₂, stack := v.toList ++ g.stack })
    rw [← hs₂]
    exact hsteps
  · obtain ⟨e2, q2, q3, q4, q5, q6⟩ := id hsm
    have e3 : s₂ = ({ (U.calling g mk a).setFrames s₂.frames with heap := s₂.heap, slotsUsed := s₂.slotsUsed } : State).setVm s₂.vm := by
      have : s₂ = ({ s₂ with vm := (U.calling g mk a).vm } : State).setVm s₂.vm := rfl
      rw [e2] at this
      exact this
    have hf₂ : s₂.frames = .throwing q :: .java g :: U.frames.tail := hend
    have hW' : U.WarmedH s₂.vm := hW₂
    have hs₂ : s₂ = ((({ U with heap := s₂.heap, slotsUsed := s₂.slotsUsed } : State).setVm s₂.vm).setTop g).pushFrame (.throwing q) := by
      refine e3.trans ?_
      rw [hf₂, State.calling_eq h.top, State.setFrames_setFrames, State.pushFrame, State.frames_setTop _ hr', State.setTop_of_frames _ hr', State.setFrames_setFrames, hr]
      rfl
    have hsame : U.sameButNew ({ U with heap := s₂.heap, slotsUsed := s₂.slotsUsed } : State) L mc ms := by
      refine ⟨?_, q2, q3, q4, q5, q6⟩
      obtain ⟨t, ht, -⟩ := State.frames_cons hr
      show ({ U with heap := s₂.heap, slotsUsed := s₂.slotsUsed } : State) = { U.setFrames U.frames with heap := s₂.heap, slotsUsed := s₂.slotsUsed }
      rw [State.setFrames_self ht]
    subst hg
    refine Or.inr ⟨q, ⟨(({ U with heap := s₂.heap, slotsUsed := s₂.slotsUsed } : State).setVm s₂.vm), Ls ++ L, c0 + mc, s0 + ms⟩,
      ⟨X.admits, X.cas, X.clock, X.frames, X.room, X.hears, X.method, X.code, (X.here.setHeapUsed s₂.heap s₂.slotsUsed).setVm hW'.alike, X.tail, State.WarmedH.trans X.warmed hW', X.limits, X.bytes, X.same.trans (hsame.setVm s.vm)⟩,
      ⟨g, mk, s₂, L, E, ce, rfl, rfl, hx, hce, hcv, hcl, rfl, hL, rfl, rfl⟩, ?_⟩
    show Steps p.tables e below _ (((({ U with heap := s₂.heap, slotsUsed := s₂.slotsUsed } : State).setVm s₂.vm).setTop g).pushFrame (.throwing q))
    rw [← hs₂]
    exact hsteps
end
variable {p : Program} {l : Launch} {e : Env} {R : Room} {s : State} {m : MethodId} {args : Array Value} {below : List Frame} {meth : Method} {c : Code} {T : State} {H : Heap} {locs : List Loc} {cells slots : Nat}
theorem vx_callVX (X : Stand p l e R s m args below meth c T locs cells slots) (hexec : p.tables.exec = Jvm.exec) {own C : String} {index : Nat} {y : MethodName} {bytes : ByteArray} {maxL : Nat} {ret : Option FieldType} {hh : List (Nat × Nat × Nat × Nat)}
    (hown : s.vm.findClass own = some m.cls) (hlink : (Cond.methodLink own index y).before args s = true) (hinst : (Cond.instanceMethod y).before args s = true) (hsel : (Cond.selects C y y).before args s = true)
    (hcode : (Cond.codeWith y bytes maxL ret hh).before args s = true) (hy : y.cls ≠ "java/lang/invoke/MethodHandle" ∧ y.cls ≠ "java/lang/invoke/VarHandle")
    {W9 : Nat} {Pre : Pt → Array Value → Prop} {Post : Pt → Array Value → Option Value → Pt → Prop} {PostX : Pt → Array Value → Addr → Pt → Prop} (hK : vx_Back l R p e below s args y 3 W9 Pre Post PostX)
    {b : Addr} {cellB : Cell} (hcell : T.heap[b]? = some cellB) (hobj : cellB.vm.isStatics = false) (hcls : s.vm.findClass C = some cellB.cls)
    {g : JFrame} (hg : g.method = m) (hsize : g.locals.size = c.maxLocals) {argsL rest : List Value} (hlen : ∀ sig, parseMethodDescriptor y.desc = some sig → argsL.length = sig.parameters.length)
    (hstack : g.stack = argsL.reverse ++ .ref b :: rest) (hW : 2 * g.monitorRoom + (rest.map fun v => v.category).sum ≤ W9) (hdg : decode c.code g.pc = .ok (.invokevirtual index, 3))
    (hpre : ∀ vm₁, s.WarmedH vm₁ → Pre ⟨T.setVm vm₁, locs, cells, slots⟩ (Value.ref b :: argsL).toArray) :
    (∃ (v : Option Value) (vm₁ : Vm) (B : Pt), s.WarmedH vm₁ ∧ Stand p l e R s m args below meth c B.U B.locs B.cells B.slots ∧ Post ⟨T.setVm vm₁, locs, cells, slots⟩ (Value.ref b :: argsL).toArray v B ∧
      ∀ target, Steps p.tables e below (B.U.setTop { g with pc := g.pc + 3, stack := v.toList ++ rest }) target → Steps p.tables e below (T.setTop g) target) ∨
    (∃ (q : Addr) (vm₁ : Vm) (B : Pt), s.WarmedH vm₁ ∧ Stand p l e R s m args below meth c B.U B.locs B.cells B.slots ∧ PostX ⟨T.setVm vm₁, locs, cells, slots⟩ (Value.ref b :: argsL).toArray q B ∧
      Steps p.tables e below (T.setTop g) ((B.U.setTop { g with stack := rest }).pushFrame (.throwing q))) := by
  obtain ⟨mk, methM, hnamed, hmethM, hstM, habM⟩ := Cond.instanceMethod_spec hinst
  obtain ⟨m8, methM', cM, hn8, hmethM', -, -, -, -, -, -, hsigM⟩ := Cond.codeWith_spec hcode
  cases Option.some.inj (hn8.symm.trans hnamed)
  cases hmethM.symm.trans hmethM'
  obtain ⟨c2, r2, m2, q1, q2, q3, q4, kP, hkP, hkPi⟩ := Cond.selects_spec hsel
  cases hcls.symm.trans q1
  cases (State.methodFound?_of_named hnamed hy).symm.trans q2
  cases hnamed.symm.trans q3
  have hselP : selectMethod e.platform s.vm cellB.cls mk = .method mk := by rw [Launch.admits_selectMethod X.admits]; exact q4
  obtain ⟨vm₁, X₁, hstep₁⟩ := X.invokevirtual hexec hown hlink hnamed hmethM hstM hkP hkPi hy (a := b) (cell := cellB) hcell
    (fun z h => by rw [h] at hobj; cases hobj) hselP hmethM habM hkP hkPi (g := g) hg (argsL := argsL) (rest := rest) (hlen _ hsigM) hstack hdg
  rcases hK m meth c ⟨T.setVm vm₁, locs, cells, slots⟩ { g with stack := rest } (.invokevirtual index) mk (Value.ref b :: argsL).toArray X₁ hg hsize hdg hW (X₁.named hnamed) (hpre vm₁ X₁.warmed) with ⟨v, B, X', hpost, hsteps⟩ | ⟨q, B, X', hpost, hsteps⟩
  · exact Or.inl ⟨v, vm₁, B, X₁.warmed, X', hpost, fun target h => hstep₁ _ fun acts => by rw [doInvoke_state]; exact hsteps.trans h⟩
  · exact Or.inr ⟨q, vm₁, B, X₁.warmed, X', hpost, hstep₁ _ fun acts => by rw [doInvoke_state]; exact hsteps⟩
theorem vx_callSX (X : Stand p l e R s m args below meth c T locs cells slots) (hexec : p.tables.exec = Jvm.exec) {own : String} {index : Nat} {y : MethodName} {bytes : ByteArray} {maxL : Nat} {ret : Option FieldType} {hh : List (Nat × Nat × Nat × Nat)}
    (hown : s.vm.findClass own = some m.cls) (hlink : (Cond.methodLink own index y).before args s = true) (hstat : (Cond.static y).before args s = true) (hinit : (Cond.initialized y.cls).before args s = true)
    (hcode : (Cond.codeWith y bytes maxL ret hh).before args s = true) (hy : y.cls ≠ "java/lang/invoke/MethodHandle" ∧ y.cls ≠ "java/lang/invoke/VarHandle")
    {W9 : Nat} {Pre : Pt → Array Value → Prop} {Post : Pt → Array Value → Option Value → Pt → Prop} {PostX : Pt → Array Value → Addr → Pt → Prop} (hK : vx_Back l R p e below s args y 3 W9 Pre Post PostX)
    {g : JFrame} (hg : g.method = m) (hsize : g.locals.size = c.maxLocals) {argsL rest : List Value} (hlen : ∀ sig, parseMethodDescriptor y.desc = some sig → argsL.length = sig.parameters.length)
    (hstack : g.stack = argsL.reverse ++ rest) (hW : 2 * g.monitorRoom + (rest.map fun v => v.category).sum ≤ W9) (hdg : decode c.code g.pc = .ok (.invokestatic index, 3))
    (hpre : ∀ vm₁, s.WarmedH vm₁ → Pre ⟨T.setVm vm₁, locs, cells, slots⟩ argsL.toArray) :
    (∃ (v : Option Value) (vm₁ : Vm) (B : Pt), s.WarmedH vm₁ ∧ Stand p l e R s m args below meth c B.U B.locs B.cells B.slots ∧ Post ⟨T.setVm vm₁, locs, cells, slots⟩ argsL.toArray v B ∧
      ∀ target, Steps p.tables e below (B.U.setTop { g with pc := g.pc + 3, stack := v.toList ++ rest }) target → Steps p.tables e below (T.setTop g) target) ∨
    (∃ (q : Addr) (vm₁ : Vm) (B : Pt), s.WarmedH vm₁ ∧ Stand p l e R s m args below meth c B.U B.locs B.cells B.slots ∧ PostX ⟨T.setVm vm₁, locs, cells, slots⟩ argsL.toArray q B ∧
      Steps p.tables e below (T.setTop g) ((B.U.setTop { g with stack := rest }).pushFrame (.throwing q))) := by
  obtain ⟨mk, methM, cM, hnamed, hmethM, -, -, -, -, -, -, hsigM⟩ := Cond.codeWith_spec hcode
  have hstatic : methM.isStatic = true := Cond.static_spec hnamed hmethM hstat
  obtain ⟨kP, hkP, -⟩ := className_of_methodNamed hnamed
  have hinitP : kP.init = .initialized := Cond.initialized_spec (findClass_of_methodNamed hnamed) hkP hinit
  obtain ⟨vm₁, X₁, hstep₁⟩ := X.invokestatic hexec hown hlink hnamed hmethM hstatic hkP hinitP hy (g := g) hg (argsL := argsL) (rest := rest) (hlen _ hsigM) hstack hdg
  rcases hK m meth c ⟨T.setVm vm₁, locs, cells, slots⟩ { g with stack := rest } (.invokestatic index) mk argsL.toArray X₁ hg hsize hdg hW (X₁.named hnamed) (hpre vm₁ X₁.warmed) with ⟨v, B, X', hpost, hsteps⟩ | ⟨q, B, X', hpost, hsteps⟩
  · exact Or.inl ⟨v, vm₁, B, X₁.warmed, X', hpost, fun target h => hstep₁ _ fun acts => by rw [doInvoke_state]; exact hsteps.trans h⟩
  · exact Or.inr ⟨q, vm₁, B, X₁.warmed, X', hpost, hstep₁ _ fun acts => by rw [doInvoke_state]; exact hsteps⟩
theorem vx_callVW (X : Stand p l e R s m args below meth c T locs cells slots) (hexec : p.tables.exec = Jvm.exec) {own C : String} {index : Nat} {y : MethodName} {bytes : ByteArray} {maxL : Nat} {ret : Option FieldType} {hh : List (Nat × Nat × Nat × Nat)}
    (hown : s.vm.findClass own = some m.cls) (hlink : (Cond.methodLink own index y).before args s = true) (hinst : (Cond.instanceMethod y).before args s = true) (hsel : (Cond.selects C y y).before args s = true)
    (hcode : (Cond.codeWith y bytes maxL ret hh).before args s = true) (hy : y.cls ≠ "java/lang/invoke/MethodHandle" ∧ y.cls ≠ "java/lang/invoke/VarHandle")
    {W9 : Nat} {Pre : Pt → Array Value → Prop} {Post : Pt → Array Value → Option Value → Pt → Prop} (hK : Back l R p e below s args y 3 W9 Pre Post)
    {b : Addr} {cellB : Cell} (hcell : T.heap[b]? = some cellB) (hobj : cellB.vm.isStatics = false) (hcls : s.vm.findClass C = some cellB.cls)
    {g : JFrame} (hg : g.method = m) (hsize : g.locals.size = c.maxLocals) {argsL rest : List Value} (hlen : ∀ sig, parseMethodDescriptor y.desc = some sig → argsL.length = sig.parameters.length)
    (hstack : g.stack = argsL.reverse ++ .ref b :: rest) (hW : 2 * g.monitorRoom + (rest.map fun v => v.category).sum ≤ W9) (hdg : decode c.code g.pc = .ok (.invokevirtual index, 3))
    (hpre : ∀ vm₁, s.WarmedH vm₁ → Pre ⟨T.setVm vm₁, locs, cells, slots⟩ (Value.ref b :: argsL).toArray) :
    ∃ (v : Option Value) (vm₁ : Vm) (B : Pt), s.WarmedH vm₁ ∧ Stand p l e R s m args below meth c B.U B.locs B.cells B.slots ∧ Post ⟨T.setVm vm₁, locs, cells, slots⟩ (Value.ref b :: argsL).toArray v B ∧
      ∀ target, Steps p.tables e below (B.U.setTop { g with pc := g.pc + 3, stack := v.toList ++ rest }) target → Steps p.tables e below (T.setTop g) target := by
  obtain ⟨mk, methM, hnamed, hmethM, hstM, habM⟩ := Cond.instanceMethod_spec hinst
  obtain ⟨m8, methM', cM, hn8, hmethM', -, -, -, -, -, -, hsigM⟩ := Cond.codeWith_spec hcode
  cases Option.some.inj (hn8.symm.trans hnamed)
  cases hmethM.symm.trans hmethM'
  obtain ⟨c2, r2, m2, q1, q2, q3, q4, kP, hkP, hkPi⟩ := Cond.selects_spec hsel
  cases hcls.symm.trans q1
  cases (State.methodFound?_of_named hnamed hy).symm.trans q2
  cases hnamed.symm.trans q3
  have hselP : selectMethod e.platform s.vm cellB.cls mk = .method mk := by rw [Launch.admits_selectMethod X.admits]; exact q4
  obtain ⟨vm₁, X₁, hstep₁⟩ := X.invokevirtual hexec hown hlink hnamed hmethM hstM hkP hkPi hy (a := b) (cell := cellB) hcell
    (fun z h => by rw [h] at hobj; cases hobj) hselP hmethM habM hkP hkPi (g := g) hg (argsL := argsL) (rest := rest) (hlen _ hsigM) hstack hdg
  obtain ⟨v, B, X', hpost, hsteps⟩ := hK m meth c ⟨T.setVm vm₁, locs, cells, slots⟩ { g with stack := rest } (.invokevirtual index) mk (Value.ref b :: argsL).toArray X₁ hg hsize hdg hW (X₁.named hnamed) (hpre vm₁ X₁.warmed)
  exact ⟨v, vm₁, B, X₁.warmed, X', hpost, fun target h => hstep₁ _ fun acts => by rw [doInvoke_state]; exact hsteps.trans h⟩
abbrev vx_CVW (R : Room) (s : State) (args : Array Value) (own C : String) (index : Nat) (y : MethodName) (bytes : ByteArray) (maxL : Nat) (ret : Option FieldType) (hh : List (Nat × Nat × Nat × Nat)) (ws : List Cond) (rm : Room) (mc ms n : Nat) : Prop :=
  (rm.cells = mc ∧ rm.slots = ms ∧ rm.frames + 1 ≤ R.frames ∧ 8 + (maxL + 11) + rm.locals ≤ R.locals ∧ (∀ w ∈ ws, ∀ (a' : Array Value) (U : State), s.WarmedH U.vm → w.before a' U = true) ∧ Cond.codeWith y bytes maxL ret hh ∈ ws) ∧
  (Cond.codeWith y bytes maxL ret hh).before args s = true ∧ (Cond.initialized y.cls).before args s = true ∧ (y.cls ≠ "java/lang/invoke/MethodHandle" ∧ y.cls ≠ "java/lang/invoke/VarHandle") ∧
  (∀ sig, parseMethodDescriptor y.desc = some sig → n = sig.parameters.length) ∧ (Cond.methodLink own index y).before args s = true ∧ (Cond.instanceMethod y).before args s = true ∧ (Cond.selects C y y).before args s = true
theorem vx_cwVW {own C : String} {index maxL mc ms : Nat} {y : MethodName} {bytes : ByteArray} {ret : Option FieldType} {hh : List (Nat × Nat × Nat × Nat)} {Ts ws ws' : List Cond} {rm : Room} (n : Nat) (ht : ∀ w ∈ Ts, w.before args s = true) (hT : GoodIn Ts (wsV own index C y ws)) (hw : ws = Cond.codeWith y bytes maxL ret hh :: ws') (hrc : rm.cells = mc) (hrs : rm.slots = ms)
    (hd : y.cls = C ∧ y.cls ≠ "java/lang/invoke/MethodHandle" ∧ y.cls ≠ "java/lang/invoke/VarHandle" ∧ (parseMethodDescriptor y.desc).map (fun d => d.parameters.length) = some n) (hR : rm.frames + 1 ≤ R.frames ∧ 8 + (maxL + 11) + rm.locals ≤ R.locals) :
    vx_CVW R s args own C index y bytes maxL ret hh ws rm mc ms n := by
  obtain ⟨hC, hd⟩ := hd
  subst hC
  have ok : ∀ w ∈ wsV own index y.cls y ws, w.before args s = true := fun w h => ht w (hT w h).1
  have hG : GoodIn Ts ws := fun w h => hT w (by unfold wsV; exact List.mem_append_right _ h)
  have hc : Cond.codeWith y bytes maxL ret hh ∈ ws := by rw [hw]; exact List.mem_cons_self
  refine ⟨⟨hrc, hrs, hR.1, hR.2, pay_in ht hG, hc⟩, ht _ (hG _ hc).1, ok _ (by simp [wsV]), ⟨hd.1, hd.2.1⟩, fun sig h => ?_, ok _ (by simp [wsV]), ok _ (by simp [wsV]), ok _ (by simp [wsV])⟩
  have h2 := hd.2.2
  rw [h] at h2
  exact (Option.some.inj h2).symm
theorem vx_runVW {y : MethodName} {bytes cc : ByteArray} {maxL nL mc ms n index : Nat} {ret : Option FieldType} {hh : List (Nat × Nat × Nat × Nat)} {ws : List Cond} {rm : Room} {Pc : Array Value → State → Prop} {Qc : Array Value → State → Outcome → State → Prop} {free : Addr → Prop} {Ts : List Cond} {own C : String} {b : Addr} {As rest : List Value} {g : JFrame}
    (S : CallFix p m c cc nL s args Ts own) (hM : Met l y ws rm Pc Qc mc ms free) (cw : vx_CVW R s args own C index y bytes maxL ret hh ws rm mc ms n) (hp : PreV s H C b Pc As)
    (hg : g.method = m) (hn : As.length = n) (hsize : g.locals.size = nL) (hstack : g.stack = As.reverse ++ .ref b :: rest) (hW : 2 * g.monitorRoom + (rest.map fun v => v.category).sum ≤ 8) (hdg : decode cc g.pc = .ok (.invokevirtual index, 3)) (hf : cells + mc ≤ R.cells ∧ slots + ms ≤ R.slots) :
    va_Run p l e R s m args below meth c H locs cells slots mc ms g rest (Qc (Value.ref b :: As).toArray) free := by
  obtain ⟨⟨hrc, hrs, hfr, hlo, hws, hcw⟩, hcode, hini, hy, hlen, hl, hin, hse⟩ := cw
  have hK : Back l R p e below s args y 3 8 (PreOf R mc ms Pc) (PostOf Qc mc ms free) := va_backW (hh := hh) (bytes := bytes) (maxL := maxL) (ret := ret) hM hp.1 hrc hrs hfr hlo hws hcw (fun a' U hW => word_at hW (Or.inl (by first | rfl | simp [Cond.onTables, Cond.keeps, Cond.steady])) hini)
  obtain ⟨hx, hb, hml, ho, -⟩ := S
  obtain ⟨-, ⟨cellB, hcB, hoB, hclB⟩, hPc⟩ := hp
  intro T hT X
  obtain ⟨v, vm₁, ⟨U', l2, c2, s2⟩, hW₁, X', ⟨g', mk, t, L, e1, e2, hq, h1, hL, h2, h3⟩, st⟩ := vx_callVW X hx (C := C) (hh := hh) (bytes := bytes) (maxL := maxL) (ret := ret) ho hl hin hse hcode hy hK (by rw [hT]; exact hcB) hoB hclB hg (hsize.trans hml.symm) (argsL := As) (rest := rest) (fun sig h => hn.trans (hlen sig h)) hstack hW (by rw [hb]; exact hdg)
    (fun vm₁ hW₁ => ⟨hf.1, hf.2, hPc (T.setVm vm₁) hT hW₁⟩)
  dsimp only [Pt.U, Pt.locs, Pt.cells, Pt.slots] at X' e1 e2 h1 h2 h3 st
  subst h1; subst h2; subst h3
  exact ⟨v, (T.setVm vm₁).calling g' mk (Value.ref b :: As).toArray, t, U', L, hT, X', hL, e1, e2, hq, st⟩
section
variable {y : MethodName} {bytes cc : ByteArray} {maxL nL mc ms n index : Nat} {ret : Option FieldType} {ws : List Cond} {rm : Room} {Pc : Array Value → State → Prop} {Qc : Array Value → State → Outcome → State → Prop} {XC : String → State → State → Prop} {free : Addr → Prop} {Ts : List Cond} {own C : String} {b : Addr} {As rest : List Value} {g : JFrame}
theorem vx_runVX {hh : List (Nat × Nat × Nat × Nat)} (S : CallFix p m c cc nL s args Ts own) (hM : vx_Met l y ws rm Pc Qc XC mc ms free) (cw : vx_CVW R s args own C index y bytes maxL ret hh ws rm mc ms n) (hp : PreV s H C b Pc As)
    (hg : g.method = m) (hn : As.length = n) (hsize : g.locals.size = nL) (hstack : g.stack = As.reverse ++ .ref b :: rest) (hW : 2 * g.monitorRoom + (rest.map fun v => v.category).sum ≤ 8) (hdg : decode cc g.pc = .ok (.invokevirtual index, 3)) (hf : cells + mc ≤ R.cells ∧ slots + ms ≤ R.slots) :
    vx_Run p l e R s m args below meth c H locs cells slots mc ms g rest (Qc (Value.ref b :: As).toArray) XC free := by
  obtain ⟨⟨hrc, hrs, hfr, hlo, hws, hcw⟩, hcode, hini, hy, hlen, hl, hin, hse⟩ := cw
  have hK : vx_Back l R p e below s args y 3 8 (PreOf R mc ms Pc) (PostOf Qc mc ms free) (vx_Post XC mc ms free) := vx_backW (hh := hh) (bytes := bytes) (maxL := maxL) (ret := ret) hM hp.1 hrc hrs hfr hlo hws hcw (fun a' U hW => word_at hW (Or.inl (by first | rfl | simp [Cond.onTables, Cond.keeps, Cond.steady])) hini)
  obtain ⟨hx, hb, hml, ho, -⟩ := S
  obtain ⟨-, ⟨cellB, hcB, hoB, hclB⟩, hPc⟩ := hp
  intro T hT X
  rcases vx_callVX X hx (C := C) (hh := hh) (bytes := bytes) (maxL := maxL) (ret := ret) ho hl hin hse hcode hy hK (by rw [hT]; exact hcB) hoB hclB hg (hsize.trans hml.symm) (argsL := As) (rest := rest) (fun sig h => hn.trans (hlen sig h)) hstack hW (by rw [hb]; exact hdg)
    (fun vm₁ hW₁ => ⟨hf.1, hf.2, hPc (T.setVm vm₁) hT hW₁⟩) with ⟨v, vm₁, ⟨U', l2, c2, s2⟩, hW₁, X', ⟨g', mk, t, L, e1, e2, hq, h1, hL, h2, h3⟩, st⟩ | ⟨q, vm₁, ⟨U', l2, c2, s2⟩, hW₁, X', ⟨g', mk, t, L, E, ce, e1, e2, hq, hce, hcv, hcl, h1, hL, h2, h3⟩, st⟩
  · dsimp only [Pt.U, Pt.locs, Pt.cells, Pt.slots] at X' e1 e2 h1 h2 h3 st
    subst h1; subst h2; subst h3
    exact Or.inl ⟨v, (T.setVm vm₁).calling g' mk (Value.ref b :: As).toArray, t, U', L, hT, X', hL, e1, e2, hq, st⟩
  · dsimp only [Pt.U, Pt.locs, Pt.cells, Pt.slots] at X' e1 e2 h1 h2 h3 st hcl
    subst h1; subst h2; subst h3
    exact Or.inr ⟨q, (T.setVm vm₁).calling g' mk (Value.ref b :: As).toArray, t, U', L, E, ce, hT, X', hL, e1, e2, hq, hce, hcv, vx_cls hW₁ hcl, st⟩
theorem vx_runSX {hh : List (Nat × Nat × Nat × Nat)} (S : CallFix p m c cc nL s args Ts own) (hM : vx_Met l y ws rm Pc Qc XC mc ms free) (cw : vx_CSW R s args own index y bytes maxL ret hh ws rm mc ms n) (hp : PreS s H Pc As)
    (hg : g.method = m) (hn : As.length = n) (hsize : g.locals.size = nL) (hstack : g.stack = As.reverse ++ rest) (hW : 2 * g.monitorRoom + (rest.map fun v => v.category).sum ≤ 8) (hdg : decode cc g.pc = .ok (.invokestatic index, 3)) (hf : cells + mc ≤ R.cells ∧ slots + ms ≤ R.slots) :
    vx_Run p l e R s m args below meth c H locs cells slots mc ms g rest (Qc As.toArray) XC free := by
  obtain ⟨⟨hrc, hrs, hfr, hlo, hws, hcw⟩, hcode, hini, hy, hlen, hl, hstt⟩ := cw
  have hK : vx_Back l R p e below s args y 3 8 (PreOf R mc ms Pc) (PostOf Qc mc ms free) (vx_Post XC mc ms free) := vx_backW (hh := hh) (bytes := bytes) (maxL := maxL) (ret := ret) hM hp.1 hrc hrs hfr hlo hws hcw (fun a' U hW => word_at hW (Or.inl (by first | rfl | simp [Cond.onTables, Cond.keeps, Cond.steady])) hini)
  obtain ⟨hx, hb, hml, ho, -⟩ := S
  intro T hT X
  rcases vx_callSX X hx (hh := hh) (bytes := bytes) (maxL := maxL) (ret := ret) ho hl hstt hini hcode hy hK hg (hsize.trans hml.symm) (argsL := As) (rest := rest) (fun sig h => hn.trans (hlen sig h)) hstack hW (by rw [hb]; exact hdg)
    (fun vm₁ hW₁ => ⟨hf.1, hf.2, hp.2 (T.setVm vm₁) hT hW₁⟩) with ⟨v, vm₁, ⟨U', l2, c2, s2⟩, hW₁, X', ⟨g', mk, t, L, e1, e2, hq, h1, hL, h2, h3⟩, st⟩ | ⟨q, vm₁, ⟨U', l2, c2, s2⟩, hW₁, X', ⟨g', mk, t, L, E, ce, e1, e2, hq, hce, hcv, hcl, h1, hL, h2, h3⟩, st⟩
  · dsimp only [Pt.U, Pt.locs, Pt.cells, Pt.slots] at X' e1 e2 h1 h2 h3 st
    subst h1; subst h2; subst h3
    exact Or.inl ⟨v, (T.setVm vm₁).calling g' mk As.toArray, t, U', L, hT, X', hL, e1, e2, hq, st⟩
  · dsimp only [Pt.U, Pt.locs, Pt.cells, Pt.slots] at X' e1 e2 h1 h2 h3 st hcl
    subst h1; subst h2; subst h3
    exact Or.inr ⟨q, (T.setVm vm₁).calling g' mk As.toArray, t, U', L, E, ce, hT, X', hL, e1, e2, hq, hce, hcv, vx_cls hW₁ hcl, st⟩
end
end VXH
theorem vx_ofWH {l : Launch} {y : MethodName} {ws ws' : List Cond} {rm : Room} {Pc : Array Value → State → Prop} {Qc : Array Value → State → Outcome → State → Prop} {XC : String → State → State → Prop} {mc ms : Nat} {free : Addr → Prop} {cc : ByteArray} {maxL : Nat} {ret : Option FieldType} {hh : List (Nat × Nat × Nat × Nat)}
    (hy : plainName y.cls = true) (hw : ws = Cond.codeWith y cc maxL ret hh :: ws')
    (body : ∀ p e s m args below meth c s₁, BodyLoose p l y (headSpec ws rm) cc maxL ret e s m args below meth c s₁ → c.maxLocals = maxL → Pc args s →
      W p l e (headSpec ws rm).room s m args below meth c s.heap [] 0 0 (vx_MQ below Qc XC args s mc ms free) (entryFrame m args maxL)) : vx_Met l y ws rm Pc Qc XC mc ms free := by
  refine MetFree.of_bodyS (code := cc) (maxLocals := maxL) (ret := ret) hy ?_ ?_
  · intro args s m h hn
    obtain ⟨m9, meth, c, hn9, h1, h2, h3, h4, -, h5, h6, -⟩ := Cond.codeWith_spec (atoms_spec (ws := ws) h _ (by rw [hw]; exact List.mem_cons_self))
    cases hn.symm.trans hn9
    exact ⟨meth, c, h1, h2, h3, h4, h5, h6⟩
  · intro p e s m args below meth c s₁ B hml hP _
    have hh0 : s₁.heap = s.heap := by rw [B.state]; rfl
    obtain ⟨t, a1, o, b1, b2, b3⟩ := body p e s m args below meth c s₁ B hml hP s₁ hh0 (Stand.of_body B)
    exact ⟨t, o, a1, b1, b2, b3⟩
/-! ===== END ===== -/
def RX0 : String := "SlackRows$1"
def TX0 : u_T := fun k => match k with
  | _ => ("", "", "", false)
def tyX0 : Nat → FieldType := fun k => match k with
  | _ => .int
abbrev wsX00 : List Cond := u_ws RX0 TX0 0
theorem nmX0 : ∀ a, a < 0 → ∀ b, b < 0 → a ≠ b → (TX0 a).2.1 ≠ (TX0 b).2.1 := by decide +kernel
theorem tyX0_ok : ∀ k, k < 0 → parseFieldDescriptor (TX0 k).2.2.1 = some (tyX0 k) := by decide +kernel
def RX1 : String := "SlackRows$Command"
def TX1 : u_T := fun k => match k with
  | _ => ("", "", "", false)
def tyX1 : Nat → FieldType := fun k => match k with
  | _ => .int
abbrev wsX10 : List Cond := u_ws RX1 TX1 0
theorem nmX1 : ∀ a, a < 0 → ∀ b, b < 0 → a ≠ b → (TX1 a).2.1 ≠ (TX1 b).2.1 := by decide +kernel
theorem tyX1_ok : ∀ k, k < 0 → parseFieldDescriptor (TX1 k).2.2.1 = some (tyX1 k) := by decide +kernel
def RX2 : String := "SlackRows$CommandText"
def TX2 : u_T := fun k => match k with
  | 0 => ("SlackRows$CommandText", "bytes", "[I", true)
  | 1 => ("SlackRows$CommandText", "length", "I", false)
  | 2 => ("SlackRows$CommandText", "numbers", "[I", true)
  | 3 => ("SlackRows$CommandText", "at", "I", false)
  | _ => ("SlackRows$CommandText", "fault", "I", false)
def tyX2 : Nat → FieldType := fun k => match k with
  | 0 => .array .int
  | 1 => .int
  | 2 => .array .int
  | 3 => .int
  | _ => .int
abbrev wsX20 : List Cond := u_ws RX2 TX2 5
theorem nmX2 : ∀ a, a < 5 → ∀ b, b < 5 → a ≠ b → (TX2 a).2.1 ≠ (TX2 b).2.1 := by decide +kernel
theorem tyX2_ok : ∀ k, k < 5 → parseFieldDescriptor (TX2 k).2.2.1 = some (tyX2 k) := by decide +kernel
abbrev cX2_init : ByteArray := prog_4_method_1_code
def yX2_init : MethodName := ⟨RX2, "<init>", "()V"⟩
abbrev cX2_append : ByteArray := prog_4_method_2_code
def yX2_append : MethodName := ⟨RX2, "append", "(I)Z"⟩
abbrev cX2_findFault : ByteArray := prog_4_method_3_code
def yX2_findFault : MethodName := ⟨RX2, "findFault", "()I"⟩
abbrev cX2_rewind : ByteArray := prog_4_method_4_code
def yX2_rewind : MethodName := ⟨RX2, "rewind", "()V"⟩
abbrev cX2_readCommand : ByteArray := prog_4_method_5_code
def yX2_readCommand : MethodName := ⟨RX2, "readCommand", "()LSlackRows$Command;"⟩
abbrev cX2_peek : ByteArray := prog_4_method_6_code
def yX2_peek : MethodName := ⟨RX2, "peek", "()I"⟩
abbrev cX2_isAtLetter : ByteArray := prog_4_method_7_code
def yX2_isAtLetter : MethodName := ⟨RX2, "isAtLetter", "()Z"⟩
abbrev cX2_isAtDigit : ByteArray := prog_4_method_8_code
def yX2_isAtDigit : MethodName := ⟨RX2, "isAtDigit", "()Z"⟩
abbrev cX2_skipSpaces : ByteArray := prog_4_method_9_code
def yX2_skipSpaces : MethodName := ⟨RX2, "skipSpaces", "()Z"⟩
abbrev cX2_readWord : ByteArray := prog_4_method_10_code
def yX2_readWord : MethodName := ⟨RX2, "readWord", "()LSlackRows$Command;"⟩
abbrev cX2_isWordAt : ByteArray := prog_4_method_11_code
def yX2_isWordAt : MethodName := ⟨RX2, "isWordAt", "(Ljava/lang/String;I)Z"⟩
abbrev cX2_readNumbers : ByteArray := prog_4_method_12_code
def yX2_readNumbers : MethodName := ⟨RX2, "readNumbers", "(I)Z"⟩
abbrev cX2_readDigits : ByteArray := prog_4_method_13_code
def yX2_readDigits : MethodName := ⟨RX2, "readDigits", "()I"⟩
abbrev cX2_readSemicolon : ByteArray := prog_4_method_14_code
def yX2_readSemicolon : MethodName := ⟨RX2, "readSemicolon", "()Z"⟩
def RX3 : String := "SlackRows$Node"
def TX3 : u_T := fun k => match k with
  | 0 => ("SlackRows$Node", "number", "I", false)
  | 1 => ("SlackRows$Node", "isTask", "Z", false)
  | 2 => ("SlackRows$Node", "groupNumber", "I", false)
  | 3 => ("SlackRows$Node", "row", "I", false)
  | 4 => ("SlackRows$Node", "duration", "I", false)
  | 5 => ("SlackRows$Node", "reserve", "I", false)
  | 6 => ("SlackRows$Node", "group", "LSlackRows$Node;", false)
  | 7 => ("SlackRows$Node", "ahead", "LSlackRows$Node;", false)
  | 8 => ("SlackRows$Node", "place", "I", false)
  | 9 => ("SlackRows$Node", "above", "I", false)
  | 10 => ("SlackRows$Node", "length", "I", false)
  | 11 => ("SlackRows$Node", "start", "I", false)
  | 12 => ("SlackRows$Node", "rowSlack", "I", false)
  | 13 => ("SlackRows$Node", "slack", "I", false)
  | _ => ("SlackRows$Node", "rowLengths", "[I", true)
def tyX3 : Nat → FieldType := fun k => match k with
  | 0 => .int
  | 1 => .boolean
  | 2 => .int
  | 3 => .int
  | 4 => .int
  | 5 => .int
  | 6 => .object "SlackRows$Node"
  | 7 => .object "SlackRows$Node"
  | 8 => .int
  | 9 => .int
  | 10 => .int
  | 11 => .int
  | 12 => .int
  | 13 => .int
  | _ => .array .int
abbrev wsX30 : List Cond := u_ws RX3 TX3 15
theorem nmX3 : ∀ a, a < 15 → ∀ b, b < 15 → a ≠ b → (TX3 a).2.1 ≠ (TX3 b).2.1 := by decide +kernel
theorem tyX3_ok : ∀ k, k < 15 → parseFieldDescriptor (TX3 k).2.2.1 = some (tyX3 k) := by decide +kernel
abbrev cX3_init : ByteArray := prog_5_method_1_code
def yX3_init : MethodName := ⟨RX3, "<init>", "()V"⟩
abbrev cX3_copyFrom : ByteArray := prog_5_method_2_code
def yX3_copyFrom : MethodName := ⟨RX3, "copyFrom", "(LSlackRows$Node;)V"⟩
abbrev cX3_isCritical : ByteArray := prog_5_method_3_code
def yX3_isCritical : MethodName := ⟨RX3, "isCritical", "()Z"⟩
abbrev cX3_isCriticalTask : ByteArray := prog_5_method_4_code
def yX3_isCriticalTask : MethodName := ⟨RX3, "isCriticalTask", "()Z"⟩
abbrev cX3_runsAt : ByteArray := prog_5_method_5_code
def yX3_runsAt : MethodName := ⟨RX3, "runsAt", "(I)Z"⟩
abbrev cX3_standsIn : ByteArray := prog_5_method_6_code
def yX3_standsIn : MethodName := ⟨RX3, "standsIn", "(II)Z"⟩
abbrev cX3_isWithin : ByteArray := prog_5_method_7_code
def yX3_isWithin : MethodName := ⟨RX3, "isWithin", "(LSlackRows$Node;)Z"⟩
abbrev cX3_whyNotTo : ByteArray := prog_5_method_8_code
def yX3_whyNotTo : MethodName := ⟨RX3, "whyNotTo", "(LSlackRows$Node;)I"⟩
abbrev cX3_rowLength : ByteArray := prog_5_method_9_code
def yX3_rowLength : MethodName := ⟨RX3, "rowLength", "(I)I"⟩
abbrev cX3_lengthenRow : ByteArray := prog_5_method_10_code
def yX3_lengthenRow : MethodName := ⟨RX3, "lengthenRow", "(II)V"⟩
abbrev cX3_longestRowBut : ByteArray := prog_5_method_11_code
def yX3_longestRowBut : MethodName := ⟨RX3, "longestRowBut", "(I)I"⟩
abbrev cX3_reserveWith : ByteArray := prog_5_method_12_code
def yX3_reserveWith : MethodName := ⟨RX3, "reserveWith", "(I)I"⟩
abbrev cX3_lengthWith : ByteArray := prog_5_method_13_code
def yX3_lengthWith : MethodName := ⟨RX3, "lengthWith", "(I)I"⟩
abbrev cX3_endIfLength : ByteArray := prog_5_method_14_code
def yX3_endIfLength : MethodName := ⟨RX3, "endIfLength", "(I)I"⟩
abbrev cX3_value : ByteArray := prog_5_method_15_code
def yX3_value : MethodName := ⟨RX3, "value", "(I)I"⟩
def RX4 : String := "SlackRows$Refusal"
def TX4 : u_T := fun k => match k with
  | _ => ("", "", "", false)
def tyX4 : Nat → FieldType := fun k => match k with
  | _ => .int
abbrev wsX40 : List Cond := u_ws RX4 TX4 0
theorem nmX4 : ∀ a, a < 0 → ∀ b, b < 0 → a ≠ b → (TX4 a).2.1 ≠ (TX4 b).2.1 := by decide +kernel
theorem tyX4_ok : ∀ k, k < 0 → parseFieldDescriptor (TX4 k).2.2.1 = some (tyX4 k) := by decide +kernel
def RX5 : String := "SlackRows$Tree"
def TX5 : u_T := fun k => match k with
  | 0 => ("SlackRows$Tree", "nodes", "[LSlackRows$Node;", true)
  | 1 => ("SlackRows$Tree", "order", "[LSlackRows$Node;", true)
  | 2 => ("SlackRows$Tree", "size", "I", false)
  | 3 => ("SlackRows$Tree", "added", "I", false)
  | _ => ("SlackRows$Tree", "deadline", "I", false)
def tyX5 : Nat → FieldType := fun k => match k with
  | 0 => .array (.object "SlackRows$Node")
  | 1 => .array (.object "SlackRows$Node")
  | 2 => .int
  | 3 => .int
  | _ => .int
abbrev wsX50 : List Cond := u_ws RX5 TX5 5
theorem nmX5 : ∀ a, a < 5 → ∀ b, b < 5 → a ≠ b → (TX5 a).2.1 ≠ (TX5 b).2.1 := by decide +kernel
theorem tyX5_ok : ∀ k, k < 5 → parseFieldDescriptor (TX5 k).2.2.1 = some (tyX5 k) := by decide +kernel
abbrev cX5_init : ByteArray := prog_7_method_1_code
def yX5_init : MethodName := ⟨RX5, "<init>", "()V"⟩
abbrev cX5_copyFrom : ByteArray := prog_7_method_2_code
def yX5_copyFrom : MethodName := ⟨RX5, "copyFrom", "(LSlackRows$Tree;)V"⟩
abbrev cX5_find : ByteArray := prog_7_method_3_code
def yX5_find : MethodName := ⟨RX5, "find", "(I)LSlackRows$Node;"⟩
abbrev cX5_plan : ByteArray := prog_7_method_4_code
def yX5_plan : MethodName := ⟨RX5, "plan", "()V"⟩
abbrev cX5_findOrder : ByteArray := prog_7_method_5_code
def yX5_findOrder : MethodName := ⟨RX5, "findOrder", "()V"⟩
abbrev cX5_findAhead : ByteArray := prog_7_method_6_code
def yX5_findAhead : MethodName := ⟨RX5, "findAhead", "(I)LSlackRows$Node;"⟩
abbrev cX5_measureLengths : ByteArray := prog_7_method_7_code
def yX5_measureLengths : MethodName := ⟨RX5, "measureLengths", "()V"⟩
abbrev cX5_tellTimes : ByteArray := prog_7_method_8_code
def yX5_tellTimes : MethodName := ⟨RX5, "tellTimes", "(LSlackRows$Node;)V"⟩
abbrev cX5_refusal : ByteArray := prog_7_method_9_code
def yX5_refusal : MethodName := ⟨RX5, "refusal", "(LSlackRows$Command;III)LSlackRows$Refusal;"⟩
abbrev cX5_areInRange : ByteArray := prog_7_method_10_code
def yX5_areInRange : MethodName := ⟨RX5, "areInRange", "(LSlackRows$Command;II)Z"⟩
abbrev cX5_isPossible : ByteArray := prog_7_method_11_code
def yX5_isPossible : MethodName := ⟨RX5, "isPossible", "(LSlackRows$Command;LSlackRows$Node;I)Z"⟩
abbrev cX5_canMoveTo : ByteArray := prog_7_method_12_code
def yX5_canMoveTo : MethodName := ⟨RX5, "canMoveTo", "(LSlackRows$Node;LSlackRows$Node;)Z"⟩
abbrev cX5_carryOut : ByteArray := prog_7_method_13_code
def yX5_carryOut : MethodName := ⟨RX5, "carryOut", "(LSlackRows$Command;III)I"⟩
abbrev cX5_addNode : ByteArray := prog_7_method_14_code
def yX5_addNode : MethodName := ⟨RX5, "addNode", "(LSlackRows$Node;IZI)I"⟩
abbrev cX5_putLast : ByteArray := prog_7_method_15_code
def yX5_putLast : MethodName := ⟨RX5, "putLast", "(LSlackRows$Node;II)I"⟩
abbrev cX5_dropAll : ByteArray := prog_7_method_16_code
def yX5_dropAll : MethodName := ⟨RX5, "dropAll", "(LSlackRows$Node;)I"⟩
abbrev cX5_changeDuration : ByteArray := prog_7_method_17_code
def yX5_changeDuration : MethodName := ⟨RX5, "changeDuration", "(LSlackRows$Node;I)I"⟩
abbrev cX5_changeReserve : ByteArray := prog_7_method_18_code
def yX5_changeReserve : MethodName := ⟨RX5, "changeReserve", "(LSlackRows$Node;I)I"⟩
abbrev cX5_end : ByteArray := prog_7_method_19_code
def yX5_end : MethodName := ⟨RX5, "end", "()I"⟩
abbrev cX5_lateness : ByteArray := prog_7_method_20_code
def yX5_lateness : MethodName := ⟨RX5, "lateness", "()I"⟩
abbrev cX5_value : ByteArray := prog_7_method_21_code
def yX5_value : MethodName := ⟨RX5, "value", "(I)I"⟩
abbrev cX5_countTasks : ByteArray := prog_7_method_22_code
def yX5_countTasks : MethodName := ⟨RX5, "countTasks", "()I"⟩
abbrev cX5_countCriticalTasks : ByteArray := prog_7_method_23_code
def yX5_countCriticalTasks : MethodName := ⟨RX5, "countCriticalTasks", "()I"⟩
abbrev cX5_countCriticalRows : ByteArray := prog_7_method_24_code
def yX5_countCriticalRows : MethodName := ⟨RX5, "countCriticalRows", "()I"⟩
abbrev cX5_sumOfDurations : ByteArray := prog_7_method_25_code
def yX5_sumOfDurations : MethodName := ⟨RX5, "sumOfDurations", "()I"⟩
abbrev cX5_sumOfReserves : ByteArray := prog_7_method_26_code
def yX5_sumOfReserves : MethodName := ⟨RX5, "sumOfReserves", "()I"⟩
abbrev cX5_mostRunning : ByteArray := prog_7_method_27_code
def yX5_mostRunning : MethodName := ⟨RX5, "mostRunning", "()I"⟩
abbrev cX5_countRunning : ByteArray := prog_7_method_28_code
def yX5_countRunning : MethodName := ⟨RX5, "countRunning", "(I)I"⟩
abbrev cX5_rowValue : ByteArray := prog_7_method_29_code
def yX5_rowValue : MethodName := ⟨RX5, "rowValue", "(LSlackRows$Node;II)I"⟩
abbrev cX5_countChildren : ByteArray := prog_7_method_30_code
def yX5_countChildren : MethodName := ⟨RX5, "countChildren", "(LSlackRows$Node;I)I"⟩
abbrev cX5_isCriticalRow : ByteArray := prog_7_method_31_code
def yX5_isCriticalRow : MethodName := ⟨RX5, "isCriticalRow", "(LSlackRows$Node;I)Z"⟩
abbrev cX5_childNumber : ByteArray := prog_7_method_32_code
def yX5_childNumber : MethodName := ⟨RX5, "childNumber", "(LSlackRows$Node;II)I"⟩
abbrev cX5_criticalNumber : ByteArray := prog_7_method_33_code
def yX5_criticalNumber : MethodName := ⟨RX5, "criticalNumber", "(I)I"⟩
abbrev cX5_nextCritical : ByteArray := prog_7_method_34_code
def yX5_nextCritical : MethodName := ⟨RX5, "nextCritical", "(LSlackRows$Node;)LSlackRows$Node;"⟩
abbrev cX5_startsBefore : ByteArray := prog_7_method_35_code
def yX5_startsBefore : MethodName := ⟨RX5, "startsBefore", "(LSlackRows$Node;LSlackRows$Node;)Z"⟩
abbrev cX5_nextNumbered : ByteArray := prog_7_method_36_code
def yX5_nextNumbered : MethodName := ⟨RX5, "nextNumbered", "(I)LSlackRows$Node;"⟩
abbrev cX5_greatestDuration : ByteArray := prog_7_method_37_code
def yX5_greatestDuration : MethodName := ⟨RX5, "greatestDuration", "(LSlackRows$Node;)I"⟩
abbrev cX5_cutNumber : ByteArray := prog_7_method_38_code
def yX5_cutNumber : MethodName := ⟨RX5, "cutNumber", "()I"⟩
abbrev cX5_slackIfBorrowed : ByteArray := prog_7_method_39_code
def yX5_slackIfBorrowed : MethodName := ⟨RX5, "slackIfBorrowed", "(LSlackRows$Node;LSlackRows$Node;)I"⟩
abbrev cX5_mixNodes : ByteArray := prog_7_method_40_code
def yX5_mixNodes : MethodName := ⟨RX5, "mixNodes", "(J)J"⟩
abbrev cX5_mixNode : ByteArray := prog_7_method_41_code
def yX5_mixNode : MethodName := ⟨RX5, "mixNode", "(JLSlackRows$Node;)J"⟩
abbrev cX5_mixCritical : ByteArray := prog_7_method_42_code
def yX5_mixCritical : MethodName := ⟨RX5, "mixCritical", "(J)J"⟩
def RX6 : String := "SlackRows"
def TX6 : u_T := fun k => match k with
  | 0 => ("SlackRows", "text", "LSlackRows$CommandText;", true)
  | 1 => ("SlackRows", "saved", "[LSlackRows$Tree;", true)
  | 2 => ("SlackRows", "savedCount", "I", false)
  | _ => ("SlackRows", "tree", "LSlackRows$Tree;", false)
def tyX6 : Nat → FieldType := fun k => match k with
  | 0 => .object "SlackRows$CommandText"
  | 1 => .array (.object "SlackRows$Tree")
  | 2 => .int
  | _ => .object "SlackRows$Tree"
abbrev wsX60 : List Cond := u_ws RX6 TX6 4
theorem nmX6 : ∀ a, a < 4 → ∀ b, b < 4 → a ≠ b → (TX6 a).2.1 ≠ (TX6 b).2.1 := by decide +kernel
theorem tyX6_ok : ∀ k, k < 4 → parseFieldDescriptor (TX6 k).2.2.1 = some (tyX6 k) := by decide +kernel
abbrev cX6_init : ByteArray := prog_1_method_1_code
def yX6_init : MethodName := ⟨RX6, "<init>", "()V"⟩
abbrev cX6_addGroup : ByteArray := prog_1_method_2_code
def yX6_addGroup : MethodName := ⟨RX6, "addGroup", "(II)I"⟩
abbrev cX6_addTask : ByteArray := prog_1_method_3_code
def yX6_addTask : MethodName := ⟨RX6, "addTask", "(III)I"⟩
abbrev cX6_move : ByteArray := prog_1_method_4_code
def yX6_move : MethodName := ⟨RX6, "move", "(III)I"⟩
abbrev cX6_remove : ByteArray := prog_1_method_5_code
def yX6_remove : MethodName := ⟨RX6, "remove", "(I)I"⟩
abbrev cX6_setDuration : ByteArray := prog_1_method_6_code
def yX6_setDuration : MethodName := ⟨RX6, "setDuration", "(II)I"⟩
abbrev cX6_borrow : ByteArray := prog_1_method_7_code
def yX6_borrow : MethodName := ⟨RX6, "borrow", "(II)I"⟩
abbrev cX6_giveBack : ByteArray := prog_1_method_8_code
def yX6_giveBack : MethodName := ⟨RX6, "giveBack", "(II)I"⟩
abbrev cX6_setDeadline : ByteArray := prog_1_method_9_code
def yX6_setDeadline : MethodName := ⟨RX6, "setDeadline", "(I)I"⟩
abbrev cX6_node : ByteArray := prog_1_method_10_code
def yX6_node : MethodName := ⟨RX6, "node", "(II)I"⟩
abbrev cX6_row : ByteArray := prog_1_method_11_code
def yX6_row : MethodName := ⟨RX6, "row", "(III)I"⟩
abbrev cX6_child : ByteArray := prog_1_method_12_code
def yX6_child : MethodName := ⟨RX6, "child", "(III)I"⟩
abbrev cX6_critical : ByteArray := prog_1_method_13_code
def yX6_critical : MethodName := ⟨RX6, "critical", "(I)I"⟩
abbrev cX6_running : ByteArray := prog_1_method_14_code
def yX6_running : MethodName := ⟨RX6, "running", "(I)I"⟩
abbrev cX6_whole : ByteArray := prog_1_method_15_code
def yX6_whole : MethodName := ⟨RX6, "whole", "(I)I"⟩
abbrev cX6_endWith : ByteArray := prog_1_method_16_code
def yX6_endWith : MethodName := ⟨RX6, "endWith", "(II)I"⟩
abbrev cX6_growsTo : ByteArray := prog_1_method_17_code
def yX6_growsTo : MethodName := ⟨RX6, "growsTo", "(I)I"⟩
abbrev cX6_bestCut : ByteArray := prog_1_method_18_code
def yX6_bestCut : MethodName := ⟨RX6, "bestCut", "()I"⟩
abbrev cX6_slackIf : ByteArray := prog_1_method_19_code
def yX6_slackIf : MethodName := ⟨RX6, "slackIf", "(II)I"⟩
abbrev cX6_reason : ByteArray := prog_1_method_20_code
def yX6_reason : MethodName := ⟨RX6, "reason", "(II)I"⟩
abbrev cX6_type : ByteArray := prog_1_method_21_code
def yX6_type : MethodName := ⟨RX6, "type", "(I)I"⟩
abbrev cX6_clearCommands : ByteArray := prog_1_method_22_code
def yX6_clearCommands : MethodName := ⟨RX6, "clearCommands", "()I"⟩
abbrev cX6_runCommands : ByteArray := prog_1_method_23_code
def yX6_runCommands : MethodName := ⟨RX6, "runCommands", "()I"⟩
abbrev cX6_undo : ByteArray := prog_1_method_24_code
def yX6_undo : MethodName := ⟨RX6, "undo", "()I"⟩
abbrev cX6_digest : ByteArray := prog_1_method_25_code
def yX6_digest : MethodName := ⟨RX6, "digest", "()J"⟩
abbrev cX6_mix : ByteArray := prog_1_method_26_code
def yX6_mix : MethodName := ⟨RX6, "mix", "(JI)J"⟩
abbrev cX6_isBetween : ByteArray := prog_1_method_27_code
def yX6_isBetween : MethodName := ⟨RX6, "isBetween", "(III)Z"⟩
abbrev cX6_existing : ByteArray := prog_1_method_28_code
def yX6_existing : MethodName := ⟨RX6, "existing", "(I)LSlackRows$Node;"⟩
abbrev cX6_requireRange : ByteArray := prog_1_method_29_code
def yX6_requireRange : MethodName := ⟨RX6, "requireRange", "(III)V"⟩
abbrev cX6_requireNotNegative : ByteArray := prog_1_method_30_code
def yX6_requireNotNegative : MethodName := ⟨RX6, "requireNotNegative", "(I)V"⟩
abbrev cX6_requireGroup : ByteArray := prog_1_method_31_code
def yX6_requireGroup : MethodName := ⟨RX6, "requireGroup", "(LSlackRows$Node;)V"⟩
abbrev cX6_requireTask : ByteArray := prog_1_method_32_code
def yX6_requireTask : MethodName := ⟨RX6, "requireTask", "(LSlackRows$Node;)V"⟩
abbrev cX6_requireAllowed : ByteArray := prog_1_method_33_code
def yX6_requireAllowed : MethodName := ⟨RX6, "requireAllowed", "(LSlackRows$Refusal;)V"⟩
abbrev cX6_change : ByteArray := prog_1_method_34_code
def yX6_change : MethodName := ⟨RX6, "change", "(LSlackRows$Command;III)I"⟩
abbrev cX6_save : ByteArray := prog_1_method_35_code
def yX6_save : MethodName := ⟨RX6, "save", "()V"⟩
abbrev cX6_runFaultless : ByteArray := prog_1_method_36_code
def yX6_runFaultless : MethodName := ⟨RX6, "runFaultless", "()I"⟩
abbrev cX6_wholeValue : ByteArray := prog_1_method_37_code
def yX6_wholeValue : MethodName := ⟨RX6, "wholeValue", "(I)I"⟩
def RX7 : String := "SlackRowsModel"
def TX7 : u_T := fun k => match k with
  | 0 => ("SlackRowsModel", "row", "[I", true)
  | 1 => ("SlackRowsModel", "kept", "I", false)
  | 2 => ("SlackRowsModel", "thrown", "I", false)
  | 3 => ("SlackRowsModel", "text", "[I", true)
  | 4 => ("SlackRowsModel", "length", "I", false)
  | 5 => ("SlackRowsModel", "long1", "[I", true)
  | 6 => ("SlackRowsModel", "start", "[I", true)
  | 7 => ("SlackRowsModel", "slack", "[I", true)
  | 8 => ("SlackRowsModel", "deep", "[I", true)
  | 9 => ("SlackRowsModel", "order", "[I", true)
  | 10 => ("SlackRowsModel", "goes", "[Z", true)
  | 11 => ("SlackRowsModel", "at", "I", false)
  | 12 => ("SlackRowsModel", "numbers", "I", false)
  | 13 => ("SlackRowsModel", "given", "[I", true)
  | _ => ("SlackRowsModel", "critical", "[I", true)
def tyX7 : Nat → FieldType := fun k => match k with
  | 0 => .array .int
  | 1 => .int
  | 2 => .int
  | 3 => .array .int
  | 4 => .int
  | 5 => .array .int
  | 6 => .array .int
  | 7 => .array .int
  | 8 => .array .int
  | 9 => .array .int
  | 10 => .array .boolean
  | 11 => .int
  | 12 => .int
  | 13 => .array .int
  | _ => .array .int
abbrev wsX70 : List Cond := u_ws RX7 TX7 15
theorem nmX7 : ∀ a, a < 15 → ∀ b, b < 15 → a ≠ b → (TX7 a).2.1 ≠ (TX7 b).2.1 := by decide +kernel
theorem tyX7_ok : ∀ k, k < 15 → parseFieldDescriptor (TX7 k).2.2.1 = some (tyX7 k) := by decide +kernel
abbrev cX7_init : ByteArray := prog_9_method_1_code
def yX7_init : MethodName := ⟨RX7, "<init>", "()V"⟩
abbrev cX7_in : ByteArray := prog_9_method_2_code
def yX7_in : MethodName := ⟨RX7, "in", "(III)Z"⟩
abbrev cX7_copies : ByteArray := prog_9_method_3_code
def yX7_copies : MethodName := ⟨RX7, "copies", "(II)V"⟩
abbrev cX7_saves : ByteArray := prog_9_method_4_code
def yX7_saves : MethodName := ⟨RX7, "saves", "()V"⟩
abbrev cX7_of : ByteArray := prog_9_method_5_code
def yX7_of : MethodName := ⟨RX7, "of", "(II)I"⟩
abbrev cX7_set : ByteArray := prog_9_method_6_code
def yX7_set : MethodName := ⟨RX7, "set", "(III)V"⟩
abbrev cX7_find : ByteArray := prog_9_method_7_code
def yX7_find : MethodName := ⟨RX7, "find", "(I)I"⟩
abbrev cX7_isTask : ByteArray := prog_9_method_8_code
def yX7_isTask : MethodName := ⟨RX7, "isTask", "(I)Z"⟩
abbrev cX7_thrown : ByteArray := prog_9_method_9_code
def yX7_thrown : MethodName := ⟨RX7, "thrown", "()I"⟩
abbrev cX7_isRefused : ByteArray := prog_9_method_10_code
def yX7_isRefused : MethodName := ⟨RX7, "isRefused", "(I)Z"⟩
abbrev cX7_isBarred : ByteArray := prog_9_method_11_code
def yX7_isBarred : MethodName := ⟨RX7, "isBarred", "(I)Z"⟩
abbrev cX7_isIn : ByteArray := prog_9_method_12_code
def yX7_isIn : MethodName := ⟨RX7, "isIn", "(III)Z"⟩
abbrev cX7_rowLength : ByteArray := prog_9_method_13_code
def yX7_rowLength : MethodName := ⟨RX7, "rowLength", "(II)I"⟩
abbrev cX7_layOrder : ByteArray := prog_9_method_14_code
def yX7_layOrder : MethodName := ⟨RX7, "layOrder", "()V"⟩
abbrev cX7_lengthOf : ByteArray := prog_9_method_15_code
def yX7_lengthOf : MethodName := ⟨RX7, "lengthOf", "(I)I"⟩
abbrev cX7_rowSlack : ByteArray := prog_9_method_16_code
def yX7_rowSlack : MethodName := ⟨RX7, "rowSlack", "(II)I"⟩
abbrev cX7_layTimes : ByteArray := prog_9_method_17_code
def yX7_layTimes : MethodName := ⟨RX7, "layTimes", "(I)V"⟩
abbrev cX7_lay : ByteArray := prog_9_method_18_code
def yX7_lay : MethodName := ⟨RX7, "lay", "()V"⟩
abbrev cX7_end : ByteArray := prog_9_method_19_code
def yX7_end : MethodName := ⟨RX7, "end", "()I"⟩
abbrev cX7_lateness : ByteArray := prog_9_method_20_code
def yX7_lateness : MethodName := ⟨RX7, "lateness", "()I"⟩
abbrev cX7_childrenOf : ByteArray := prog_9_method_21_code
def yX7_childrenOf : MethodName := ⟨RX7, "childrenOf", "(II)I"⟩
abbrev cX7_whyNotAdd : ByteArray := prog_9_method_22_code
def yX7_whyNotAdd : MethodName := ⟨RX7, "whyNotAdd", "(III)I"⟩
abbrev cX7_adds : ByteArray := prog_9_method_23_code
def yX7_adds : MethodName := ⟨RX7, "adds", "(IIII)I"⟩
abbrev cX7_addGroup : ByteArray := prog_9_method_24_code
def yX7_addGroup : MethodName := ⟨RX7, "addGroup", "(II)I"⟩
abbrev cX7_addTask : ByteArray := prog_9_method_25_code
def yX7_addTask : MethodName := ⟨RX7, "addTask", "(III)I"⟩
abbrev cX7_isBelow : ByteArray := prog_9_method_26_code
def yX7_isBelow : MethodName := ⟨RX7, "isBelow", "(II)Z"⟩
abbrev cX7_reasonOf : ByteArray := prog_9_method_27_code
def yX7_reasonOf : MethodName := ⟨RX7, "reasonOf", "(II)I"⟩
abbrev cX7_whyNotMove : ByteArray := prog_9_method_28_code
def yX7_whyNotMove : MethodName := ⟨RX7, "whyNotMove", "(III)I"⟩
abbrev cX7_leaves : ByteArray := prog_9_method_29_code
def yX7_leaves : MethodName := ⟨RX7, "leaves", "(I)V"⟩
abbrev cX7_moves : ByteArray := prog_9_method_30_code
def yX7_moves : MethodName := ⟨RX7, "moves", "(III)I"⟩
abbrev cX7_move : ByteArray := prog_9_method_31_code
def yX7_move : MethodName := ⟨RX7, "move", "(III)I"⟩
abbrev cX7_whyNotRemove : ByteArray := prog_9_method_32_code
def yX7_whyNotRemove : MethodName := ⟨RX7, "whyNotRemove", "(I)I"⟩
abbrev cX7_removes : ByteArray := prog_9_method_33_code
def yX7_removes : MethodName := ⟨RX7, "removes", "(I)I"⟩
abbrev cX7_remove : ByteArray := prog_9_method_34_code
def yX7_remove : MethodName := ⟨RX7, "remove", "(I)I"⟩
abbrev cX7_whyNotTask : ByteArray := prog_9_method_35_code
def yX7_whyNotTask : MethodName := ⟨RX7, "whyNotTask", "(IZ)I"⟩
abbrev cX7_lasts : ByteArray := prog_9_method_36_code
def yX7_lasts : MethodName := ⟨RX7, "lasts", "(II)V"⟩
abbrev cX7_setDuration : ByteArray := prog_9_method_37_code
def yX7_setDuration : MethodName := ⟨RX7, "setDuration", "(II)I"⟩
abbrev cX7_slackOf : ByteArray := prog_9_method_38_code
def yX7_slackOf : MethodName := ⟨RX7, "slackOf", "(I)I"⟩
abbrev cX7_whyNotBorrow : ByteArray := prog_9_method_39_code
def yX7_whyNotBorrow : MethodName := ⟨RX7, "whyNotBorrow", "(II)I"⟩
abbrev cX7_whyNotBack : ByteArray := prog_9_method_40_code
def yX7_whyNotBack : MethodName := ⟨RX7, "whyNotBack", "(II)I"⟩
abbrev cX7_reserves : ByteArray := prog_9_method_41_code
def yX7_reserves : MethodName := ⟨RX7, "reserves", "(II)I"⟩
abbrev cX7_borrow : ByteArray := prog_9_method_42_code
def yX7_borrow : MethodName := ⟨RX7, "borrow", "(II)I"⟩
abbrev cX7_giveBack : ByteArray := prog_9_method_43_code
def yX7_giveBack : MethodName := ⟨RX7, "giveBack", "(II)I"⟩
abbrev cX7_whyNotUntil : ByteArray := prog_9_method_44_code
def yX7_whyNotUntil : MethodName := ⟨RX7, "whyNotUntil", "(I)I"⟩
abbrev cX7_setDeadline : ByteArray := prog_9_method_45_code
def yX7_setDeadline : MethodName := ⟨RX7, "setDeadline", "(I)I"⟩
abbrev cX7_nodeValue : ByteArray := prog_9_method_46_code
def yX7_nodeValue : MethodName := ⟨RX7, "nodeValue", "(II)I"⟩
abbrev cX7_node : ByteArray := prog_9_method_47_code
def yX7_node : MethodName := ⟨RX7, "node", "(II)I"⟩
abbrev cX7_isCriticalRow : ByteArray := prog_9_method_48_code
def yX7_isCriticalRow : MethodName := ⟨RX7, "isCriticalRow", "(II)Z"⟩
abbrev cX7_whyNotRow : ByteArray := prog_9_method_49_code
def yX7_whyNotRow : MethodName := ⟨RX7, "whyNotRow", "(IZ)I"⟩
abbrev cX7_rowValue : ByteArray := prog_9_method_50_code
def yX7_rowValue : MethodName := ⟨RX7, "rowValue", "(III)I"⟩
abbrev cX7_row : ByteArray := prog_9_method_51_code
def yX7_row : MethodName := ⟨RX7, "row", "(III)I"⟩
abbrev cX7_child : ByteArray := prog_9_method_52_code
def yX7_child : MethodName := ⟨RX7, "child", "(III)I"⟩
abbrev cX7_layCritical : ByteArray := prog_9_method_53_code
def yX7_layCritical : MethodName := ⟨RX7, "layCritical", "()I"⟩
abbrev cX7_critical : ByteArray := prog_9_method_54_code
def yX7_critical : MethodName := ⟨RX7, "critical", "(I)I"⟩
abbrev cX7_runningAt : ByteArray := prog_9_method_55_code
def yX7_runningAt : MethodName := ⟨RX7, "runningAt", "(I)I"⟩
abbrev cX7_running : ByteArray := prog_9_method_56_code
def yX7_running : MethodName := ⟨RX7, "running", "(I)I"⟩
abbrev cX7_wholeValue : ByteArray := prog_9_method_57_code
def yX7_wholeValue : MethodName := ⟨RX7, "wholeValue", "(I)I"⟩
abbrev cX7_whole : ByteArray := prog_9_method_58_code
def yX7_whole : MethodName := ⟨RX7, "whole", "(I)I"⟩
abbrev cX7_putAside : ByteArray := prog_9_method_59_code
def yX7_putAside : MethodName := ⟨RX7, "putAside", "()V"⟩
abbrev cX7_comesBack : ByteArray := prog_9_method_60_code
def yX7_comesBack : MethodName := ⟨RX7, "comesBack", "()V"⟩
abbrev cX7_endBy : ByteArray := prog_9_method_61_code
def yX7_endBy : MethodName := ⟨RX7, "endBy", "(II)I"⟩
abbrev cX7_endWith : ByteArray := prog_9_method_62_code
def yX7_endWith : MethodName := ⟨RX7, "endWith", "(II)I"⟩
abbrev cX7_growsTo : ByteArray := prog_9_method_63_code
def yX7_growsTo : MethodName := ⟨RX7, "growsTo", "(I)I"⟩
abbrev cX7_cutTask : ByteArray := prog_9_method_64_code
def yX7_cutTask : MethodName := ⟨RX7, "cutTask", "()I"⟩
abbrev cX7_bestCut : ByteArray := prog_9_method_65_code
def yX7_bestCut : MethodName := ⟨RX7, "bestCut", "()I"⟩
abbrev cX7_slackIf : ByteArray := prog_9_method_66_code
def yX7_slackIf : MethodName := ⟨RX7, "slackIf", "(II)I"⟩
abbrev cX7_reason : ByteArray := prog_9_method_67_code
def yX7_reason : MethodName := ⟨RX7, "reason", "(II)I"⟩
abbrev cX7_type : ByteArray := prog_9_method_68_code
def yX7_type : MethodName := ⟨RX7, "type", "(I)I"⟩
abbrev cX7_clearCommands : ByteArray := prog_9_method_69_code
def yX7_clearCommands : MethodName := ⟨RX7, "clearCommands", "()I"⟩
abbrev cX7_here : ByteArray := prog_9_method_70_code
def yX7_here : MethodName := ⟨RX7, "here", "()I"⟩
abbrev cX7_passSpaces : ByteArray := prog_9_method_71_code
def yX7_passSpaces : MethodName := ⟨RX7, "passSpaces", "()V"⟩
abbrev cX7_word : ByteArray := prog_9_method_72_code
def yX7_word : MethodName := ⟨RX7, "word", "()I"⟩
abbrev cX7_numbersOf : ByteArray := prog_9_method_73_code
def yX7_numbersOf : MethodName := ⟨RX7, "numbersOf", "(I)I"⟩
abbrev cX7_isNumber : ByteArray := prog_9_method_74_code
def yX7_isNumber : MethodName := ⟨RX7, "isNumber", "()Z"⟩
abbrev cX7_command : ByteArray := prog_9_method_75_code
def yX7_command : MethodName := ⟨RX7, "command", "()I"⟩
abbrev cX7_fault : ByteArray := prog_9_method_76_code
def yX7_fault : MethodName := ⟨RX7, "fault", "()I"⟩
abbrev cX7_does : ByteArray := prog_9_method_77_code
def yX7_does : MethodName := ⟨RX7, "does", "(I)Z"⟩
abbrev cX7_changes : ByteArray := prog_9_method_78_code
def yX7_changes : MethodName := ⟨RX7, "changes", "(IIII)V"⟩
abbrev cX7_runCommands : ByteArray := prog_9_method_79_code
def yX7_runCommands : MethodName := ⟨RX7, "runCommands", "()I"⟩
abbrev cX7_undo : ByteArray := prog_9_method_80_code
def yX7_undo : MethodName := ⟨RX7, "undo", "()I"⟩
abbrev cX7_digest : ByteArray := prog_9_method_81_code
def yX7_digest : MethodName := ⟨RX7, "digest", "()J"⟩
def RJx29ce0 : String := "java/lang/Enum"
def TJx29ce0 : u_T := fun k => match k with
  | _ => ("", "", "", false)
def tyJx29ce0 : Nat → FieldType := fun k => match k with
  | _ => .int
abbrev wsJx29ce00 : List Cond := u_ws RJx29ce0 TJx29ce0 0
theorem nmJx29ce0 : ∀ a, a < 0 → ∀ b, b < 0 → a ≠ b → (TJx29ce0 a).2.1 ≠ (TJx29ce0 b).2.1 := by decide +kernel
theorem tyJx29ce0_ok : ∀ k, k < 0 → parseFieldDescriptor (TJx29ce0 k).2.2.1 = some (tyJx29ce0 k) := by decide +kernel
abbrev cJx29ce0_ordinal_8abf5 : ByteArray := prog_10_method_2_code
def yJx29ce0_ordinal_8abf5 : MethodName := ⟨RJx29ce0, "ordinal", "()I"⟩
def RJ9 : String := "java/lang/Math"
def TJ9 : u_T := fun k => match k with
  | _ => ("", "", "", false)
def tyJ9 : Nat → FieldType := fun k => match k with
  | _ => .int
abbrev wsJ90 : List Cond := u_ws RJ9 TJ9 0
theorem nmJ9 : ∀ a, a < 0 → ∀ b, b < 0 → a ≠ b → (TJ9 a).2.1 ≠ (TJ9 b).2.1 := by decide +kernel
theorem tyJ9_ok : ∀ k, k < 0 → parseFieldDescriptor (TJ9 k).2.2.1 = some (tyJ9 k) := by decide +kernel
abbrev cJ9_max_7cf53 : ByteArray := prog_15_method_65_code
def yJ9_max_7cf53 : MethodName := ⟨RJ9, "max", "(II)I"⟩
abbrev cJ9_min_7cf53 : ByteArray := prog_15_method_69_code
def yJ9_min_7cf53 : MethodName := ⟨RJ9, "min", "(II)I"⟩
def RJ0 : String := "java/lang/String"
def TJ0 : u_T := fun k => match k with
  | _ => ("", "", "", false)
def tyJ0 : Nat → FieldType := fun k => match k with
  | _ => .int
abbrev wsJ00 : List Cond := u_ws RJ0 TJ0 0
theorem nmJ0 : ∀ a, a < 0 → ∀ b, b < 0 → a ≠ b → (TJ0 a).2.1 ≠ (TJ0 b).2.1 := by decide +kernel
theorem tyJ0_ok : ∀ k, k < 0 → parseFieldDescriptor (TJ0 k).2.2.1 = some (tyJ0 k) := by decide +kernel
abbrev cJ0_length_8abf5 : ByteArray := prog_17_method_54_code
def yJ0_length_8abf5 : MethodName := ⟨RJ0, "length", "()I"⟩
abbrev cJ0_charAt_5068e : ByteArray := prog_17_method_56_code
def yJ0_charAt_5068e : MethodName := ⟨RJ0, "charAt", "(I)C"⟩
abbrev cJ0_coder_7d493 : ByteArray := prog_17_method_152_code
def yJ0_coder_7d493 : MethodName := ⟨RJ0, "coder", "()B"⟩
abbrev cJ0_isLatin1_aae02 : ByteArray := prog_17_method_154_code
def yJ0_isLatin1_aae02 : MethodName := ⟨RJ0, "isLatin1", "()Z"⟩
abbrev cJ0_checkIndex_df160 : ByteArray := prog_17_method_155_code
def yJ0_checkIndex_df160 : MethodName := ⟨RJ0, "checkIndex", "(II)V"⟩
def RJ1 : String := "java/lang/StringLatin1"
def TJ1 : u_T := fun k => match k with
  | _ => ("", "", "", false)
def tyJ1 : Nat → FieldType := fun k => match k with
  | _ => .int
abbrev wsJ10 : List Cond := u_ws RJ1 TJ1 0
theorem nmJ1 : ∀ a, a < 0 → ∀ b, b < 0 → a ≠ b → (TJ1 a).2.1 ≠ (TJ1 b).2.1 := by decide +kernel
theorem tyJ1_ok : ∀ k, k < 0 → parseFieldDescriptor (TJ1 k).2.2.1 = some (tyJ1 k) := by decide +kernel
abbrev cJ1_charAt_3b067 : ByteArray := prog_18_method_2_code
def yJ1_charAt_3b067 : MethodName := ⟨RJ1, "charAt", "([BI)C"⟩
def RJ2 : String := "java/lang/StringUTF16"
def TJ2 : u_T := fun k => match k with
  | _ => ("", "", "", false)
def tyJ2 : Nat → FieldType := fun k => match k with
  | _ => .int
abbrev wsJ20 : List Cond := u_ws RJ2 TJ2 0
theorem nmJ2 : ∀ a, a < 0 → ∀ b, b < 0 → a ≠ b → (TJ2 a).2.1 ≠ (TJ2 b).2.1 := by decide +kernel
theorem tyJ2_ok : ∀ k, k < 0 → parseFieldDescriptor (TJ2 k).2.2.1 = some (tyJ2 k) := by decide +kernel
abbrev cJ2_getChar_3b067 : ByteArray := prog_19_method_5_code
def yJ2_getChar_3b067 : MethodName := ⟨RJ2, "getChar", "([BI)C"⟩
abbrev cJ2_length_9d52b : ByteArray := prog_19_method_6_code
def yJ2_length_9d52b : MethodName := ⟨RJ2, "length", "([B)I"⟩
abbrev cJ2_charAt_3b067 : ByteArray := prog_19_method_83_code
def yJ2_charAt_3b067 : MethodName := ⟨RJ2, "charAt", "([BI)C"⟩
abbrev cJ2_checkIndex_2214a : ByteArray := prog_19_method_91_code
def yJ2_checkIndex_2214a : MethodName := ⟨RJ2, "checkIndex", "(I[B)V"⟩
def RJ3 : String := "jdk/internal/util/Preconditions"
def TJ3 : u_T := fun k => match k with
  | _ => ("", "", "", false)
def tyJ3 : Nat → FieldType := fun k => match k with
  | _ => .int
abbrev wsJ30 : List Cond := u_ws RJ3 TJ3 0
theorem nmJ3 : ∀ a, a < 0 → ∀ b, b < 0 → a ≠ b → (TJ3 a).2.1 ≠ (TJ3 b).2.1 := by decide +kernel
theorem tyJ3_ok : ∀ k, k < 0 → parseFieldDescriptor (TJ3 k).2.2.1 = some (tyJ3 k) := by decide +kernel
abbrev cJ3_checkIndex_8e157 : ByteArray := prog_21_method_11_code
def yJ3_checkIndex_8e157 : MethodName := ⟨RJ3, "checkIndex", "(IILjava/util/function/BiFunction;)I"⟩
def RL : String := "SlackRowsLaw"
abbrev cL_addGroup : ByteArray := method_3_code
def yL_addGroup : MethodName := ⟨RL, "addGroup", "(LSlackRows;II[J)I"⟩
abbrev cL_addTask : ByteArray := method_4_code
def yL_addTask : MethodName := ⟨RL, "addTask", "(LSlackRows;III[J)I"⟩
abbrev cL_move : ByteArray := method_5_code
def yL_move : MethodName := ⟨RL, "move", "(LSlackRows;III[J)I"⟩
abbrev cL_remove : ByteArray := method_6_code
def yL_remove : MethodName := ⟨RL, "remove", "(LSlackRows;I[J)I"⟩
abbrev cL_setDuration : ByteArray := method_7_code
def yL_setDuration : MethodName := ⟨RL, "setDuration", "(LSlackRows;II[J)I"⟩
abbrev cL_borrow : ByteArray := method_8_code
def yL_borrow : MethodName := ⟨RL, "borrow", "(LSlackRows;II[J)I"⟩
abbrev cL_giveBack : ByteArray := method_9_code
def yL_giveBack : MethodName := ⟨RL, "giveBack", "(LSlackRows;II[J)I"⟩
abbrev cL_setDeadline : ByteArray := method_10_code
def yL_setDeadline : MethodName := ⟨RL, "setDeadline", "(LSlackRows;I[J)I"⟩
abbrev cL_node : ByteArray := method_11_code
def yL_node : MethodName := ⟨RL, "node", "(LSlackRows;II[J)I"⟩
abbrev cL_row : ByteArray := method_12_code
def yL_row : MethodName := ⟨RL, "row", "(LSlackRows;III[J)I"⟩
abbrev cL_child : ByteArray := method_13_code
def yL_child : MethodName := ⟨RL, "child", "(LSlackRows;III[J)I"⟩
abbrev cL_critical : ByteArray := method_14_code
def yL_critical : MethodName := ⟨RL, "critical", "(LSlackRows;I[J)I"⟩
abbrev cL_running : ByteArray := method_15_code
def yL_running : MethodName := ⟨RL, "running", "(LSlackRows;I[J)I"⟩
abbrev cL_whole : ByteArray := method_16_code
def yL_whole : MethodName := ⟨RL, "whole", "(LSlackRows;I[J)I"⟩
abbrev cL_endWith : ByteArray := method_17_code
def yL_endWith : MethodName := ⟨RL, "endWith", "(LSlackRows;II[J)I"⟩
abbrev cL_growsTo : ByteArray := method_18_code
def yL_growsTo : MethodName := ⟨RL, "growsTo", "(LSlackRows;I[J)I"⟩
abbrev cL_slackIf : ByteArray := method_19_code
def yL_slackIf : MethodName := ⟨RL, "slackIf", "(LSlackRows;II[J)I"⟩
abbrev cL_reason : ByteArray := method_20_code
def yL_reason : MethodName := ⟨RL, "reason", "(LSlackRows;II[J)I"⟩
abbrev cL_type : ByteArray := method_21_code
def yL_type : MethodName := ⟨RL, "type", "(LSlackRows;I[J)I"⟩
abbrev cL_undo : ByteArray := method_22_code
def yL_undo : MethodName := ⟨RL, "undo", "(LSlackRows;[J)I"⟩
abbrev cL_law : ByteArray := code
def yL_law : MethodName := ⟨RL, "law", "([I)Z"⟩
set_option maxRecDepth 100000 in
theorem inX0 : ∀ w ∈ wsX00, w ∈ lw_tbl := by decide +kernel
set_option maxRecDepth 100000 in
theorem inX1 : ∀ w ∈ wsX10, w ∈ lw_tbl := by decide +kernel
set_option maxRecDepth 100000 in
theorem inX2 : ∀ w ∈ wsX20, w ∈ lw_tbl := by decide +kernel
set_option maxRecDepth 100000 in
theorem inX3 : ∀ w ∈ wsX30, w ∈ lw_tbl := by decide +kernel
set_option maxRecDepth 100000 in
theorem inX4 : ∀ w ∈ wsX40, w ∈ lw_tbl := by decide +kernel
set_option maxRecDepth 100000 in
theorem inX5 : ∀ w ∈ wsX50, w ∈ lw_tbl := by decide +kernel
set_option maxRecDepth 100000 in
theorem inX6 : ∀ w ∈ wsX60, w ∈ lw_tbl := by decide +kernel
set_option maxRecDepth 100000 in
theorem inX7 : ∀ w ∈ wsX70, w ∈ lw_tbl := by decide +kernel
abbrev vwCl : List vw_C := [(RX2, TX2, 5), (RX3, TX3, 15), (RX5, TX5, 5), (RX6, TX6, 4), (RX7, TX7, 15)]
end
section
theorem dX2_init_0 : decode cX2_init 0 = .ok (.aload_n 0, 1) := by decide +kernel
theorem dX2_init_1 : decode cX2_init 1 = .ok (.invokespecial 3, 3) := by decide +kernel
theorem dX2_init_4 : decode cX2_init 4 = .ok (.aload_n 0, 1) := by decide +kernel
theorem dX2_init_5 : decode cX2_init 5 = .ok (.sipush 150, 3) := by decide +kernel
theorem dX2_init_8 : decode cX2_init 8 = .ok (.newarray .int, 2) := by decide +kernel
theorem dX2_init_10 : decode cX2_init 10 = .ok (.putfield 9, 3) := by decide +kernel
theorem dX2_init_13 : decode cX2_init 13 = .ok (.aload_n 0, 1) := by decide +kernel
theorem dX2_init_14 : decode cX2_init 14 = .ok (.iconst 0, 1) := by decide +kernel
theorem dX2_init_15 : decode cX2_init 15 = .ok (.putfield 15, 3) := by decide +kernel
theorem dX2_init_18 : decode cX2_init 18 = .ok (.aload_n 0, 1) := by decide +kernel
theorem dX2_init_19 : decode cX2_init 19 = .ok (.iconst 3, 1) := by decide +kernel
theorem dX2_init_20 : decode cX2_init 20 = .ok (.newarray .int, 2) := by decide +kernel
theorem dX2_init_22 : decode cX2_init 22 = .ok (.putfield 19, 3) := by decide +kernel
theorem dX2_init_25 : decode cX2_init 25 = .ok (.aload_n 0, 1) := by decide +kernel
theorem dX2_init_26 : decode cX2_init 26 = .ok (.iconst 0, 1) := by decide +kernel
theorem dX2_init_27 : decode cX2_init 27 = .ok (.putfield 22, 3) := by decide +kernel
theorem dX2_init_30 : decode cX2_init 30 = .ok (.aload_n 0, 1) := by decide +kernel
theorem dX2_init_31 : decode cX2_init 31 = .ok (.iconst (-1), 1) := by decide +kernel
theorem dX2_init_32 : decode cX2_init 32 = .ok (.putfield 25, 3) := by decide +kernel
theorem dX2_init_35 : decode cX2_init 35 = .ok (.return_, 1) := by decide +kernel
theorem dX2_append_0 : decode cX2_append 0 = .ok (.aload_n 0, 1) := by decide +kernel
theorem dX2_append_1 : decode cX2_append 1 = .ok (.getfield 15, 3) := by decide +kernel
theorem dX2_append_4 : decode cX2_append 4 = .ok (.sipush 150, 3) := by decide +kernel
theorem dX2_append_7 : decode cX2_append 7 = .ok (.if_icmp .lt 5, 3) := by decide +kernel
theorem dX2_append_10 : decode cX2_append 10 = .ok (.iconst 0, 1) := by decide +kernel
theorem dX2_append_11 : decode cX2_append 11 = .ok (.ireturn, 1) := by decide +kernel
theorem dX2_append_12 : decode cX2_append 12 = .ok (.aload_n 0, 1) := by decide +kernel
theorem dX2_append_13 : decode cX2_append 13 = .ok (.getfield 9, 3) := by decide +kernel
theorem dX2_append_16 : decode cX2_append 16 = .ok (.aload_n 0, 1) := by decide +kernel
theorem dX2_append_17 : decode cX2_append 17 = .ok (.getfield 15, 3) := by decide +kernel
theorem dX2_append_20 : decode cX2_append 20 = .ok (.iload_n 1, 1) := by decide +kernel
theorem dX2_append_21 : decode cX2_append 21 = .ok (.iastore, 1) := by decide +kernel
theorem dX2_append_22 : decode cX2_append 22 = .ok (.aload_n 0, 1) := by decide +kernel
theorem dX2_append_23 : decode cX2_append 23 = .ok (.dup, 1) := by decide +kernel
theorem dX2_append_24 : decode cX2_append 24 = .ok (.getfield 15, 3) := by decide +kernel
theorem dX2_append_27 : decode cX2_append 27 = .ok (.iconst 1, 1) := by decide +kernel
theorem dX2_append_28 : decode cX2_append 28 = .ok (.iadd, 1) := by decide +kernel
theorem dX2_append_29 : decode cX2_append 29 = .ok (.putfield 15, 3) := by decide +kernel
theorem dX2_append_32 : decode cX2_append 32 = .ok (.iconst 1, 1) := by decide +kernel
theorem dX2_append_33 : decode cX2_append 33 = .ok (.ireturn, 1) := by decide +kernel
theorem dX2_findFault_0 : decode cX2_findFault 0 = .ok (.aload_n 0, 1) := by decide +kernel
theorem dX2_findFault_1 : decode cX2_findFault 1 = .ok (.invokevirtual 28, 3) := by decide +kernel
theorem dX2_findFault_4 : decode cX2_findFault 4 = .ok (.aload_n 0, 1) := by decide +kernel
theorem dX2_findFault_5 : decode cX2_findFault 5 = .ok (.invokevirtual 31, 3) := by decide +kernel
theorem dX2_findFault_8 : decode cX2_findFault 8 = .ok (.astore_n 1, 1) := by decide +kernel
theorem dX2_findFault_9 : decode cX2_findFault 9 = .ok (.iconst 0, 1) := by decide +kernel
theorem dX2_findFault_10 : decode cX2_findFault 10 = .ok (.istore_n 2, 1) := by decide +kernel
theorem dX2_findFault_11 : decode cX2_findFault 11 = .ok (.iload_n 2, 1) := by decide +kernel
theorem dX2_findFault_12 : decode cX2_findFault 12 = .ok (.sipush 150, 3) := by decide +kernel
theorem dX2_findFault_15 : decode cX2_findFault 15 = .ok (.if_icmp .ge 18, 3) := by decide +kernel
theorem dX2_findFault_18 : decode cX2_findFault 18 = .ok (.aload_n 1, 1) := by decide +kernel
theorem dX2_findFault_19 : decode cX2_findFault 19 = .ok (.ifnull 14, 3) := by decide +kernel
theorem dX2_findFault_22 : decode cX2_findFault 22 = .ok (.aload_n 0, 1) := by decide +kernel
theorem dX2_findFault_23 : decode cX2_findFault 23 = .ok (.invokevirtual 31, 3) := by decide +kernel
theorem dX2_findFault_26 : decode cX2_findFault 26 = .ok (.astore_n 1, 1) := by decide +kernel
theorem dX2_findFault_27 : decode cX2_findFault 27 = .ok (.iinc 2 1, 3) := by decide +kernel
theorem dX2_findFault_30 : decode cX2_findFault 30 = .ok (.goto (-19), 3) := by decide +kernel
theorem dX2_findFault_33 : decode cX2_findFault 33 = .ok (.aload_n 0, 1) := by decide +kernel
theorem dX2_findFault_34 : decode cX2_findFault 34 = .ok (.getfield 25, 3) := by decide +kernel
theorem dX2_findFault_37 : decode cX2_findFault 37 = .ok (.ireturn, 1) := by decide +kernel
theorem dX2_rewind_0 : decode cX2_rewind 0 = .ok (.aload_n 0, 1) := by decide +kernel
theorem dX2_rewind_1 : decode cX2_rewind 1 = .ok (.iconst 0, 1) := by decide +kernel
theorem dX2_rewind_2 : decode cX2_rewind 2 = .ok (.putfield 22, 3) := by decide +kernel
theorem dX2_rewind_5 : decode cX2_rewind 5 = .ok (.aload_n 0, 1) := by decide +kernel
theorem dX2_rewind_6 : decode cX2_rewind 6 = .ok (.iconst (-1), 1) := by decide +kernel
theorem dX2_rewind_7 : decode cX2_rewind 7 = .ok (.putfield 25, 3) := by decide +kernel
theorem dX2_rewind_10 : decode cX2_rewind 10 = .ok (.return_, 1) := by decide +kernel
theorem dX2_readCommand_0 : decode cX2_readCommand 0 = .ok (.aload_n 0, 1) := by decide +kernel
theorem dX2_readCommand_1 : decode cX2_readCommand 1 = .ok (.invokevirtual 35, 3) := by decide +kernel
theorem dX2_readCommand_4 : decode cX2_readCommand 4 = .ok (.pop, 1) := by decide +kernel
theorem dX2_readCommand_5 : decode cX2_readCommand 5 = .ok (.aload_n 0, 1) := by decide +kernel
theorem dX2_readCommand_6 : decode cX2_readCommand 6 = .ok (.invokevirtual 39, 3) := by decide +kernel
theorem dX2_readCommand_9 : decode cX2_readCommand 9 = .ok (.iconst (-1), 1) := by decide +kernel
theorem dX2_readCommand_10 : decode cX2_readCommand 10 = .ok (.if_icmp .ne 5, 3) := by decide +kernel
theorem dX2_readCommand_13 : decode cX2_readCommand 13 = .ok (.aconst_null, 1) := by decide +kernel
theorem dX2_readCommand_14 : decode cX2_readCommand 14 = .ok (.areturn, 1) := by decide +kernel
theorem dX2_readCommand_15 : decode cX2_readCommand 15 = .ok (.aload_n 0, 1) := by decide +kernel
theorem dX2_readCommand_16 : decode cX2_readCommand 16 = .ok (.getfield 22, 3) := by decide +kernel
theorem dX2_readCommand_19 : decode cX2_readCommand 19 = .ok (.istore_n 1, 1) := by decide +kernel
theorem dX2_readCommand_20 : decode cX2_readCommand 20 = .ok (.aload_n 0, 1) := by decide +kernel
theorem dX2_readCommand_21 : decode cX2_readCommand 21 = .ok (.invokevirtual 43, 3) := by decide +kernel
theorem dX2_readCommand_24 : decode cX2_readCommand 24 = .ok (.astore_n 2, 1) := by decide +kernel
theorem dX2_readCommand_25 : decode cX2_readCommand 25 = .ok (.aload_n 2, 1) := by decide +kernel
theorem dX2_readCommand_26 : decode cX2_readCommand 26 = .ok (.ifnonnull 10, 3) := by decide +kernel
theorem dX2_readCommand_29 : decode cX2_readCommand 29 = .ok (.aload_n 0, 1) := by decide +kernel
theorem dX2_readCommand_30 : decode cX2_readCommand 30 = .ok (.iload_n 1, 1) := by decide +kernel
theorem dX2_readCommand_31 : decode cX2_readCommand 31 = .ok (.putfield 25, 3) := by decide +kernel
theorem dX2_readCommand_34 : decode cX2_readCommand 34 = .ok (.aconst_null, 1) := by decide +kernel
theorem dX2_readCommand_35 : decode cX2_readCommand 35 = .ok (.areturn, 1) := by decide +kernel
theorem dX2_readCommand_36 : decode cX2_readCommand 36 = .ok (.aload_n 0, 1) := by decide +kernel
theorem dX2_readCommand_37 : decode cX2_readCommand 37 = .ok (.aload_n 2, 1) := by decide +kernel
theorem dX2_readCommand_38 : decode cX2_readCommand 38 = .ok (.getfield 46, 3) := by decide +kernel
theorem dX2_readCommand_41 : decode cX2_readCommand 41 = .ok (.invokevirtual 51, 3) := by decide +kernel
theorem dX2_readCommand_44 : decode cX2_readCommand 44 = .ok (.ifCond .eq 10, 3) := by decide +kernel
theorem dX2_readCommand_47 : decode cX2_readCommand 47 = .ok (.aload_n 0, 1) := by decide +kernel
theorem dX2_readCommand_48 : decode cX2_readCommand 48 = .ok (.invokevirtual 55, 3) := by decide +kernel
theorem dX2_readCommand_51 : decode cX2_readCommand 51 = .ok (.ifCond .ne 13, 3) := by decide +kernel
theorem dX2_readCommand_54 : decode cX2_readCommand 54 = .ok (.aload_n 0, 1) := by decide +kernel
theorem dX2_readCommand_55 : decode cX2_readCommand 55 = .ok (.aload_n 0, 1) := by decide +kernel
theorem dX2_readCommand_56 : decode cX2_readCommand 56 = .ok (.getfield 22, 3) := by decide +kernel
theorem dX2_readCommand_59 : decode cX2_readCommand 59 = .ok (.putfield 25, 3) := by decide +kernel
theorem dX2_readCommand_62 : decode cX2_readCommand 62 = .ok (.aconst_null, 1) := by decide +kernel
theorem dX2_readCommand_63 : decode cX2_readCommand 63 = .ok (.areturn, 1) := by decide +kernel
theorem dX2_readCommand_64 : decode cX2_readCommand 64 = .ok (.aload_n 2, 1) := by decide +kernel
theorem dX2_readCommand_65 : decode cX2_readCommand 65 = .ok (.areturn, 1) := by decide +kernel
theorem dX2_peek_0 : decode cX2_peek 0 = .ok (.aload_n 0, 1) := by decide +kernel
theorem dX2_peek_1 : decode cX2_peek 1 = .ok (.getfield 22, 3) := by decide +kernel
theorem dX2_peek_4 : decode cX2_peek 4 = .ok (.aload_n 0, 1) := by decide +kernel
theorem dX2_peek_5 : decode cX2_peek 5 = .ok (.getfield 15, 3) := by decide +kernel
theorem dX2_peek_8 : decode cX2_peek 8 = .ok (.if_icmp .ge 25, 3) := by decide +kernel
theorem dX2_peek_11 : decode cX2_peek 11 = .ok (.aload_n 0, 1) := by decide +kernel
theorem dX2_peek_12 : decode cX2_peek 12 = .ok (.getfield 22, 3) := by decide +kernel
theorem dX2_peek_15 : decode cX2_peek 15 = .ok (.sipush 150, 3) := by decide +kernel
theorem dX2_peek_18 : decode cX2_peek 18 = .ok (.if_icmp .ge 15, 3) := by decide +kernel
theorem dX2_peek_21 : decode cX2_peek 21 = .ok (.aload_n 0, 1) := by decide +kernel
theorem dX2_peek_22 : decode cX2_peek 22 = .ok (.getfield 9, 3) := by decide +kernel
theorem dX2_peek_25 : decode cX2_peek 25 = .ok (.aload_n 0, 1) := by decide +kernel
theorem dX2_peek_26 : decode cX2_peek 26 = .ok (.getfield 22, 3) := by decide +kernel
theorem dX2_peek_29 : decode cX2_peek 29 = .ok (.iaload, 1) := by decide +kernel
theorem dX2_peek_30 : decode cX2_peek 30 = .ok (.goto 4, 3) := by decide +kernel
theorem dX2_peek_33 : decode cX2_peek 33 = .ok (.iconst (-1), 1) := by decide +kernel
theorem dX2_peek_34 : decode cX2_peek 34 = .ok (.ireturn, 1) := by decide +kernel
theorem dX2_isAtLetter_0 : decode cX2_isAtLetter 0 = .ok (.aload_n 0, 1) := by decide +kernel
theorem dX2_isAtLetter_1 : decode cX2_isAtLetter 1 = .ok (.invokevirtual 39, 3) := by decide +kernel
theorem dX2_isAtLetter_4 : decode cX2_isAtLetter 4 = .ok (.bipush 97, 2) := by decide +kernel
theorem dX2_isAtLetter_6 : decode cX2_isAtLetter 6 = .ok (.bipush 122, 2) := by decide +kernel
theorem dX2_isAtLetter_8 : decode cX2_isAtLetter 8 = .ok (.invokestatic 58, 3) := by decide +kernel
theorem dX2_isAtLetter_11 : decode cX2_isAtLetter 11 = .ok (.ireturn, 1) := by decide +kernel
theorem dX2_isAtDigit_0 : decode cX2_isAtDigit 0 = .ok (.aload_n 0, 1) := by decide +kernel
theorem dX2_isAtDigit_1 : decode cX2_isAtDigit 1 = .ok (.invokevirtual 39, 3) := by decide +kernel
theorem dX2_isAtDigit_4 : decode cX2_isAtDigit 4 = .ok (.bipush 48, 2) := by decide +kernel
theorem dX2_isAtDigit_6 : decode cX2_isAtDigit 6 = .ok (.bipush 57, 2) := by decide +kernel
theorem dX2_isAtDigit_8 : decode cX2_isAtDigit 8 = .ok (.invokestatic 58, 3) := by decide +kernel
theorem dX2_isAtDigit_11 : decode cX2_isAtDigit 11 = .ok (.ireturn, 1) := by decide +kernel
theorem dX2_skipSpaces_0 : decode cX2_skipSpaces 0 = .ok (.aload_n 0, 1) := by decide +kernel
theorem dX2_skipSpaces_1 : decode cX2_skipSpaces 1 = .ok (.getfield 22, 3) := by decide +kernel
theorem dX2_skipSpaces_4 : decode cX2_skipSpaces 4 = .ok (.istore_n 1, 1) := by decide +kernel
theorem dX2_skipSpaces_5 : decode cX2_skipSpaces 5 = .ok (.aload_n 0, 1) := by decide +kernel
theorem dX2_skipSpaces_6 : decode cX2_skipSpaces 6 = .ok (.getfield 22, 3) := by decide +kernel
theorem dX2_skipSpaces_9 : decode cX2_skipSpaces 9 = .ok (.aload_n 0, 1) := by decide +kernel
theorem dX2_skipSpaces_10 : decode cX2_skipSpaces 10 = .ok (.getfield 15, 3) := by decide +kernel
theorem dX2_skipSpaces_13 : decode cX2_skipSpaces 13 = .ok (.if_icmp .ge 25, 3) := by decide +kernel
theorem dX2_skipSpaces_16 : decode cX2_skipSpaces 16 = .ok (.aload_n 0, 1) := by decide +kernel
theorem dX2_skipSpaces_17 : decode cX2_skipSpaces 17 = .ok (.invokevirtual 39, 3) := by decide +kernel
theorem dX2_skipSpaces_20 : decode cX2_skipSpaces 20 = .ok (.bipush 32, 2) := by decide +kernel
theorem dX2_skipSpaces_22 : decode cX2_skipSpaces 22 = .ok (.if_icmp .ne 16, 3) := by decide +kernel
theorem dX2_skipSpaces_25 : decode cX2_skipSpaces 25 = .ok (.aload_n 0, 1) := by decide +kernel
theorem dX2_skipSpaces_26 : decode cX2_skipSpaces 26 = .ok (.dup, 1) := by decide +kernel
theorem dX2_skipSpaces_27 : decode cX2_skipSpaces 27 = .ok (.getfield 22, 3) := by decide +kernel
theorem dX2_skipSpaces_30 : decode cX2_skipSpaces 30 = .ok (.iconst 1, 1) := by decide +kernel
theorem dX2_skipSpaces_31 : decode cX2_skipSpaces 31 = .ok (.iadd, 1) := by decide +kernel
theorem dX2_skipSpaces_32 : decode cX2_skipSpaces 32 = .ok (.putfield 22, 3) := by decide +kernel
theorem dX2_skipSpaces_35 : decode cX2_skipSpaces 35 = .ok (.goto (-30), 3) := by decide +kernel
theorem dX2_skipSpaces_38 : decode cX2_skipSpaces 38 = .ok (.aload_n 0, 1) := by decide +kernel
theorem dX2_skipSpaces_39 : decode cX2_skipSpaces 39 = .ok (.getfield 22, 3) := by decide +kernel
theorem dX2_skipSpaces_42 : decode cX2_skipSpaces 42 = .ok (.iload_n 1, 1) := by decide +kernel
theorem dX2_skipSpaces_43 : decode cX2_skipSpaces 43 = .ok (.if_icmp .le 7, 3) := by decide +kernel
theorem dX2_skipSpaces_46 : decode cX2_skipSpaces 46 = .ok (.iconst 1, 1) := by decide +kernel
theorem dX2_skipSpaces_47 : decode cX2_skipSpaces 47 = .ok (.goto 4, 3) := by decide +kernel
theorem dX2_skipSpaces_50 : decode cX2_skipSpaces 50 = .ok (.iconst 0, 1) := by decide +kernel
theorem dX2_skipSpaces_51 : decode cX2_skipSpaces 51 = .ok (.ireturn, 1) := by decide +kernel
theorem dX2_readWord_0 : decode cX2_readWord 0 = .ok (.aload_n 0, 1) := by decide +kernel
theorem dX2_readWord_1 : decode cX2_readWord 1 = .ok (.getfield 22, 3) := by decide +kernel
theorem dX2_readWord_4 : decode cX2_readWord 4 = .ok (.istore_n 1, 1) := by decide +kernel
theorem dX2_readWord_5 : decode cX2_readWord 5 = .ok (.aload_n 0, 1) := by decide +kernel
theorem dX2_readWord_6 : decode cX2_readWord 6 = .ok (.getfield 22, 3) := by decide +kernel
theorem dX2_readWord_9 : decode cX2_readWord 9 = .ok (.aload_n 0, 1) := by decide +kernel
theorem dX2_readWord_10 : decode cX2_readWord 10 = .ok (.getfield 15, 3) := by decide +kernel
theorem dX2_readWord_13 : decode cX2_readWord 13 = .ok (.if_icmp .ge 23, 3) := by decide +kernel
theorem dX2_readWord_16 : decode cX2_readWord 16 = .ok (.aload_n 0, 1) := by decide +kernel
theorem dX2_readWord_17 : decode cX2_readWord 17 = .ok (.invokevirtual 62, 3) := by decide +kernel
theorem dX2_readWord_20 : decode cX2_readWord 20 = .ok (.ifCond .eq 16, 3) := by decide +kernel
theorem dX2_readWord_23 : decode cX2_readWord 23 = .ok (.aload_n 0, 1) := by decide +kernel
theorem dX2_readWord_24 : decode cX2_readWord 24 = .ok (.dup, 1) := by decide +kernel
theorem dX2_readWord_25 : decode cX2_readWord 25 = .ok (.getfield 22, 3) := by decide +kernel
theorem dX2_readWord_28 : decode cX2_readWord 28 = .ok (.iconst 1, 1) := by decide +kernel
theorem dX2_readWord_29 : decode cX2_readWord 29 = .ok (.iadd, 1) := by decide +kernel
theorem dX2_readWord_30 : decode cX2_readWord 30 = .ok (.putfield 22, 3) := by decide +kernel
theorem dX2_readWord_33 : decode cX2_readWord 33 = .ok (.goto (-28), 3) := by decide +kernel
theorem dX2_readWord_36 : decode cX2_readWord 36 = .ok (.iconst 0, 1) := by decide +kernel
theorem dX2_readWord_37 : decode cX2_readWord 37 = .ok (.istore_n 2, 1) := by decide +kernel
theorem dX2_readWord_38 : decode cX2_readWord 38 = .ok (.iload_n 2, 1) := by decide +kernel
theorem dX2_readWord_39 : decode cX2_readWord 39 = .ok (.getstatic 65, 3) := by decide +kernel
theorem dX2_readWord_42 : decode cX2_readWord 42 = .ok (.arraylength, 1) := by decide +kernel
theorem dX2_readWord_43 : decode cX2_readWord 43 = .ok (.if_icmp .ge 31, 3) := by decide +kernel
theorem dX2_readWord_46 : decode cX2_readWord 46 = .ok (.aload_n 0, 1) := by decide +kernel
theorem dX2_readWord_47 : decode cX2_readWord 47 = .ok (.getstatic 65, 3) := by decide +kernel
theorem dX2_readWord_50 : decode cX2_readWord 50 = .ok (.iload_n 2, 1) := by decide +kernel
theorem dX2_readWord_51 : decode cX2_readWord 51 = .ok (.aaload, 1) := by decide +kernel
theorem dX2_readWord_52 : decode cX2_readWord 52 = .ok (.getfield 69, 3) := by decide +kernel
theorem dX2_readWord_55 : decode cX2_readWord 55 = .ok (.iload_n 1, 1) := by decide +kernel
theorem dX2_readWord_56 : decode cX2_readWord 56 = .ok (.invokevirtual 73, 3) := by decide +kernel
theorem dX2_readWord_59 : decode cX2_readWord 59 = .ok (.ifCond .eq 9, 3) := by decide +kernel
theorem dX2_readWord_62 : decode cX2_readWord 62 = .ok (.getstatic 65, 3) := by decide +kernel
theorem dX2_readWord_65 : decode cX2_readWord 65 = .ok (.iload_n 2, 1) := by decide +kernel
theorem dX2_readWord_66 : decode cX2_readWord 66 = .ok (.aaload, 1) := by decide +kernel
theorem dX2_readWord_67 : decode cX2_readWord 67 = .ok (.areturn, 1) := by decide +kernel
theorem dX2_readWord_68 : decode cX2_readWord 68 = .ok (.iinc 2 1, 3) := by decide +kernel
theorem dX2_readWord_71 : decode cX2_readWord 71 = .ok (.goto (-33), 3) := by decide +kernel
theorem dX2_readWord_74 : decode cX2_readWord 74 = .ok (.aconst_null, 1) := by decide +kernel
theorem dX2_readWord_75 : decode cX2_readWord 75 = .ok (.areturn, 1) := by decide +kernel
theorem dX2_isWordAt_0 : decode cX2_isWordAt 0 = .ok (.iload_n 2, 1) := by decide +kernel
theorem dX2_isWordAt_1 : decode cX2_isWordAt 1 = .ok (.ifCond .lt 26, 3) := by decide +kernel
theorem dX2_isWordAt_4 : decode cX2_isWordAt 4 = .ok (.aload_n 0, 1) := by decide +kernel
theorem dX2_isWordAt_5 : decode cX2_isWordAt 5 = .ok (.getfield 22, 3) := by decide +kernel
theorem dX2_isWordAt_8 : decode cX2_isWordAt 8 = .ok (.sipush 150, 3) := by decide +kernel
theorem dX2_isWordAt_11 : decode cX2_isWordAt 11 = .ok (.if_icmp .gt 16, 3) := by decide +kernel
theorem dX2_isWordAt_14 : decode cX2_isWordAt 14 = .ok (.aload_n 0, 1) := by decide +kernel
theorem dX2_isWordAt_15 : decode cX2_isWordAt 15 = .ok (.getfield 22, 3) := by decide +kernel
theorem dX2_isWordAt_18 : decode cX2_isWordAt 18 = .ok (.iload_n 2, 1) := by decide +kernel
theorem dX2_isWordAt_19 : decode cX2_isWordAt 19 = .ok (.isub, 1) := by decide +kernel
theorem dX2_isWordAt_20 : decode cX2_isWordAt 20 = .ok (.aload_n 1, 1) := by decide +kernel
theorem dX2_isWordAt_21 : decode cX2_isWordAt 21 = .ok (.invokevirtual 77, 3) := by decide +kernel
theorem dX2_isWordAt_24 : decode cX2_isWordAt 24 = .ok (.if_icmp .eq 5, 3) := by decide +kernel
theorem dX2_isWordAt_27 : decode cX2_isWordAt 27 = .ok (.iconst 0, 1) := by decide +kernel
theorem dX2_isWordAt_28 : decode cX2_isWordAt 28 = .ok (.ireturn, 1) := by decide +kernel
theorem dX2_isWordAt_29 : decode cX2_isWordAt 29 = .ok (.iconst 0, 1) := by decide +kernel
theorem dX2_isWordAt_30 : decode cX2_isWordAt 30 = .ok (.istore_n 3, 1) := by decide +kernel
theorem dX2_isWordAt_31 : decode cX2_isWordAt 31 = .ok (.iload_n 3, 1) := by decide +kernel
theorem dX2_isWordAt_32 : decode cX2_isWordAt 32 = .ok (.aload_n 1, 1) := by decide +kernel
theorem dX2_isWordAt_33 : decode cX2_isWordAt 33 = .ok (.invokevirtual 77, 3) := by decide +kernel
theorem dX2_isWordAt_36 : decode cX2_isWordAt 36 = .ok (.if_icmp .ge 27, 3) := by decide +kernel
theorem dX2_isWordAt_39 : decode cX2_isWordAt 39 = .ok (.aload_n 0, 1) := by decide +kernel
theorem dX2_isWordAt_40 : decode cX2_isWordAt 40 = .ok (.getfield 9, 3) := by decide +kernel
theorem dX2_isWordAt_43 : decode cX2_isWordAt 43 = .ok (.iload_n 2, 1) := by decide +kernel
theorem dX2_isWordAt_44 : decode cX2_isWordAt 44 = .ok (.iload_n 3, 1) := by decide +kernel
theorem dX2_isWordAt_45 : decode cX2_isWordAt 45 = .ok (.iadd, 1) := by decide +kernel
theorem dX2_isWordAt_46 : decode cX2_isWordAt 46 = .ok (.iaload, 1) := by decide +kernel
theorem dX2_isWordAt_47 : decode cX2_isWordAt 47 = .ok (.aload_n 1, 1) := by decide +kernel
theorem dX2_isWordAt_48 : decode cX2_isWordAt 48 = .ok (.iload_n 3, 1) := by decide +kernel
theorem dX2_isWordAt_49 : decode cX2_isWordAt 49 = .ok (.invokevirtual 81, 3) := by decide +kernel
theorem dX2_isWordAt_52 : decode cX2_isWordAt 52 = .ok (.if_icmp .eq 5, 3) := by decide +kernel
theorem dX2_isWordAt_55 : decode cX2_isWordAt 55 = .ok (.iconst 0, 1) := by decide +kernel
theorem dX2_isWordAt_56 : decode cX2_isWordAt 56 = .ok (.ireturn, 1) := by decide +kernel
theorem dX2_isWordAt_57 : decode cX2_isWordAt 57 = .ok (.iinc 3 1, 3) := by decide +kernel
theorem dX2_isWordAt_60 : decode cX2_isWordAt 60 = .ok (.goto (-29), 3) := by decide +kernel
theorem dX2_isWordAt_63 : decode cX2_isWordAt 63 = .ok (.iconst 1, 1) := by decide +kernel
theorem dX2_isWordAt_64 : decode cX2_isWordAt 64 = .ok (.ireturn, 1) := by decide +kernel
theorem dX2_readNumbers_0 : decode cX2_readNumbers 0 = .ok (.iconst 0, 1) := by decide +kernel
theorem dX2_readNumbers_1 : decode cX2_readNumbers 1 = .ok (.istore_n 2, 1) := by decide +kernel
theorem dX2_readNumbers_2 : decode cX2_readNumbers 2 = .ok (.iload_n 2, 1) := by decide +kernel
theorem dX2_readNumbers_3 : decode cX2_readNumbers 3 = .ok (.iconst 3, 1) := by decide +kernel
theorem dX2_readNumbers_4 : decode cX2_readNumbers 4 = .ok (.if_icmp .ge 16, 3) := by decide +kernel
theorem dX2_readNumbers_7 : decode cX2_readNumbers 7 = .ok (.aload_n 0, 1) := by decide +kernel
theorem dX2_readNumbers_8 : decode cX2_readNumbers 8 = .ok (.getfield 19, 3) := by decide +kernel
theorem dX2_readNumbers_11 : decode cX2_readNumbers 11 = .ok (.iload_n 2, 1) := by decide +kernel
theorem dX2_readNumbers_12 : decode cX2_readNumbers 12 = .ok (.iconst 0, 1) := by decide +kernel
theorem dX2_readNumbers_13 : decode cX2_readNumbers 13 = .ok (.iastore, 1) := by decide +kernel
theorem dX2_readNumbers_14 : decode cX2_readNumbers 14 = .ok (.iinc 2 1, 3) := by decide +kernel
theorem dX2_readNumbers_17 : decode cX2_readNumbers 17 = .ok (.goto (-15), 3) := by decide +kernel
theorem dX2_readNumbers_20 : decode cX2_readNumbers 20 = .ok (.iconst 0, 1) := by decide +kernel
theorem dX2_readNumbers_21 : decode cX2_readNumbers 21 = .ok (.istore_n 2, 1) := by decide +kernel
theorem dX2_readNumbers_22 : decode cX2_readNumbers 22 = .ok (.iload_n 2, 1) := by decide +kernel
theorem dX2_readNumbers_23 : decode cX2_readNumbers 23 = .ok (.iload_n 1, 1) := by decide +kernel
theorem dX2_readNumbers_24 : decode cX2_readNumbers 24 = .ok (.if_icmp .ge 40, 3) := by decide +kernel
theorem dX2_readNumbers_27 : decode cX2_readNumbers 27 = .ok (.iload_n 2, 1) := by decide +kernel
theorem dX2_readNumbers_28 : decode cX2_readNumbers 28 = .ok (.iconst 3, 1) := by decide +kernel
theorem dX2_readNumbers_29 : decode cX2_readNumbers 29 = .ok (.if_icmp .ge 35, 3) := by decide +kernel
theorem dX2_readNumbers_32 : decode cX2_readNumbers 32 = .ok (.aload_n 0, 1) := by decide +kernel
theorem dX2_readNumbers_33 : decode cX2_readNumbers 33 = .ok (.invokevirtual 35, 3) := by decide +kernel
theorem dX2_readNumbers_36 : decode cX2_readNumbers 36 = .ok (.ifCond .eq 10, 3) := by decide +kernel
theorem dX2_readNumbers_39 : decode cX2_readNumbers 39 = .ok (.aload_n 0, 1) := by decide +kernel
theorem dX2_readNumbers_40 : decode cX2_readNumbers 40 = .ok (.invokevirtual 85, 3) := by decide +kernel
theorem dX2_readNumbers_43 : decode cX2_readNumbers 43 = .ok (.ifCond .ne 5, 3) := by decide +kernel
theorem dX2_readNumbers_46 : decode cX2_readNumbers 46 = .ok (.iconst 0, 1) := by decide +kernel
theorem dX2_readNumbers_47 : decode cX2_readNumbers 47 = .ok (.ireturn, 1) := by decide +kernel
theorem dX2_readNumbers_48 : decode cX2_readNumbers 48 = .ok (.aload_n 0, 1) := by decide +kernel
theorem dX2_readNumbers_49 : decode cX2_readNumbers 49 = .ok (.getfield 19, 3) := by decide +kernel
theorem dX2_readNumbers_52 : decode cX2_readNumbers 52 = .ok (.iload_n 2, 1) := by decide +kernel
theorem dX2_readNumbers_53 : decode cX2_readNumbers 53 = .ok (.aload_n 0, 1) := by decide +kernel
theorem dX2_readNumbers_54 : decode cX2_readNumbers 54 = .ok (.invokevirtual 88, 3) := by decide +kernel
theorem dX2_readNumbers_57 : decode cX2_readNumbers 57 = .ok (.iastore, 1) := by decide +kernel
theorem dX2_readNumbers_58 : decode cX2_readNumbers 58 = .ok (.iinc 2 1, 3) := by decide +kernel
theorem dX2_readNumbers_61 : decode cX2_readNumbers 61 = .ok (.goto (-39), 3) := by decide +kernel
theorem dX2_readNumbers_64 : decode cX2_readNumbers 64 = .ok (.iconst 1, 1) := by decide +kernel
theorem dX2_readNumbers_65 : decode cX2_readNumbers 65 = .ok (.ireturn, 1) := by decide +kernel
theorem dX2_readDigits_0 : decode cX2_readDigits 0 = .ok (.iconst 0, 1) := by decide +kernel
theorem dX2_readDigits_1 : decode cX2_readDigits 1 = .ok (.istore_n 1, 1) := by decide +kernel
theorem dX2_readDigits_2 : decode cX2_readDigits 2 = .ok (.iconst 0, 1) := by decide +kernel
theorem dX2_readDigits_3 : decode cX2_readDigits 3 = .ok (.istore_n 2, 1) := by decide +kernel
theorem dX2_readDigits_4 : decode cX2_readDigits 4 = .ok (.iload_n 2, 1) := by decide +kernel
theorem dX2_readDigits_5 : decode cX2_readDigits 5 = .ok (.iconst 3, 1) := by decide +kernel
theorem dX2_readDigits_6 : decode cX2_readDigits 6 = .ok (.if_icmp .ge 39, 3) := by decide +kernel
theorem dX2_readDigits_9 : decode cX2_readDigits 9 = .ok (.aload_n 0, 1) := by decide +kernel
theorem dX2_readDigits_10 : decode cX2_readDigits 10 = .ok (.invokevirtual 85, 3) := by decide +kernel
theorem dX2_readDigits_13 : decode cX2_readDigits 13 = .ok (.ifCond .eq 32, 3) := by decide +kernel
theorem dX2_readDigits_16 : decode cX2_readDigits 16 = .ok (.bipush 10, 2) := by decide +kernel
theorem dX2_readDigits_18 : decode cX2_readDigits 18 = .ok (.iload_n 1, 1) := by decide +kernel
theorem dX2_readDigits_19 : decode cX2_readDigits 19 = .ok (.imul, 1) := by decide +kernel
theorem dX2_readDigits_20 : decode cX2_readDigits 20 = .ok (.aload_n 0, 1) := by decide +kernel
theorem dX2_readDigits_21 : decode cX2_readDigits 21 = .ok (.invokevirtual 39, 3) := by decide +kernel
theorem dX2_readDigits_24 : decode cX2_readDigits 24 = .ok (.iadd, 1) := by decide +kernel
theorem dX2_readDigits_25 : decode cX2_readDigits 25 = .ok (.bipush 48, 2) := by decide +kernel
theorem dX2_readDigits_27 : decode cX2_readDigits 27 = .ok (.isub, 1) := by decide +kernel
theorem dX2_readDigits_28 : decode cX2_readDigits 28 = .ok (.istore_n 1, 1) := by decide +kernel
theorem dX2_readDigits_29 : decode cX2_readDigits 29 = .ok (.aload_n 0, 1) := by decide +kernel
theorem dX2_readDigits_30 : decode cX2_readDigits 30 = .ok (.dup, 1) := by decide +kernel
theorem dX2_readDigits_31 : decode cX2_readDigits 31 = .ok (.getfield 22, 3) := by decide +kernel
theorem dX2_readDigits_34 : decode cX2_readDigits 34 = .ok (.iconst 1, 1) := by decide +kernel
theorem dX2_readDigits_35 : decode cX2_readDigits 35 = .ok (.iadd, 1) := by decide +kernel
theorem dX2_readDigits_36 : decode cX2_readDigits 36 = .ok (.putfield 22, 3) := by decide +kernel
theorem dX2_readDigits_39 : decode cX2_readDigits 39 = .ok (.iinc 2 1, 3) := by decide +kernel
theorem dX2_readDigits_42 : decode cX2_readDigits 42 = .ok (.goto (-38), 3) := by decide +kernel
theorem dX2_readDigits_45 : decode cX2_readDigits 45 = .ok (.iload_n 1, 1) := by decide +kernel
theorem dX2_readDigits_46 : decode cX2_readDigits 46 = .ok (.ireturn, 1) := by decide +kernel
theorem dX2_readSemicolon_0 : decode cX2_readSemicolon 0 = .ok (.aload_n 0, 1) := by decide +kernel
theorem dX2_readSemicolon_1 : decode cX2_readSemicolon 1 = .ok (.invokevirtual 35, 3) := by decide +kernel
theorem dX2_readSemicolon_4 : decode cX2_readSemicolon 4 = .ok (.pop, 1) := by decide +kernel
theorem dX2_readSemicolon_5 : decode cX2_readSemicolon 5 = .ok (.aload_n 0, 1) := by decide +kernel
theorem dX2_readSemicolon_6 : decode cX2_readSemicolon 6 = .ok (.invokevirtual 39, 3) := by decide +kernel
theorem dX2_readSemicolon_9 : decode cX2_readSemicolon 9 = .ok (.bipush 59, 2) := by decide +kernel
theorem dX2_readSemicolon_11 : decode cX2_readSemicolon 11 = .ok (.if_icmp .eq 5, 3) := by decide +kernel
theorem dX2_readSemicolon_14 : decode cX2_readSemicolon 14 = .ok (.iconst 0, 1) := by decide +kernel
theorem dX2_readSemicolon_15 : decode cX2_readSemicolon 15 = .ok (.ireturn, 1) := by decide +kernel
theorem dX2_readSemicolon_16 : decode cX2_readSemicolon 16 = .ok (.aload_n 0, 1) := by decide +kernel
theorem dX2_readSemicolon_17 : decode cX2_readSemicolon 17 = .ok (.dup, 1) := by decide +kernel
theorem dX2_readSemicolon_18 : decode cX2_readSemicolon 18 = .ok (.getfield 22, 3) := by decide +kernel
theorem dX2_readSemicolon_21 : decode cX2_readSemicolon 21 = .ok (.iconst 1, 1) := by decide +kernel
theorem dX2_readSemicolon_22 : decode cX2_readSemicolon 22 = .ok (.iadd, 1) := by decide +kernel
theorem dX2_readSemicolon_23 : decode cX2_readSemicolon 23 = .ok (.putfield 22, 3) := by decide +kernel
theorem dX2_readSemicolon_26 : decode cX2_readSemicolon 26 = .ok (.iconst 1, 1) := by decide +kernel
theorem dX2_readSemicolon_27 : decode cX2_readSemicolon 27 = .ok (.ireturn, 1) := by decide +kernel
theorem dX3_init_0 : decode cX3_init 0 = .ok (.aload_n 0, 1) := by decide +kernel
theorem dX3_init_1 : decode cX3_init 1 = .ok (.invokespecial 3, 3) := by decide +kernel
theorem dX3_init_4 : decode cX3_init 4 = .ok (.aload_n 0, 1) := by decide +kernel
theorem dX3_init_5 : decode cX3_init 5 = .ok (.iconst 0, 1) := by decide +kernel
theorem dX3_init_6 : decode cX3_init 6 = .ok (.putfield 9, 3) := by decide +kernel
theorem dX3_init_9 : decode cX3_init 9 = .ok (.aload_n 0, 1) := by decide +kernel
theorem dX3_init_10 : decode cX3_init 10 = .ok (.iconst 0, 1) := by decide +kernel
theorem dX3_init_11 : decode cX3_init 11 = .ok (.putfield 15, 3) := by decide +kernel
theorem dX3_init_14 : decode cX3_init 14 = .ok (.aload_n 0, 1) := by decide +kernel
theorem dX3_init_15 : decode cX3_init 15 = .ok (.iconst (-1), 1) := by decide +kernel
theorem dX3_init_16 : decode cX3_init 16 = .ok (.putfield 19, 3) := by decide +kernel
theorem dX3_init_19 : decode cX3_init 19 = .ok (.aload_n 0, 1) := by decide +kernel
theorem dX3_init_20 : decode cX3_init 20 = .ok (.iconst (-1), 1) := by decide +kernel
theorem dX3_init_21 : decode cX3_init 21 = .ok (.putfield 22, 3) := by decide +kernel
theorem dX3_init_24 : decode cX3_init 24 = .ok (.aload_n 0, 1) := by decide +kernel
theorem dX3_init_25 : decode cX3_init 25 = .ok (.iconst 0, 1) := by decide +kernel
theorem dX3_init_26 : decode cX3_init 26 = .ok (.putfield 25, 3) := by decide +kernel
theorem dX3_init_29 : decode cX3_init 29 = .ok (.aload_n 0, 1) := by decide +kernel
theorem dX3_init_30 : decode cX3_init 30 = .ok (.iconst 0, 1) := by decide +kernel
theorem dX3_init_31 : decode cX3_init 31 = .ok (.putfield 28, 3) := by decide +kernel
theorem dX3_init_34 : decode cX3_init 34 = .ok (.aload_n 0, 1) := by decide +kernel
theorem dX3_init_35 : decode cX3_init 35 = .ok (.aconst_null, 1) := by decide +kernel
theorem dX3_init_36 : decode cX3_init 36 = .ok (.putfield 31, 3) := by decide +kernel
theorem dX3_init_39 : decode cX3_init 39 = .ok (.aload_n 0, 1) := by decide +kernel
theorem dX3_init_40 : decode cX3_init 40 = .ok (.aconst_null, 1) := by decide +kernel
theorem dX3_init_41 : decode cX3_init 41 = .ok (.putfield 35, 3) := by decide +kernel
theorem dX3_init_44 : decode cX3_init 44 = .ok (.aload_n 0, 1) := by decide +kernel
theorem dX3_init_45 : decode cX3_init 45 = .ok (.iconst (-1), 1) := by decide +kernel
theorem dX3_init_46 : decode cX3_init 46 = .ok (.putfield 38, 3) := by decide +kernel
theorem dX3_init_49 : decode cX3_init 49 = .ok (.aload_n 0, 1) := by decide +kernel
theorem dX3_init_50 : decode cX3_init 50 = .ok (.iconst 0, 1) := by decide +kernel
theorem dX3_init_51 : decode cX3_init 51 = .ok (.putfield 41, 3) := by decide +kernel
theorem dX3_init_54 : decode cX3_init 54 = .ok (.aload_n 0, 1) := by decide +kernel
theorem dX3_init_55 : decode cX3_init 55 = .ok (.iconst 0, 1) := by decide +kernel
theorem dX3_init_56 : decode cX3_init 56 = .ok (.putfield 44, 3) := by decide +kernel
theorem dX3_init_59 : decode cX3_init 59 = .ok (.aload_n 0, 1) := by decide +kernel
theorem dX3_init_60 : decode cX3_init 60 = .ok (.iconst 0, 1) := by decide +kernel
theorem dX3_init_61 : decode cX3_init 61 = .ok (.putfield 47, 3) := by decide +kernel
theorem dX3_init_64 : decode cX3_init 64 = .ok (.aload_n 0, 1) := by decide +kernel
theorem dX3_init_65 : decode cX3_init 65 = .ok (.iconst 0, 1) := by decide +kernel
theorem dX3_init_66 : decode cX3_init 66 = .ok (.putfield 50, 3) := by decide +kernel
theorem dX3_init_69 : decode cX3_init 69 = .ok (.aload_n 0, 1) := by decide +kernel
theorem dX3_init_70 : decode cX3_init 70 = .ok (.iconst 0, 1) := by decide +kernel
theorem dX3_init_71 : decode cX3_init 71 = .ok (.putfield 53, 3) := by decide +kernel
theorem dX3_init_74 : decode cX3_init 74 = .ok (.aload_n 0, 1) := by decide +kernel
theorem dX3_init_75 : decode cX3_init 75 = .ok (.iconst 4, 1) := by decide +kernel
theorem dX3_init_76 : decode cX3_init 76 = .ok (.newarray .int, 2) := by decide +kernel
theorem dX3_init_78 : decode cX3_init 78 = .ok (.putfield 56, 3) := by decide +kernel
theorem dX3_init_81 : decode cX3_init 81 = .ok (.return_, 1) := by decide +kernel
theorem dX3_copyFrom_0 : decode cX3_copyFrom 0 = .ok (.aload_n 0, 1) := by decide +kernel
theorem dX3_copyFrom_1 : decode cX3_copyFrom 1 = .ok (.aload_n 1, 1) := by decide +kernel
theorem dX3_copyFrom_2 : decode cX3_copyFrom 2 = .ok (.getfield 9, 3) := by decide +kernel
theorem dX3_copyFrom_5 : decode cX3_copyFrom 5 = .ok (.putfield 9, 3) := by decide +kernel
theorem dX3_copyFrom_8 : decode cX3_copyFrom 8 = .ok (.aload_n 0, 1) := by decide +kernel
theorem dX3_copyFrom_9 : decode cX3_copyFrom 9 = .ok (.aload_n 1, 1) := by decide +kernel
theorem dX3_copyFrom_10 : decode cX3_copyFrom 10 = .ok (.getfield 15, 3) := by decide +kernel
theorem dX3_copyFrom_13 : decode cX3_copyFrom 13 = .ok (.putfield 15, 3) := by decide +kernel
theorem dX3_copyFrom_16 : decode cX3_copyFrom 16 = .ok (.aload_n 0, 1) := by decide +kernel
theorem dX3_copyFrom_17 : decode cX3_copyFrom 17 = .ok (.aload_n 1, 1) := by decide +kernel
theorem dX3_copyFrom_18 : decode cX3_copyFrom 18 = .ok (.getfield 19, 3) := by decide +kernel
theorem dX3_copyFrom_21 : decode cX3_copyFrom 21 = .ok (.putfield 19, 3) := by decide +kernel
theorem dX3_copyFrom_24 : decode cX3_copyFrom 24 = .ok (.aload_n 0, 1) := by decide +kernel
theorem dX3_copyFrom_25 : decode cX3_copyFrom 25 = .ok (.aload_n 1, 1) := by decide +kernel
theorem dX3_copyFrom_26 : decode cX3_copyFrom 26 = .ok (.getfield 22, 3) := by decide +kernel
theorem dX3_copyFrom_29 : decode cX3_copyFrom 29 = .ok (.putfield 22, 3) := by decide +kernel
theorem dX3_copyFrom_32 : decode cX3_copyFrom 32 = .ok (.aload_n 0, 1) := by decide +kernel
theorem dX3_copyFrom_33 : decode cX3_copyFrom 33 = .ok (.aload_n 1, 1) := by decide +kernel
theorem dX3_copyFrom_34 : decode cX3_copyFrom 34 = .ok (.getfield 25, 3) := by decide +kernel
theorem dX3_copyFrom_37 : decode cX3_copyFrom 37 = .ok (.putfield 25, 3) := by decide +kernel
theorem dX3_copyFrom_40 : decode cX3_copyFrom 40 = .ok (.aload_n 0, 1) := by decide +kernel
theorem dX3_copyFrom_41 : decode cX3_copyFrom 41 = .ok (.aload_n 1, 1) := by decide +kernel
theorem dX3_copyFrom_42 : decode cX3_copyFrom 42 = .ok (.getfield 28, 3) := by decide +kernel
theorem dX3_copyFrom_45 : decode cX3_copyFrom 45 = .ok (.putfield 28, 3) := by decide +kernel
theorem dX3_copyFrom_48 : decode cX3_copyFrom 48 = .ok (.return_, 1) := by decide +kernel
theorem dX3_isCritical_0 : decode cX3_isCritical 0 = .ok (.aload_n 0, 1) := by decide +kernel
theorem dX3_isCritical_1 : decode cX3_isCritical 1 = .ok (.getfield 53, 3) := by decide +kernel
theorem dX3_isCritical_4 : decode cX3_isCritical 4 = .ok (.ifCond .ne 7, 3) := by decide +kernel
theorem dX3_isCritical_7 : decode cX3_isCritical 7 = .ok (.iconst 1, 1) := by decide +kernel
theorem dX3_isCritical_8 : decode cX3_isCritical 8 = .ok (.goto 4, 3) := by decide +kernel
theorem dX3_isCritical_11 : decode cX3_isCritical 11 = .ok (.iconst 0, 1) := by decide +kernel
theorem dX3_isCritical_12 : decode cX3_isCritical 12 = .ok (.ireturn, 1) := by decide +kernel
theorem dX3_isCriticalTask_0 : decode cX3_isCriticalTask 0 = .ok (.aload_n 0, 1) := by decide +kernel
theorem dX3_isCriticalTask_1 : decode cX3_isCriticalTask 1 = .ok (.getfield 15, 3) := by decide +kernel
theorem dX3_isCriticalTask_4 : decode cX3_isCriticalTask 4 = .ok (.ifCond .eq 14, 3) := by decide +kernel
theorem dX3_isCriticalTask_7 : decode cX3_isCriticalTask 7 = .ok (.aload_n 0, 1) := by decide +kernel
theorem dX3_isCriticalTask_8 : decode cX3_isCriticalTask 8 = .ok (.invokevirtual 60, 3) := by decide +kernel
theorem dX3_isCriticalTask_11 : decode cX3_isCriticalTask 11 = .ok (.ifCond .eq 7, 3) := by decide +kernel
theorem dX3_isCriticalTask_14 : decode cX3_isCriticalTask 14 = .ok (.iconst 1, 1) := by decide +kernel
theorem dX3_isCriticalTask_15 : decode cX3_isCriticalTask 15 = .ok (.goto 4, 3) := by decide +kernel
theorem dX3_isCriticalTask_18 : decode cX3_isCriticalTask 18 = .ok (.iconst 0, 1) := by decide +kernel
theorem dX3_isCriticalTask_19 : decode cX3_isCriticalTask 19 = .ok (.ireturn, 1) := by decide +kernel
theorem dX3_runsAt_0 : decode cX3_runsAt 0 = .ok (.aload_n 0, 1) := by decide +kernel
theorem dX3_runsAt_1 : decode cX3_runsAt 1 = .ok (.getfield 15, 3) := by decide +kernel
theorem dX3_runsAt_4 : decode cX3_runsAt 4 = .ok (.ifCond .eq 28, 3) := by decide +kernel
theorem dX3_runsAt_7 : decode cX3_runsAt 7 = .ok (.aload_n 0, 1) := by decide +kernel
theorem dX3_runsAt_8 : decode cX3_runsAt 8 = .ok (.getfield 47, 3) := by decide +kernel
theorem dX3_runsAt_11 : decode cX3_runsAt 11 = .ok (.iload_n 1, 1) := by decide +kernel
theorem dX3_runsAt_12 : decode cX3_runsAt 12 = .ok (.if_icmp .gt 20, 3) := by decide +kernel
theorem dX3_runsAt_15 : decode cX3_runsAt 15 = .ok (.iload_n 1, 1) := by decide +kernel
theorem dX3_runsAt_16 : decode cX3_runsAt 16 = .ok (.aload_n 0, 1) := by decide +kernel
theorem dX3_runsAt_17 : decode cX3_runsAt 17 = .ok (.getfield 47, 3) := by decide +kernel
theorem dX3_runsAt_20 : decode cX3_runsAt 20 = .ok (.aload_n 0, 1) := by decide +kernel
theorem dX3_runsAt_21 : decode cX3_runsAt 21 = .ok (.getfield 44, 3) := by decide +kernel
theorem dX3_runsAt_24 : decode cX3_runsAt 24 = .ok (.iadd, 1) := by decide +kernel
theorem dX3_runsAt_25 : decode cX3_runsAt 25 = .ok (.if_icmp .ge 7, 3) := by decide +kernel
theorem dX3_runsAt_28 : decode cX3_runsAt 28 = .ok (.iconst 1, 1) := by decide +kernel
theorem dX3_runsAt_29 : decode cX3_runsAt 29 = .ok (.goto 4, 3) := by decide +kernel
theorem dX3_runsAt_32 : decode cX3_runsAt 32 = .ok (.iconst 0, 1) := by decide +kernel
theorem dX3_runsAt_33 : decode cX3_runsAt 33 = .ok (.ireturn, 1) := by decide +kernel
theorem dX3_standsIn_0 : decode cX3_standsIn 0 = .ok (.aload_n 0, 1) := by decide +kernel
theorem dX3_standsIn_1 : decode cX3_standsIn 1 = .ok (.getfield 19, 3) := by decide +kernel
theorem dX3_standsIn_4 : decode cX3_standsIn 4 = .ok (.iload_n 1, 1) := by decide +kernel
theorem dX3_standsIn_5 : decode cX3_standsIn 5 = .ok (.if_icmp .ne 15, 3) := by decide +kernel
theorem dX3_standsIn_8 : decode cX3_standsIn 8 = .ok (.aload_n 0, 1) := by decide +kernel
theorem dX3_standsIn_9 : decode cX3_standsIn 9 = .ok (.getfield 22, 3) := by decide +kernel
theorem dX3_standsIn_12 : decode cX3_standsIn 12 = .ok (.iload_n 2, 1) := by decide +kernel
theorem dX3_standsIn_13 : decode cX3_standsIn 13 = .ok (.if_icmp .ne 7, 3) := by decide +kernel
theorem dX3_standsIn_16 : decode cX3_standsIn 16 = .ok (.iconst 1, 1) := by decide +kernel
theorem dX3_standsIn_17 : decode cX3_standsIn 17 = .ok (.goto 4, 3) := by decide +kernel
theorem dX3_standsIn_20 : decode cX3_standsIn 20 = .ok (.iconst 0, 1) := by decide +kernel
theorem dX3_standsIn_21 : decode cX3_standsIn 21 = .ok (.ireturn, 1) := by decide +kernel
theorem dX3_isWithin_0 : decode cX3_isWithin 0 = .ok (.aload_n 0, 1) := by decide +kernel
theorem dX3_isWithin_1 : decode cX3_isWithin 1 = .ok (.astore_n 2, 1) := by decide +kernel
theorem dX3_isWithin_2 : decode cX3_isWithin 2 = .ok (.aload_n 2, 1) := by decide +kernel
theorem dX3_isWithin_3 : decode cX3_isWithin 3 = .ok (.ifnull 18, 3) := by decide +kernel
theorem dX3_isWithin_6 : decode cX3_isWithin 6 = .ok (.aload_n 2, 1) := by decide +kernel
theorem dX3_isWithin_7 : decode cX3_isWithin 7 = .ok (.aload_n 1, 1) := by decide +kernel
theorem dX3_isWithin_8 : decode cX3_isWithin 8 = .ok (.if_acmp .ne 5, 3) := by decide +kernel
theorem dX3_isWithin_11 : decode cX3_isWithin 11 = .ok (.iconst 1, 1) := by decide +kernel
theorem dX3_isWithin_12 : decode cX3_isWithin 12 = .ok (.ireturn, 1) := by decide +kernel
theorem dX3_isWithin_13 : decode cX3_isWithin 13 = .ok (.aload_n 2, 1) := by decide +kernel
theorem dX3_isWithin_14 : decode cX3_isWithin 14 = .ok (.getfield 31, 3) := by decide +kernel
theorem dX3_isWithin_17 : decode cX3_isWithin 17 = .ok (.astore_n 2, 1) := by decide +kernel
theorem dX3_isWithin_18 : decode cX3_isWithin 18 = .ok (.goto (-16), 3) := by decide +kernel
theorem dX3_isWithin_21 : decode cX3_isWithin 21 = .ok (.iconst 0, 1) := by decide +kernel
theorem dX3_isWithin_22 : decode cX3_isWithin 22 = .ok (.ireturn, 1) := by decide +kernel
theorem dX3_whyNotTo_0 : decode cX3_whyNotTo 0 = .ok (.aload_n 0, 1) := by decide +kernel
theorem dX3_whyNotTo_1 : decode cX3_whyNotTo 1 = .ok (.getfield 9, 3) := by decide +kernel
theorem dX3_whyNotTo_4 : decode cX3_whyNotTo 4 = .ok (.ifCond .ne 5, 3) := by decide +kernel
theorem dX3_whyNotTo_7 : decode cX3_whyNotTo 7 = .ok (.iconst 1, 1) := by decide +kernel
theorem dX3_whyNotTo_8 : decode cX3_whyNotTo 8 = .ok (.ireturn, 1) := by decide +kernel
theorem dX3_whyNotTo_9 : decode cX3_whyNotTo 9 = .ok (.aload_n 1, 1) := by decide +kernel
theorem dX3_whyNotTo_10 : decode cX3_whyNotTo 10 = .ok (.getfield 15, 3) := by decide +kernel
theorem dX3_whyNotTo_13 : decode cX3_whyNotTo 13 = .ok (.ifCond .eq 5, 3) := by decide +kernel
theorem dX3_whyNotTo_16 : decode cX3_whyNotTo 16 = .ok (.iconst 2, 1) := by decide +kernel
theorem dX3_whyNotTo_17 : decode cX3_whyNotTo 17 = .ok (.ireturn, 1) := by decide +kernel
theorem dX3_whyNotTo_18 : decode cX3_whyNotTo 18 = .ok (.aload_n 1, 1) := by decide +kernel
theorem dX3_whyNotTo_19 : decode cX3_whyNotTo 19 = .ok (.aload_n 0, 1) := by decide +kernel
theorem dX3_whyNotTo_20 : decode cX3_whyNotTo 20 = .ok (.invokevirtual 64, 3) := by decide +kernel
theorem dX3_whyNotTo_23 : decode cX3_whyNotTo 23 = .ok (.ifCond .eq 7, 3) := by decide +kernel
theorem dX3_whyNotTo_26 : decode cX3_whyNotTo 26 = .ok (.iconst 3, 1) := by decide +kernel
theorem dX3_whyNotTo_27 : decode cX3_whyNotTo 27 = .ok (.goto 4, 3) := by decide +kernel
theorem dX3_whyNotTo_30 : decode cX3_whyNotTo 30 = .ok (.iconst 0, 1) := by decide +kernel
theorem dX3_whyNotTo_31 : decode cX3_whyNotTo 31 = .ok (.ireturn, 1) := by decide +kernel
theorem dX3_rowLength_0 : decode cX3_rowLength 0 = .ok (.iload_n 1, 1) := by decide +kernel
theorem dX3_rowLength_1 : decode cX3_rowLength 1 = .ok (.ifCond .lt 17, 3) := by decide +kernel
theorem dX3_rowLength_4 : decode cX3_rowLength 4 = .ok (.iload_n 1, 1) := by decide +kernel
theorem dX3_rowLength_5 : decode cX3_rowLength 5 = .ok (.iconst 4, 1) := by decide +kernel
theorem dX3_rowLength_6 : decode cX3_rowLength 6 = .ok (.if_icmp .ge 12, 3) := by decide +kernel
theorem dX3_rowLength_9 : decode cX3_rowLength 9 = .ok (.aload_n 0, 1) := by decide +kernel
theorem dX3_rowLength_10 : decode cX3_rowLength 10 = .ok (.getfield 56, 3) := by decide +kernel
theorem dX3_rowLength_13 : decode cX3_rowLength 13 = .ok (.iload_n 1, 1) := by decide +kernel
theorem dX3_rowLength_14 : decode cX3_rowLength 14 = .ok (.iaload, 1) := by decide +kernel
theorem dX3_rowLength_15 : decode cX3_rowLength 15 = .ok (.goto 4, 3) := by decide +kernel
theorem dX3_rowLength_18 : decode cX3_rowLength 18 = .ok (.iconst 0, 1) := by decide +kernel
theorem dX3_rowLength_19 : decode cX3_rowLength 19 = .ok (.ireturn, 1) := by decide +kernel
theorem dX3_lengthenRow_0 : decode cX3_lengthenRow 0 = .ok (.iload_n 1, 1) := by decide +kernel
theorem dX3_lengthenRow_1 : decode cX3_lengthenRow 1 = .ok (.ifCond .lt 18, 3) := by decide +kernel
theorem dX3_lengthenRow_4 : decode cX3_lengthenRow 4 = .ok (.iload_n 1, 1) := by decide +kernel
theorem dX3_lengthenRow_5 : decode cX3_lengthenRow 5 = .ok (.iconst 4, 1) := by decide +kernel
theorem dX3_lengthenRow_6 : decode cX3_lengthenRow 6 = .ok (.if_icmp .ge 13, 3) := by decide +kernel
theorem dX3_lengthenRow_9 : decode cX3_lengthenRow 9 = .ok (.aload_n 0, 1) := by decide +kernel
theorem dX3_lengthenRow_10 : decode cX3_lengthenRow 10 = .ok (.getfield 56, 3) := by decide +kernel
theorem dX3_lengthenRow_13 : decode cX3_lengthenRow 13 = .ok (.iload_n 1, 1) := by decide +kernel
theorem dX3_lengthenRow_14 : decode cX3_lengthenRow 14 = .ok (.dup2, 1) := by decide +kernel
theorem dX3_lengthenRow_15 : decode cX3_lengthenRow 15 = .ok (.iaload, 1) := by decide +kernel
theorem dX3_lengthenRow_16 : decode cX3_lengthenRow 16 = .ok (.iload_n 2, 1) := by decide +kernel
theorem dX3_lengthenRow_17 : decode cX3_lengthenRow 17 = .ok (.iadd, 1) := by decide +kernel
theorem dX3_lengthenRow_18 : decode cX3_lengthenRow 18 = .ok (.iastore, 1) := by decide +kernel
theorem dX3_lengthenRow_19 : decode cX3_lengthenRow 19 = .ok (.return_, 1) := by decide +kernel
theorem dX3_longestRowBut_0 : decode cX3_longestRowBut 0 = .ok (.iconst 0, 1) := by decide +kernel
theorem dX3_longestRowBut_1 : decode cX3_longestRowBut 1 = .ok (.istore_n 2, 1) := by decide +kernel
theorem dX3_longestRowBut_2 : decode cX3_longestRowBut 2 = .ok (.iconst 0, 1) := by decide +kernel
theorem dX3_longestRowBut_3 : decode cX3_longestRowBut 3 = .ok (.istore_n 3, 1) := by decide +kernel
theorem dX3_longestRowBut_4 : decode cX3_longestRowBut 4 = .ok (.iload_n 3, 1) := by decide +kernel
theorem dX3_longestRowBut_5 : decode cX3_longestRowBut 5 = .ok (.iconst 4, 1) := by decide +kernel
theorem dX3_longestRowBut_6 : decode cX3_longestRowBut 6 = .ok (.if_icmp .ge 25, 3) := by decide +kernel
theorem dX3_longestRowBut_9 : decode cX3_longestRowBut 9 = .ok (.iload_n 3, 1) := by decide +kernel
theorem dX3_longestRowBut_10 : decode cX3_longestRowBut 10 = .ok (.iload_n 1, 1) := by decide +kernel
theorem dX3_longestRowBut_11 : decode cX3_longestRowBut 11 = .ok (.if_icmp .eq 14, 3) := by decide +kernel
theorem dX3_longestRowBut_14 : decode cX3_longestRowBut 14 = .ok (.iload_n 2, 1) := by decide +kernel
theorem dX3_longestRowBut_15 : decode cX3_longestRowBut 15 = .ok (.aload_n 0, 1) := by decide +kernel
theorem dX3_longestRowBut_16 : decode cX3_longestRowBut 16 = .ok (.getfield 56, 3) := by decide +kernel
theorem dX3_longestRowBut_19 : decode cX3_longestRowBut 19 = .ok (.iload_n 3, 1) := by decide +kernel
theorem dX3_longestRowBut_20 : decode cX3_longestRowBut 20 = .ok (.iaload, 1) := by decide +kernel
theorem dX3_longestRowBut_21 : decode cX3_longestRowBut 21 = .ok (.invokestatic 68, 3) := by decide +kernel
theorem dX3_longestRowBut_24 : decode cX3_longestRowBut 24 = .ok (.istore_n 2, 1) := by decide +kernel
theorem dX3_longestRowBut_25 : decode cX3_longestRowBut 25 = .ok (.iinc 3 1, 3) := by decide +kernel
theorem dX3_longestRowBut_28 : decode cX3_longestRowBut 28 = .ok (.goto (-24), 3) := by decide +kernel
theorem dX3_longestRowBut_31 : decode cX3_longestRowBut 31 = .ok (.iload_n 2, 1) := by decide +kernel
theorem dX3_longestRowBut_32 : decode cX3_longestRowBut 32 = .ok (.ireturn, 1) := by decide +kernel
theorem dX3_reserveWith_0 : decode cX3_reserveWith 0 = .ok (.iconst 0, 1) := by decide +kernel
theorem dX3_reserveWith_1 : decode cX3_reserveWith 1 = .ok (.iload_n 1, 1) := by decide +kernel
theorem dX3_reserveWith_2 : decode cX3_reserveWith 2 = .ok (.aload_n 0, 1) := by decide +kernel
theorem dX3_reserveWith_3 : decode cX3_reserveWith 3 = .ok (.getfield 25, 3) := by decide +kernel
theorem dX3_reserveWith_6 : decode cX3_reserveWith 6 = .ok (.isub, 1) := by decide +kernel
theorem dX3_reserveWith_7 : decode cX3_reserveWith 7 = .ok (.invokestatic 68, 3) := by decide +kernel
theorem dX3_reserveWith_10 : decode cX3_reserveWith 10 = .ok (.istore_n 2, 1) := by decide +kernel
theorem dX3_reserveWith_11 : decode cX3_reserveWith 11 = .ok (.iconst 0, 1) := by decide +kernel
theorem dX3_reserveWith_12 : decode cX3_reserveWith 12 = .ok (.aload_n 0, 1) := by decide +kernel
theorem dX3_reserveWith_13 : decode cX3_reserveWith 13 = .ok (.getfield 28, 3) := by decide +kernel
theorem dX3_reserveWith_16 : decode cX3_reserveWith 16 = .ok (.iload_n 2, 1) := by decide +kernel
theorem dX3_reserveWith_17 : decode cX3_reserveWith 17 = .ok (.isub, 1) := by decide +kernel
theorem dX3_reserveWith_18 : decode cX3_reserveWith 18 = .ok (.invokestatic 68, 3) := by decide +kernel
theorem dX3_reserveWith_21 : decode cX3_reserveWith 21 = .ok (.ireturn, 1) := by decide +kernel
theorem dX3_lengthWith_0 : decode cX3_lengthWith 0 = .ok (.iload_n 1, 1) := by decide +kernel
theorem dX3_lengthWith_1 : decode cX3_lengthWith 1 = .ok (.aload_n 0, 1) := by decide +kernel
theorem dX3_lengthWith_2 : decode cX3_lengthWith 2 = .ok (.iload_n 1, 1) := by decide +kernel
theorem dX3_lengthWith_3 : decode cX3_lengthWith 3 = .ok (.invokevirtual 74, 3) := by decide +kernel
theorem dX3_lengthWith_6 : decode cX3_lengthWith 6 = .ok (.iadd, 1) := by decide +kernel
theorem dX3_lengthWith_7 : decode cX3_lengthWith 7 = .ok (.ireturn, 1) := by decide +kernel
theorem dX3_endIfLength_0 : decode cX3_endIfLength 0 = .ok (.iload_n 1, 1) := by decide +kernel
theorem dX3_endIfLength_1 : decode cX3_endIfLength 1 = .ok (.istore_n 2, 1) := by decide +kernel
theorem dX3_endIfLength_2 : decode cX3_endIfLength 2 = .ok (.aload_n 0, 1) := by decide +kernel
theorem dX3_endIfLength_3 : decode cX3_endIfLength 3 = .ok (.astore_n 3, 1) := by decide +kernel
theorem dX3_endIfLength_4 : decode cX3_endIfLength 4 = .ok (.aload_n 0, 1) := by decide +kernel
theorem dX3_endIfLength_5 : decode cX3_endIfLength 5 = .ok (.getfield 31, 3) := by decide +kernel
theorem dX3_endIfLength_8 : decode cX3_endIfLength 8 = .ok (.astore 4, 2) := by decide +kernel
theorem dX3_endIfLength_10 : decode cX3_endIfLength 10 = .ok (.aload 4, 2) := by decide +kernel
theorem dX3_endIfLength_12 : decode cX3_endIfLength 12 = .ok (.ifnull 49, 3) := by decide +kernel
theorem dX3_endIfLength_15 : decode cX3_endIfLength 15 = .ok (.aload 4, 2) := by decide +kernel
theorem dX3_endIfLength_17 : decode cX3_endIfLength 17 = .ok (.aload_n 3, 1) := by decide +kernel
theorem dX3_endIfLength_18 : decode cX3_endIfLength 18 = .ok (.getfield 22, 3) := by decide +kernel
theorem dX3_endIfLength_21 : decode cX3_endIfLength 21 = .ok (.invokevirtual 78, 3) := by decide +kernel
theorem dX3_endIfLength_24 : decode cX3_endIfLength 24 = .ok (.aload_n 3, 1) := by decide +kernel
theorem dX3_endIfLength_25 : decode cX3_endIfLength 25 = .ok (.getfield 44, 3) := by decide +kernel
theorem dX3_endIfLength_28 : decode cX3_endIfLength 28 = .ok (.isub, 1) := by decide +kernel
theorem dX3_endIfLength_29 : decode cX3_endIfLength 29 = .ok (.iload_n 2, 1) := by decide +kernel
theorem dX3_endIfLength_30 : decode cX3_endIfLength 30 = .ok (.iadd, 1) := by decide +kernel
theorem dX3_endIfLength_31 : decode cX3_endIfLength 31 = .ok (.istore 5, 2) := by decide +kernel
theorem dX3_endIfLength_33 : decode cX3_endIfLength 33 = .ok (.iload 5, 2) := by decide +kernel
theorem dX3_endIfLength_35 : decode cX3_endIfLength 35 = .ok (.aload 4, 2) := by decide +kernel
theorem dX3_endIfLength_37 : decode cX3_endIfLength 37 = .ok (.aload_n 3, 1) := by decide +kernel
theorem dX3_endIfLength_38 : decode cX3_endIfLength 38 = .ok (.getfield 22, 3) := by decide +kernel
theorem dX3_endIfLength_41 : decode cX3_endIfLength 41 = .ok (.invokevirtual 81, 3) := by decide +kernel
theorem dX3_endIfLength_44 : decode cX3_endIfLength 44 = .ok (.invokestatic 68, 3) := by decide +kernel
theorem dX3_endIfLength_47 : decode cX3_endIfLength 47 = .ok (.istore_n 2, 1) := by decide +kernel
theorem dX3_endIfLength_48 : decode cX3_endIfLength 48 = .ok (.aload 4, 2) := by decide +kernel
theorem dX3_endIfLength_50 : decode cX3_endIfLength 50 = .ok (.astore_n 3, 1) := by decide +kernel
theorem dX3_endIfLength_51 : decode cX3_endIfLength 51 = .ok (.aload 4, 2) := by decide +kernel
theorem dX3_endIfLength_53 : decode cX3_endIfLength 53 = .ok (.getfield 31, 3) := by decide +kernel
theorem dX3_endIfLength_56 : decode cX3_endIfLength 56 = .ok (.astore 4, 2) := by decide +kernel
theorem dX3_endIfLength_58 : decode cX3_endIfLength 58 = .ok (.goto (-48), 3) := by decide +kernel
theorem dX3_endIfLength_61 : decode cX3_endIfLength 61 = .ok (.iload_n 2, 1) := by decide +kernel
theorem dX3_endIfLength_62 : decode cX3_endIfLength 62 = .ok (.ireturn, 1) := by decide +kernel
theorem dX3_value_0 : decode cX3_value 0 = .ok (.iload_n 1, 1) := by decide +kernel
theorem dX3_value_1 : decode cX3_value 1 = .ok (.tableswitch 166 0 11 #[63, 76, 81, 86, 91, 107, 123, 128, 133, 143, 148, 153], 63) := by decide +kernel
theorem dX3_value_64 : decode cX3_value 64 = .ok (.aload_n 0, 1) := by decide +kernel
theorem dX3_value_65 : decode cX3_value 65 = .ok (.getfield 15, 3) := by decide +kernel
theorem dX3_value_68 : decode cX3_value 68 = .ok (.ifCond .eq 7, 3) := by decide +kernel
theorem dX3_value_71 : decode cX3_value 71 = .ok (.iconst 1, 1) := by decide +kernel
theorem dX3_value_72 : decode cX3_value 72 = .ok (.goto 4, 3) := by decide +kernel
theorem dX3_value_75 : decode cX3_value 75 = .ok (.iconst 0, 1) := by decide +kernel
theorem dX3_value_76 : decode cX3_value 76 = .ok (.ireturn, 1) := by decide +kernel
theorem dX3_value_77 : decode cX3_value 77 = .ok (.aload_n 0, 1) := by decide +kernel
theorem dX3_value_78 : decode cX3_value 78 = .ok (.getfield 19, 3) := by decide +kernel
theorem dX3_value_81 : decode cX3_value 81 = .ok (.ireturn, 1) := by decide +kernel
theorem dX3_value_82 : decode cX3_value 82 = .ok (.aload_n 0, 1) := by decide +kernel
theorem dX3_value_83 : decode cX3_value 83 = .ok (.getfield 22, 3) := by decide +kernel
theorem dX3_value_86 : decode cX3_value 86 = .ok (.ireturn, 1) := by decide +kernel
theorem dX3_value_87 : decode cX3_value 87 = .ok (.aload_n 0, 1) := by decide +kernel
theorem dX3_value_88 : decode cX3_value 88 = .ok (.getfield 38, 3) := by decide +kernel
theorem dX3_value_91 : decode cX3_value 91 = .ok (.ireturn, 1) := by decide +kernel
theorem dX3_value_92 : decode cX3_value 92 = .ok (.aload_n 0, 1) := by decide +kernel
theorem dX3_value_93 : decode cX3_value 93 = .ok (.getfield 15, 3) := by decide +kernel
theorem dX3_value_96 : decode cX3_value 96 = .ok (.ifCond .eq 10, 3) := by decide +kernel
theorem dX3_value_99 : decode cX3_value 99 = .ok (.aload_n 0, 1) := by decide +kernel
theorem dX3_value_100 : decode cX3_value 100 = .ok (.getfield 25, 3) := by decide +kernel
theorem dX3_value_103 : decode cX3_value 103 = .ok (.goto 4, 3) := by decide +kernel
theorem dX3_value_106 : decode cX3_value 106 = .ok (.iconst (-1), 1) := by decide +kernel
theorem dX3_value_107 : decode cX3_value 107 = .ok (.ireturn, 1) := by decide +kernel
theorem dX3_value_108 : decode cX3_value 108 = .ok (.aload_n 0, 1) := by decide +kernel
theorem dX3_value_109 : decode cX3_value 109 = .ok (.getfield 15, 3) := by decide +kernel
theorem dX3_value_112 : decode cX3_value 112 = .ok (.ifCond .eq 10, 3) := by decide +kernel
theorem dX3_value_115 : decode cX3_value 115 = .ok (.aload_n 0, 1) := by decide +kernel
theorem dX3_value_116 : decode cX3_value 116 = .ok (.getfield 28, 3) := by decide +kernel
theorem dX3_value_119 : decode cX3_value 119 = .ok (.goto 4, 3) := by decide +kernel
theorem dX3_value_122 : decode cX3_value 122 = .ok (.iconst (-1), 1) := by decide +kernel
theorem dX3_value_123 : decode cX3_value 123 = .ok (.ireturn, 1) := by decide +kernel
theorem dX3_value_124 : decode cX3_value 124 = .ok (.aload_n 0, 1) := by decide +kernel
theorem dX3_value_125 : decode cX3_value 125 = .ok (.getfield 44, 3) := by decide +kernel
theorem dX3_value_128 : decode cX3_value 128 = .ok (.ireturn, 1) := by decide +kernel
theorem dX3_value_129 : decode cX3_value 129 = .ok (.aload_n 0, 1) := by decide +kernel
theorem dX3_value_130 : decode cX3_value 130 = .ok (.getfield 47, 3) := by decide +kernel
theorem dX3_value_133 : decode cX3_value 133 = .ok (.ireturn, 1) := by decide +kernel
theorem dX3_value_134 : decode cX3_value 134 = .ok (.aload_n 0, 1) := by decide +kernel
theorem dX3_value_135 : decode cX3_value 135 = .ok (.getfield 47, 3) := by decide +kernel
theorem dX3_value_138 : decode cX3_value 138 = .ok (.aload_n 0, 1) := by decide +kernel
theorem dX3_value_139 : decode cX3_value 139 = .ok (.getfield 53, 3) := by decide +kernel
theorem dX3_value_142 : decode cX3_value 142 = .ok (.iadd, 1) := by decide +kernel
theorem dX3_value_143 : decode cX3_value 143 = .ok (.ireturn, 1) := by decide +kernel
theorem dX3_value_144 : decode cX3_value 144 = .ok (.aload_n 0, 1) := by decide +kernel
theorem dX3_value_145 : decode cX3_value 145 = .ok (.getfield 53, 3) := by decide +kernel
theorem dX3_value_148 : decode cX3_value 148 = .ok (.ireturn, 1) := by decide +kernel
theorem dX3_value_149 : decode cX3_value 149 = .ok (.aload_n 0, 1) := by decide +kernel
theorem dX3_value_150 : decode cX3_value 150 = .ok (.getfield 50, 3) := by decide +kernel
theorem dX3_value_153 : decode cX3_value 153 = .ok (.ireturn, 1) := by decide +kernel
theorem dX3_value_154 : decode cX3_value 154 = .ok (.aload_n 0, 1) := by decide +kernel
theorem dX3_value_155 : decode cX3_value 155 = .ok (.invokevirtual 60, 3) := by decide +kernel
theorem dX3_value_158 : decode cX3_value 158 = .ok (.ifCond .eq 7, 3) := by decide +kernel
theorem dX3_value_161 : decode cX3_value 161 = .ok (.iconst 1, 1) := by decide +kernel
theorem dX3_value_162 : decode cX3_value 162 = .ok (.goto 4, 3) := by decide +kernel
theorem dX3_value_165 : decode cX3_value 165 = .ok (.iconst 0, 1) := by decide +kernel
theorem dX3_value_166 : decode cX3_value 166 = .ok (.ireturn, 1) := by decide +kernel
theorem dX3_value_167 : decode cX3_value 167 = .ok (.aload_n 0, 1) := by decide +kernel
theorem dX3_value_168 : decode cX3_value 168 = .ok (.getfield 41, 3) := by decide +kernel
theorem dX3_value_171 : decode cX3_value 171 = .ok (.ireturn, 1) := by decide +kernel
theorem dX5_init_0 : decode cX5_init 0 = .ok (.aload_n 0, 1) := by decide +kernel
theorem dX5_init_1 : decode cX5_init 1 = .ok (.invokespecial 3, 3) := by decide +kernel
theorem dX5_init_4 : decode cX5_init 4 = .ok (.aload_n 0, 1) := by decide +kernel
theorem dX5_init_5 : decode cX5_init 5 = .ok (.bipush 24, 2) := by decide +kernel
theorem dX5_init_7 : decode cX5_init 7 = .ok (.anewarray 9, 3) := by decide +kernel
theorem dX5_init_10 : decode cX5_init 10 = .ok (.putfield 11, 3) := by decide +kernel
theorem dX5_init_13 : decode cX5_init 13 = .ok (.aload_n 0, 1) := by decide +kernel
theorem dX5_init_14 : decode cX5_init 14 = .ok (.bipush 24, 2) := by decide +kernel
theorem dX5_init_16 : decode cX5_init 16 = .ok (.anewarray 9, 3) := by decide +kernel
theorem dX5_init_19 : decode cX5_init 19 = .ok (.putfield 17, 3) := by decide +kernel
theorem dX5_init_22 : decode cX5_init 22 = .ok (.aload_n 0, 1) := by decide +kernel
theorem dX5_init_23 : decode cX5_init 23 = .ok (.iconst 1, 1) := by decide +kernel
theorem dX5_init_24 : decode cX5_init 24 = .ok (.putfield 20, 3) := by decide +kernel
theorem dX5_init_27 : decode cX5_init 27 = .ok (.aload_n 0, 1) := by decide +kernel
theorem dX5_init_28 : decode cX5_init 28 = .ok (.iconst 1, 1) := by decide +kernel
theorem dX5_init_29 : decode cX5_init 29 = .ok (.putfield 24, 3) := by decide +kernel
theorem dX5_init_32 : decode cX5_init 32 = .ok (.aload_n 0, 1) := by decide +kernel
theorem dX5_init_33 : decode cX5_init 33 = .ok (.bipush 99, 2) := by decide +kernel
theorem dX5_init_35 : decode cX5_init 35 = .ok (.putfield 27, 3) := by decide +kernel
theorem dX5_init_38 : decode cX5_init 38 = .ok (.iconst 0, 1) := by decide +kernel
theorem dX5_init_39 : decode cX5_init 39 = .ok (.istore_n 1, 1) := by decide +kernel
theorem dX5_init_40 : decode cX5_init 40 = .ok (.iload_n 1, 1) := by decide +kernel
theorem dX5_init_41 : decode cX5_init 41 = .ok (.bipush 24, 2) := by decide +kernel
theorem dX5_init_43 : decode cX5_init 43 = .ok (.if_icmp .ge 34, 3) := by decide +kernel
theorem dX5_init_46 : decode cX5_init 46 = .ok (.aload_n 0, 1) := by decide +kernel
theorem dX5_init_47 : decode cX5_init 47 = .ok (.getfield 11, 3) := by decide +kernel
theorem dX5_init_50 : decode cX5_init 50 = .ok (.iload_n 1, 1) := by decide +kernel
theorem dX5_init_51 : decode cX5_init 51 = .ok (.new 9, 3) := by decide +kernel
theorem dX5_init_54 : decode cX5_init 54 = .ok (.dup, 1) := by decide +kernel
theorem dX5_init_55 : decode cX5_init 55 = .ok (.invokespecial 30, 3) := by decide +kernel
theorem dX5_init_58 : decode cX5_init 58 = .ok (.aastore, 1) := by decide +kernel
theorem dX5_init_59 : decode cX5_init 59 = .ok (.aload_n 0, 1) := by decide +kernel
theorem dX5_init_60 : decode cX5_init 60 = .ok (.getfield 17, 3) := by decide +kernel
theorem dX5_init_63 : decode cX5_init 63 = .ok (.iload_n 1, 1) := by decide +kernel
theorem dX5_init_64 : decode cX5_init 64 = .ok (.aload_n 0, 1) := by decide +kernel
theorem dX5_init_65 : decode cX5_init 65 = .ok (.getfield 11, 3) := by decide +kernel
theorem dX5_init_68 : decode cX5_init 68 = .ok (.iload_n 1, 1) := by decide +kernel
theorem dX5_init_69 : decode cX5_init 69 = .ok (.aaload, 1) := by decide +kernel
theorem dX5_init_70 : decode cX5_init 70 = .ok (.aastore, 1) := by decide +kernel
theorem dX5_init_71 : decode cX5_init 71 = .ok (.iinc 1 1, 3) := by decide +kernel
theorem dX5_init_74 : decode cX5_init 74 = .ok (.goto (-34), 3) := by decide +kernel
theorem dX5_init_77 : decode cX5_init 77 = .ok (.return_, 1) := by decide +kernel
theorem dX5_copyFrom_0 : decode cX5_copyFrom 0 = .ok (.aload_n 0, 1) := by decide +kernel
theorem dX5_copyFrom_1 : decode cX5_copyFrom 1 = .ok (.aload_n 1, 1) := by decide +kernel
theorem dX5_copyFrom_2 : decode cX5_copyFrom 2 = .ok (.getfield 20, 3) := by decide +kernel
theorem dX5_copyFrom_5 : decode cX5_copyFrom 5 = .ok (.putfield 20, 3) := by decide +kernel
theorem dX5_copyFrom_8 : decode cX5_copyFrom 8 = .ok (.aload_n 0, 1) := by decide +kernel
theorem dX5_copyFrom_9 : decode cX5_copyFrom 9 = .ok (.aload_n 1, 1) := by decide +kernel
theorem dX5_copyFrom_10 : decode cX5_copyFrom 10 = .ok (.getfield 24, 3) := by decide +kernel
theorem dX5_copyFrom_13 : decode cX5_copyFrom 13 = .ok (.putfield 24, 3) := by decide +kernel
theorem dX5_copyFrom_16 : decode cX5_copyFrom 16 = .ok (.aload_n 0, 1) := by decide +kernel
theorem dX5_copyFrom_17 : decode cX5_copyFrom 17 = .ok (.aload_n 1, 1) := by decide +kernel
theorem dX5_copyFrom_18 : decode cX5_copyFrom 18 = .ok (.getfield 27, 3) := by decide +kernel
theorem dX5_copyFrom_21 : decode cX5_copyFrom 21 = .ok (.putfield 27, 3) := by decide +kernel
theorem dX5_copyFrom_24 : decode cX5_copyFrom 24 = .ok (.iconst 0, 1) := by decide +kernel
theorem dX5_copyFrom_25 : decode cX5_copyFrom 25 = .ok (.istore_n 2, 1) := by decide +kernel
theorem dX5_copyFrom_26 : decode cX5_copyFrom 26 = .ok (.iload_n 2, 1) := by decide +kernel
theorem dX5_copyFrom_27 : decode cX5_copyFrom 27 = .ok (.bipush 24, 2) := by decide +kernel
theorem dX5_copyFrom_29 : decode cX5_copyFrom 29 = .ok (.if_icmp .ge 24, 3) := by decide +kernel
theorem dX5_copyFrom_32 : decode cX5_copyFrom 32 = .ok (.aload_n 0, 1) := by decide +kernel
theorem dX5_copyFrom_33 : decode cX5_copyFrom 33 = .ok (.getfield 11, 3) := by decide +kernel
theorem dX5_copyFrom_36 : decode cX5_copyFrom 36 = .ok (.iload_n 2, 1) := by decide +kernel
theorem dX5_copyFrom_37 : decode cX5_copyFrom 37 = .ok (.aaload, 1) := by decide +kernel
theorem dX5_copyFrom_38 : decode cX5_copyFrom 38 = .ok (.aload_n 1, 1) := by decide +kernel
theorem dX5_copyFrom_39 : decode cX5_copyFrom 39 = .ok (.getfield 11, 3) := by decide +kernel
theorem dX5_copyFrom_42 : decode cX5_copyFrom 42 = .ok (.iload_n 2, 1) := by decide +kernel
theorem dX5_copyFrom_43 : decode cX5_copyFrom 43 = .ok (.aaload, 1) := by decide +kernel
theorem dX5_copyFrom_44 : decode cX5_copyFrom 44 = .ok (.invokevirtual 31, 3) := by decide +kernel
theorem dX5_copyFrom_47 : decode cX5_copyFrom 47 = .ok (.iinc 2 1, 3) := by decide +kernel
theorem dX5_copyFrom_50 : decode cX5_copyFrom 50 = .ok (.goto (-24), 3) := by decide +kernel
theorem dX5_copyFrom_53 : decode cX5_copyFrom 53 = .ok (.return_, 1) := by decide +kernel
theorem dX5_find_0 : decode cX5_find 0 = .ok (.iconst 0, 1) := by decide +kernel
theorem dX5_find_1 : decode cX5_find 1 = .ok (.istore_n 2, 1) := by decide +kernel
theorem dX5_find_2 : decode cX5_find 2 = .ok (.iload_n 2, 1) := by decide +kernel
theorem dX5_find_3 : decode cX5_find 3 = .ok (.aload_n 0, 1) := by decide +kernel
theorem dX5_find_4 : decode cX5_find 4 = .ok (.getfield 20, 3) := by decide +kernel
theorem dX5_find_7 : decode cX5_find 7 = .ok (.if_icmp .ge 29, 3) := by decide +kernel
theorem dX5_find_10 : decode cX5_find 10 = .ok (.aload_n 0, 1) := by decide +kernel
theorem dX5_find_11 : decode cX5_find 11 = .ok (.getfield 11, 3) := by decide +kernel
theorem dX5_find_14 : decode cX5_find 14 = .ok (.iload_n 2, 1) := by decide +kernel
theorem dX5_find_15 : decode cX5_find 15 = .ok (.aaload, 1) := by decide +kernel
theorem dX5_find_16 : decode cX5_find 16 = .ok (.getfield 35, 3) := by decide +kernel
theorem dX5_find_19 : decode cX5_find 19 = .ok (.iload_n 1, 1) := by decide +kernel
theorem dX5_find_20 : decode cX5_find 20 = .ok (.if_icmp .ne 10, 3) := by decide +kernel
theorem dX5_find_23 : decode cX5_find 23 = .ok (.aload_n 0, 1) := by decide +kernel
theorem dX5_find_24 : decode cX5_find 24 = .ok (.getfield 11, 3) := by decide +kernel
theorem dX5_find_27 : decode cX5_find 27 = .ok (.iload_n 2, 1) := by decide +kernel
theorem dX5_find_28 : decode cX5_find 28 = .ok (.aaload, 1) := by decide +kernel
theorem dX5_find_29 : decode cX5_find 29 = .ok (.areturn, 1) := by decide +kernel
theorem dX5_find_30 : decode cX5_find 30 = .ok (.iinc 2 1, 3) := by decide +kernel
theorem dX5_find_33 : decode cX5_find 33 = .ok (.goto (-31), 3) := by decide +kernel
theorem dX5_find_36 : decode cX5_find 36 = .ok (.aconst_null, 1) := by decide +kernel
theorem dX5_find_37 : decode cX5_find 37 = .ok (.areturn, 1) := by decide +kernel
theorem dX5_plan_0 : decode cX5_plan 0 = .ok (.aload_n 0, 1) := by decide +kernel
theorem dX5_plan_1 : decode cX5_plan 1 = .ok (.invokevirtual 38, 3) := by decide +kernel
theorem dX5_plan_4 : decode cX5_plan 4 = .ok (.aload_n 0, 1) := by decide +kernel
theorem dX5_plan_5 : decode cX5_plan 5 = .ok (.invokevirtual 41, 3) := by decide +kernel
theorem dX5_plan_8 : decode cX5_plan 8 = .ok (.iconst 0, 1) := by decide +kernel
theorem dX5_plan_9 : decode cX5_plan 9 = .ok (.istore_n 1, 1) := by decide +kernel
theorem dX5_plan_10 : decode cX5_plan 10 = .ok (.iload_n 1, 1) := by decide +kernel
theorem dX5_plan_11 : decode cX5_plan 11 = .ok (.aload_n 0, 1) := by decide +kernel
theorem dX5_plan_12 : decode cX5_plan 12 = .ok (.getfield 20, 3) := by decide +kernel
theorem dX5_plan_15 : decode cX5_plan 15 = .ok (.if_icmp .ge 19, 3) := by decide +kernel
theorem dX5_plan_18 : decode cX5_plan 18 = .ok (.aload_n 0, 1) := by decide +kernel
theorem dX5_plan_19 : decode cX5_plan 19 = .ok (.aload_n 0, 1) := by decide +kernel
theorem dX5_plan_20 : decode cX5_plan 20 = .ok (.getfield 17, 3) := by decide +kernel
theorem dX5_plan_23 : decode cX5_plan 23 = .ok (.iload_n 1, 1) := by decide +kernel
theorem dX5_plan_24 : decode cX5_plan 24 = .ok (.aaload, 1) := by decide +kernel
theorem dX5_plan_25 : decode cX5_plan 25 = .ok (.invokevirtual 44, 3) := by decide +kernel
theorem dX5_plan_28 : decode cX5_plan 28 = .ok (.iinc 1 1, 3) := by decide +kernel
theorem dX5_plan_31 : decode cX5_plan 31 = .ok (.goto (-21), 3) := by decide +kernel
theorem dX5_plan_34 : decode cX5_plan 34 = .ok (.return_, 1) := by decide +kernel
theorem dX5_findOrder_0 : decode cX5_findOrder 0 = .ok (.aload_n 0, 1) := by decide +kernel
theorem dX5_findOrder_1 : decode cX5_findOrder 1 = .ok (.getfield 17, 3) := by decide +kernel
theorem dX5_findOrder_4 : decode cX5_findOrder 4 = .ok (.iconst 0, 1) := by decide +kernel
theorem dX5_findOrder_5 : decode cX5_findOrder 5 = .ok (.aload_n 0, 1) := by decide +kernel
theorem dX5_findOrder_6 : decode cX5_findOrder 6 = .ok (.getfield 11, 3) := by decide +kernel
theorem dX5_findOrder_9 : decode cX5_findOrder 9 = .ok (.iconst 0, 1) := by decide +kernel
theorem dX5_findOrder_10 : decode cX5_findOrder 10 = .ok (.aaload, 1) := by decide +kernel
theorem dX5_findOrder_11 : decode cX5_findOrder 11 = .ok (.aastore, 1) := by decide +kernel
theorem dX5_findOrder_12 : decode cX5_findOrder 12 = .ok (.iconst 1, 1) := by decide +kernel
theorem dX5_findOrder_13 : decode cX5_findOrder 13 = .ok (.istore_n 1, 1) := by decide +kernel
theorem dX5_findOrder_14 : decode cX5_findOrder 14 = .ok (.iconst 0, 1) := by decide +kernel
theorem dX5_findOrder_15 : decode cX5_findOrder 15 = .ok (.istore_n 2, 1) := by decide +kernel
theorem dX5_findOrder_16 : decode cX5_findOrder 16 = .ok (.iload_n 2, 1) := by decide +kernel
theorem dX5_findOrder_17 : decode cX5_findOrder 17 = .ok (.iload_n 1, 1) := by decide +kernel
theorem dX5_findOrder_18 : decode cX5_findOrder 18 = .ok (.if_icmp .ge 89, 3) := by decide +kernel
theorem dX5_findOrder_21 : decode cX5_findOrder 21 = .ok (.aload_n 0, 1) := by decide +kernel
theorem dX5_findOrder_22 : decode cX5_findOrder 22 = .ok (.getfield 17, 3) := by decide +kernel
theorem dX5_findOrder_25 : decode cX5_findOrder 25 = .ok (.iload_n 2, 1) := by decide +kernel
theorem dX5_findOrder_26 : decode cX5_findOrder 26 = .ok (.aaload, 1) := by decide +kernel
theorem dX5_findOrder_27 : decode cX5_findOrder 27 = .ok (.astore_n 3, 1) := by decide +kernel
theorem dX5_findOrder_28 : decode cX5_findOrder 28 = .ok (.iconst 1, 1) := by decide +kernel
theorem dX5_findOrder_29 : decode cX5_findOrder 29 = .ok (.istore 4, 2) := by decide +kernel
theorem dX5_findOrder_31 : decode cX5_findOrder 31 = .ok (.iload 4, 2) := by decide +kernel
theorem dX5_findOrder_33 : decode cX5_findOrder 33 = .ok (.aload_n 0, 1) := by decide +kernel
theorem dX5_findOrder_34 : decode cX5_findOrder 34 = .ok (.getfield 20, 3) := by decide +kernel
theorem dX5_findOrder_37 : decode cX5_findOrder 37 = .ok (.if_icmp .ge 64, 3) := by decide +kernel
theorem dX5_findOrder_40 : decode cX5_findOrder 40 = .ok (.aload_n 0, 1) := by decide +kernel
theorem dX5_findOrder_41 : decode cX5_findOrder 41 = .ok (.getfield 11, 3) := by decide +kernel
theorem dX5_findOrder_44 : decode cX5_findOrder 44 = .ok (.iload 4, 2) := by decide +kernel
theorem dX5_findOrder_46 : decode cX5_findOrder 46 = .ok (.aaload, 1) := by decide +kernel
theorem dX5_findOrder_47 : decode cX5_findOrder 47 = .ok (.astore 5, 2) := by decide +kernel
theorem dX5_findOrder_49 : decode cX5_findOrder 49 = .ok (.aload 5, 2) := by decide +kernel
theorem dX5_findOrder_51 : decode cX5_findOrder 51 = .ok (.getfield 47, 3) := by decide +kernel
theorem dX5_findOrder_54 : decode cX5_findOrder 54 = .ok (.aload_n 3, 1) := by decide +kernel
theorem dX5_findOrder_55 : decode cX5_findOrder 55 = .ok (.getfield 35, 3) := by decide +kernel
theorem dX5_findOrder_58 : decode cX5_findOrder 58 = .ok (.if_icmp .ne 37, 3) := by decide +kernel
theorem dX5_findOrder_61 : decode cX5_findOrder 61 = .ok (.iload_n 1, 1) := by decide +kernel
theorem dX5_findOrder_62 : decode cX5_findOrder 62 = .ok (.bipush 24, 2) := by decide +kernel
theorem dX5_findOrder_64 : decode cX5_findOrder 64 = .ok (.if_icmp .ge 31, 3) := by decide +kernel
theorem dX5_findOrder_67 : decode cX5_findOrder 67 = .ok (.aload 5, 2) := by decide +kernel
theorem dX5_findOrder_69 : decode cX5_findOrder 69 = .ok (.aload_n 3, 1) := by decide +kernel
theorem dX5_findOrder_70 : decode cX5_findOrder 70 = .ok (.putfield 50, 3) := by decide +kernel
theorem dX5_findOrder_73 : decode cX5_findOrder 73 = .ok (.aload 5, 2) := by decide +kernel
theorem dX5_findOrder_75 : decode cX5_findOrder 75 = .ok (.aload_n 0, 1) := by decide +kernel
theorem dX5_findOrder_76 : decode cX5_findOrder 76 = .ok (.iload 4, 2) := by decide +kernel
theorem dX5_findOrder_78 : decode cX5_findOrder 78 = .ok (.invokevirtual 54, 3) := by decide +kernel
theorem dX5_findOrder_81 : decode cX5_findOrder 81 = .ok (.putfield 58, 3) := by decide +kernel
theorem dX5_findOrder_84 : decode cX5_findOrder 84 = .ok (.aload_n 0, 1) := by decide +kernel
theorem dX5_findOrder_85 : decode cX5_findOrder 85 = .ok (.getfield 17, 3) := by decide +kernel
theorem dX5_findOrder_88 : decode cX5_findOrder 88 = .ok (.iload_n 1, 1) := by decide +kernel
theorem dX5_findOrder_89 : decode cX5_findOrder 89 = .ok (.aload 5, 2) := by decide +kernel
theorem dX5_findOrder_91 : decode cX5_findOrder 91 = .ok (.aastore, 1) := by decide +kernel
theorem dX5_findOrder_92 : decode cX5_findOrder 92 = .ok (.iinc 1 1, 3) := by decide +kernel
theorem dX5_findOrder_95 : decode cX5_findOrder 95 = .ok (.iinc 4 1, 3) := by decide +kernel
theorem dX5_findOrder_98 : decode cX5_findOrder 98 = .ok (.goto (-67), 3) := by decide +kernel
theorem dX5_findOrder_101 : decode cX5_findOrder 101 = .ok (.iinc 2 1, 3) := by decide +kernel
theorem dX5_findOrder_104 : decode cX5_findOrder 104 = .ok (.goto (-88), 3) := by decide +kernel
theorem dX5_findOrder_107 : decode cX5_findOrder 107 = .ok (.return_, 1) := by decide +kernel
theorem dX5_findAhead_0 : decode cX5_findAhead 0 = .ok (.aload_n 0, 1) := by decide +kernel
theorem dX5_findAhead_1 : decode cX5_findAhead 1 = .ok (.getfield 11, 3) := by decide +kernel
theorem dX5_findAhead_4 : decode cX5_findAhead 4 = .ok (.iload_n 1, 1) := by decide +kernel
theorem dX5_findAhead_5 : decode cX5_findAhead 5 = .ok (.aaload, 1) := by decide +kernel
theorem dX5_findAhead_6 : decode cX5_findAhead 6 = .ok (.astore_n 2, 1) := by decide +kernel
theorem dX5_findAhead_7 : decode cX5_findAhead 7 = .ok (.iload_n 1, 1) := by decide +kernel
theorem dX5_findAhead_8 : decode cX5_findAhead 8 = .ok (.iconst 1, 1) := by decide +kernel
theorem dX5_findAhead_9 : decode cX5_findAhead 9 = .ok (.isub, 1) := by decide +kernel
theorem dX5_findAhead_10 : decode cX5_findAhead 10 = .ok (.istore_n 3, 1) := by decide +kernel
theorem dX5_findAhead_11 : decode cX5_findAhead 11 = .ok (.iload_n 3, 1) := by decide +kernel
theorem dX5_findAhead_12 : decode cX5_findAhead 12 = .ok (.ifCond .le 44, 3) := by decide +kernel
theorem dX5_findAhead_15 : decode cX5_findAhead 15 = .ok (.aload_n 0, 1) := by decide +kernel
theorem dX5_findAhead_16 : decode cX5_findAhead 16 = .ok (.getfield 11, 3) := by decide +kernel
theorem dX5_findAhead_19 : decode cX5_findAhead 19 = .ok (.iload_n 3, 1) := by decide +kernel
theorem dX5_findAhead_20 : decode cX5_findAhead 20 = .ok (.aaload, 1) := by decide +kernel
theorem dX5_findAhead_21 : decode cX5_findAhead 21 = .ok (.astore 4, 2) := by decide +kernel
theorem dX5_findAhead_23 : decode cX5_findAhead 23 = .ok (.aload 4, 2) := by decide +kernel
theorem dX5_findAhead_25 : decode cX5_findAhead 25 = .ok (.getfield 47, 3) := by decide +kernel
theorem dX5_findAhead_28 : decode cX5_findAhead 28 = .ok (.aload_n 2, 1) := by decide +kernel
theorem dX5_findAhead_29 : decode cX5_findAhead 29 = .ok (.getfield 47, 3) := by decide +kernel
theorem dX5_findAhead_32 : decode cX5_findAhead 32 = .ok (.if_icmp .ne 18, 3) := by decide +kernel
theorem dX5_findAhead_35 : decode cX5_findAhead 35 = .ok (.aload 4, 2) := by decide +kernel
theorem dX5_findAhead_37 : decode cX5_findAhead 37 = .ok (.getfield 61, 3) := by decide +kernel
theorem dX5_findAhead_40 : decode cX5_findAhead 40 = .ok (.aload_n 2, 1) := by decide +kernel
theorem dX5_findAhead_41 : decode cX5_findAhead 41 = .ok (.getfield 61, 3) := by decide +kernel
theorem dX5_findAhead_44 : decode cX5_findAhead 44 = .ok (.if_icmp .ne 6, 3) := by decide +kernel
theorem dX5_findAhead_47 : decode cX5_findAhead 47 = .ok (.aload 4, 2) := by decide +kernel
theorem dX5_findAhead_49 : decode cX5_findAhead 49 = .ok (.areturn, 1) := by decide +kernel
theorem dX5_findAhead_50 : decode cX5_findAhead 50 = .ok (.iinc 3 (-1), 3) := by decide +kernel
theorem dX5_findAhead_53 : decode cX5_findAhead 53 = .ok (.goto (-42), 3) := by decide +kernel
theorem dX5_findAhead_56 : decode cX5_findAhead 56 = .ok (.aconst_null, 1) := by decide +kernel
theorem dX5_findAhead_57 : decode cX5_findAhead 57 = .ok (.areturn, 1) := by decide +kernel
theorem dX5_measureLengths_0 : decode cX5_measureLengths 0 = .ok (.iconst 0, 1) := by decide +kernel
theorem dX5_measureLengths_1 : decode cX5_measureLengths 1 = .ok (.istore_n 1, 1) := by decide +kernel
theorem dX5_measureLengths_2 : decode cX5_measureLengths 2 = .ok (.iload_n 1, 1) := by decide +kernel
theorem dX5_measureLengths_3 : decode cX5_measureLengths 3 = .ok (.aload_n 0, 1) := by decide +kernel
theorem dX5_measureLengths_4 : decode cX5_measureLengths 4 = .ok (.getfield 20, 3) := by decide +kernel
theorem dX5_measureLengths_7 : decode cX5_measureLengths 7 = .ok (.if_icmp .ge 34, 3) := by decide +kernel
theorem dX5_measureLengths_10 : decode cX5_measureLengths 10 = .ok (.iconst 0, 1) := by decide +kernel
theorem dX5_measureLengths_11 : decode cX5_measureLengths 11 = .ok (.istore_n 2, 1) := by decide +kernel
theorem dX5_measureLengths_12 : decode cX5_measureLengths 12 = .ok (.iload_n 2, 1) := by decide +kernel
theorem dX5_measureLengths_13 : decode cX5_measureLengths 13 = .ok (.iconst 4, 1) := by decide +kernel
theorem dX5_measureLengths_14 : decode cX5_measureLengths 14 = .ok (.if_icmp .ge 21, 3) := by decide +kernel
theorem dX5_measureLengths_17 : decode cX5_measureLengths 17 = .ok (.aload_n 0, 1) := by decide +kernel
theorem dX5_measureLengths_18 : decode cX5_measureLengths 18 = .ok (.getfield 11, 3) := by decide +kernel
theorem dX5_measureLengths_21 : decode cX5_measureLengths 21 = .ok (.iload_n 1, 1) := by decide +kernel
theorem dX5_measureLengths_22 : decode cX5_measureLengths 22 = .ok (.aaload, 1) := by decide +kernel
theorem dX5_measureLengths_23 : decode cX5_measureLengths 23 = .ok (.getfield 64, 3) := by decide +kernel
theorem dX5_measureLengths_26 : decode cX5_measureLengths 26 = .ok (.iload_n 2, 1) := by decide +kernel
theorem dX5_measureLengths_27 : decode cX5_measureLengths 27 = .ok (.iconst 0, 1) := by decide +kernel
theorem dX5_measureLengths_28 : decode cX5_measureLengths 28 = .ok (.iastore, 1) := by decide +kernel
theorem dX5_measureLengths_29 : decode cX5_measureLengths 29 = .ok (.iinc 2 1, 3) := by decide +kernel
theorem dX5_measureLengths_32 : decode cX5_measureLengths 32 = .ok (.goto (-20), 3) := by decide +kernel
theorem dX5_measureLengths_35 : decode cX5_measureLengths 35 = .ok (.iinc 1 1, 3) := by decide +kernel
theorem dX5_measureLengths_38 : decode cX5_measureLengths 38 = .ok (.goto (-36), 3) := by decide +kernel
theorem dX5_measureLengths_41 : decode cX5_measureLengths 41 = .ok (.aload_n 0, 1) := by decide +kernel
theorem dX5_measureLengths_42 : decode cX5_measureLengths 42 = .ok (.getfield 20, 3) := by decide +kernel
theorem dX5_measureLengths_45 : decode cX5_measureLengths 45 = .ok (.iconst 1, 1) := by decide +kernel
theorem dX5_measureLengths_46 : decode cX5_measureLengths 46 = .ok (.isub, 1) := by decide +kernel
theorem dX5_measureLengths_47 : decode cX5_measureLengths 47 = .ok (.istore_n 1, 1) := by decide +kernel
theorem dX5_measureLengths_48 : decode cX5_measureLengths 48 = .ok (.iload_n 1, 1) := by decide +kernel
theorem dX5_measureLengths_49 : decode cX5_measureLengths 49 = .ok (.ifCond .lt 66, 3) := by decide +kernel
theorem dX5_measureLengths_52 : decode cX5_measureLengths 52 = .ok (.aload_n 0, 1) := by decide +kernel
theorem dX5_measureLengths_53 : decode cX5_measureLengths 53 = .ok (.getfield 17, 3) := by decide +kernel
theorem dX5_measureLengths_56 : decode cX5_measureLengths 56 = .ok (.iload_n 1, 1) := by decide +kernel
theorem dX5_measureLengths_57 : decode cX5_measureLengths 57 = .ok (.aaload, 1) := by decide +kernel
theorem dX5_measureLengths_58 : decode cX5_measureLengths 58 = .ok (.astore_n 2, 1) := by decide +kernel
theorem dX5_measureLengths_59 : decode cX5_measureLengths 59 = .ok (.aload_n 2, 1) := by decide +kernel
theorem dX5_measureLengths_60 : decode cX5_measureLengths 60 = .ok (.aload_n 2, 1) := by decide +kernel
theorem dX5_measureLengths_61 : decode cX5_measureLengths 61 = .ok (.getfield 68, 3) := by decide +kernel
theorem dX5_measureLengths_64 : decode cX5_measureLengths 64 = .ok (.ifCond .eq 15, 3) := by decide +kernel
theorem dX5_measureLengths_67 : decode cX5_measureLengths 67 = .ok (.aload_n 2, 1) := by decide +kernel
theorem dX5_measureLengths_68 : decode cX5_measureLengths 68 = .ok (.getfield 72, 3) := by decide +kernel
theorem dX5_measureLengths_71 : decode cX5_measureLengths 71 = .ok (.aload_n 2, 1) := by decide +kernel
theorem dX5_measureLengths_72 : decode cX5_measureLengths 72 = .ok (.getfield 75, 3) := by decide +kernel
theorem dX5_measureLengths_75 : decode cX5_measureLengths 75 = .ok (.iadd, 1) := by decide +kernel
theorem dX5_measureLengths_76 : decode cX5_measureLengths 76 = .ok (.goto 8, 3) := by decide +kernel
theorem dX5_measureLengths_79 : decode cX5_measureLengths 79 = .ok (.aload_n 2, 1) := by decide +kernel
theorem dX5_measureLengths_80 : decode cX5_measureLengths 80 = .ok (.iconst (-1), 1) := by decide +kernel
theorem dX5_measureLengths_81 : decode cX5_measureLengths 81 = .ok (.invokevirtual 78, 3) := by decide +kernel
theorem dX5_measureLengths_84 : decode cX5_measureLengths 84 = .ok (.putfield 82, 3) := by decide +kernel
theorem dX5_measureLengths_87 : decode cX5_measureLengths 87 = .ok (.aload_n 2, 1) := by decide +kernel
theorem dX5_measureLengths_88 : decode cX5_measureLengths 88 = .ok (.getfield 50, 3) := by decide +kernel
theorem dX5_measureLengths_91 : decode cX5_measureLengths 91 = .ok (.ifnull 18, 3) := by decide +kernel
theorem dX5_measureLengths_94 : decode cX5_measureLengths 94 = .ok (.aload_n 2, 1) := by decide +kernel
theorem dX5_measureLengths_95 : decode cX5_measureLengths 95 = .ok (.getfield 50, 3) := by decide +kernel
theorem dX5_measureLengths_98 : decode cX5_measureLengths 98 = .ok (.aload_n 2, 1) := by decide +kernel
theorem dX5_measureLengths_99 : decode cX5_measureLengths 99 = .ok (.getfield 61, 3) := by decide +kernel
theorem dX5_measureLengths_102 : decode cX5_measureLengths 102 = .ok (.aload_n 2, 1) := by decide +kernel
theorem dX5_measureLengths_103 : decode cX5_measureLengths 103 = .ok (.getfield 82, 3) := by decide +kernel
theorem dX5_measureLengths_106 : decode cX5_measureLengths 106 = .ok (.invokevirtual 85, 3) := by decide +kernel
theorem dX5_measureLengths_109 : decode cX5_measureLengths 109 = .ok (.iinc 1 (-1), 3) := by decide +kernel
theorem dX5_measureLengths_112 : decode cX5_measureLengths 112 = .ok (.goto (-64), 3) := by decide +kernel
theorem dX5_measureLengths_115 : decode cX5_measureLengths 115 = .ok (.return_, 1) := by decide +kernel
theorem dX5_tellTimes_0 : decode cX5_tellTimes 0 = .ok (.aload_n 1, 1) := by decide +kernel
theorem dX5_tellTimes_1 : decode cX5_tellTimes 1 = .ok (.getfield 50, 3) := by decide +kernel
theorem dX5_tellTimes_4 : decode cX5_tellTimes 4 = .ok (.astore_n 2, 1) := by decide +kernel
theorem dX5_tellTimes_5 : decode cX5_tellTimes 5 = .ok (.aload_n 1, 1) := by decide +kernel
theorem dX5_tellTimes_6 : decode cX5_tellTimes 6 = .ok (.getfield 58, 3) := by decide +kernel
theorem dX5_tellTimes_9 : decode cX5_tellTimes 9 = .ok (.astore_n 3, 1) := by decide +kernel
theorem dX5_tellTimes_10 : decode cX5_tellTimes 10 = .ok (.aload_n 2, 1) := by decide +kernel
theorem dX5_tellTimes_11 : decode cX5_tellTimes 11 = .ok (.ifnonnull 4, 3) := by decide +kernel
theorem dX5_tellTimes_14 : decode cX5_tellTimes 14 = .ok (.return_, 1) := by decide +kernel
theorem dX5_tellTimes_15 : decode cX5_tellTimes 15 = .ok (.aload_n 1, 1) := by decide +kernel
theorem dX5_tellTimes_16 : decode cX5_tellTimes 16 = .ok (.aload_n 2, 1) := by decide +kernel
theorem dX5_tellTimes_17 : decode cX5_tellTimes 17 = .ok (.getfield 89, 3) := by decide +kernel
theorem dX5_tellTimes_20 : decode cX5_tellTimes 20 = .ok (.iconst 1, 1) := by decide +kernel
theorem dX5_tellTimes_21 : decode cX5_tellTimes 21 = .ok (.iadd, 1) := by decide +kernel
theorem dX5_tellTimes_22 : decode cX5_tellTimes 22 = .ok (.putfield 89, 3) := by decide +kernel
theorem dX5_tellTimes_25 : decode cX5_tellTimes 25 = .ok (.aload_n 1, 1) := by decide +kernel
theorem dX5_tellTimes_26 : decode cX5_tellTimes 26 = .ok (.aload_n 3, 1) := by decide +kernel
theorem dX5_tellTimes_27 : decode cX5_tellTimes 27 = .ok (.ifnonnull 7, 3) := by decide +kernel
theorem dX5_tellTimes_30 : decode cX5_tellTimes 30 = .ok (.iconst 0, 1) := by decide +kernel
theorem dX5_tellTimes_31 : decode cX5_tellTimes 31 = .ok (.goto 9, 3) := by decide +kernel
theorem dX5_tellTimes_34 : decode cX5_tellTimes 34 = .ok (.aload_n 3, 1) := by decide +kernel
theorem dX5_tellTimes_35 : decode cX5_tellTimes 35 = .ok (.getfield 92, 3) := by decide +kernel
theorem dX5_tellTimes_38 : decode cX5_tellTimes 38 = .ok (.iconst 1, 1) := by decide +kernel
theorem dX5_tellTimes_39 : decode cX5_tellTimes 39 = .ok (.iadd, 1) := by decide +kernel
theorem dX5_tellTimes_40 : decode cX5_tellTimes 40 = .ok (.putfield 92, 3) := by decide +kernel
theorem dX5_tellTimes_43 : decode cX5_tellTimes 43 = .ok (.aload_n 1, 1) := by decide +kernel
theorem dX5_tellTimes_44 : decode cX5_tellTimes 44 = .ok (.aload_n 3, 1) := by decide +kernel
theorem dX5_tellTimes_45 : decode cX5_tellTimes 45 = .ok (.ifnonnull 10, 3) := by decide +kernel
theorem dX5_tellTimes_48 : decode cX5_tellTimes 48 = .ok (.aload_n 2, 1) := by decide +kernel
theorem dX5_tellTimes_49 : decode cX5_tellTimes 49 = .ok (.getfield 95, 3) := by decide +kernel
theorem dX5_tellTimes_52 : decode cX5_tellTimes 52 = .ok (.goto 12, 3) := by decide +kernel
theorem dX5_tellTimes_55 : decode cX5_tellTimes 55 = .ok (.aload_n 3, 1) := by decide +kernel
theorem dX5_tellTimes_56 : decode cX5_tellTimes 56 = .ok (.getfield 95, 3) := by decide +kernel
theorem dX5_tellTimes_59 : decode cX5_tellTimes 59 = .ok (.aload_n 3, 1) := by decide +kernel
theorem dX5_tellTimes_60 : decode cX5_tellTimes 60 = .ok (.getfield 82, 3) := by decide +kernel
theorem dX5_tellTimes_63 : decode cX5_tellTimes 63 = .ok (.iadd, 1) := by decide +kernel
theorem dX5_tellTimes_64 : decode cX5_tellTimes 64 = .ok (.putfield 95, 3) := by decide +kernel
theorem dX5_tellTimes_67 : decode cX5_tellTimes 67 = .ok (.aload_n 1, 1) := by decide +kernel
theorem dX5_tellTimes_68 : decode cX5_tellTimes 68 = .ok (.aload_n 2, 1) := by decide +kernel
theorem dX5_tellTimes_69 : decode cX5_tellTimes 69 = .ok (.getfield 82, 3) := by decide +kernel
theorem dX5_tellTimes_72 : decode cX5_tellTimes 72 = .ok (.aload_n 2, 1) := by decide +kernel
theorem dX5_tellTimes_73 : decode cX5_tellTimes 73 = .ok (.aload_n 1, 1) := by decide +kernel
theorem dX5_tellTimes_74 : decode cX5_tellTimes 74 = .ok (.getfield 61, 3) := by decide +kernel
theorem dX5_tellTimes_77 : decode cX5_tellTimes 77 = .ok (.invokevirtual 98, 3) := by decide +kernel
theorem dX5_tellTimes_80 : decode cX5_tellTimes 80 = .ok (.isub, 1) := by decide +kernel
theorem dX5_tellTimes_81 : decode cX5_tellTimes 81 = .ok (.putfield 101, 3) := by decide +kernel
theorem dX5_tellTimes_84 : decode cX5_tellTimes 84 = .ok (.aload_n 1, 1) := by decide +kernel
theorem dX5_tellTimes_85 : decode cX5_tellTimes 85 = .ok (.aload_n 1, 1) := by decide +kernel
theorem dX5_tellTimes_86 : decode cX5_tellTimes 86 = .ok (.getfield 101, 3) := by decide +kernel
theorem dX5_tellTimes_89 : decode cX5_tellTimes 89 = .ok (.aload_n 2, 1) := by decide +kernel
theorem dX5_tellTimes_90 : decode cX5_tellTimes 90 = .ok (.getfield 104, 3) := by decide +kernel
theorem dX5_tellTimes_93 : decode cX5_tellTimes 93 = .ok (.iadd, 1) := by decide +kernel
theorem dX5_tellTimes_94 : decode cX5_tellTimes 94 = .ok (.putfield 104, 3) := by decide +kernel
theorem dX5_tellTimes_97 : decode cX5_tellTimes 97 = .ok (.return_, 1) := by decide +kernel
theorem dX5_refusal_0 : decode cX5_refusal 0 = .ok (.aload_n 1, 1) := by decide +kernel
theorem dX5_refusal_1 : decode cX5_refusal 1 = .ok (.getstatic 107, 3) := by decide +kernel
theorem dX5_refusal_4 : decode cX5_refusal 4 = .ok (.if_acmp .ne 24, 3) := by decide +kernel
theorem dX5_refusal_7 : decode cX5_refusal 7 = .ok (.iload_n 2, 1) := by decide +kernel
theorem dX5_refusal_8 : decode cX5_refusal 8 = .ok (.iconst 0, 1) := by decide +kernel
theorem dX5_refusal_9 : decode cX5_refusal 9 = .ok (.sipush 999, 3) := by decide +kernel
theorem dX5_refusal_12 : decode cX5_refusal 12 = .ok (.invokestatic 113, 3) := by decide +kernel
theorem dX5_refusal_15 : decode cX5_refusal 15 = .ok (.ifCond .eq 9, 3) := by decide +kernel
theorem dX5_refusal_18 : decode cX5_refusal 18 = .ok (.getstatic 117, 3) := by decide +kernel
theorem dX5_refusal_21 : decode cX5_refusal 21 = .ok (.goto 6, 3) := by decide +kernel
theorem dX5_refusal_24 : decode cX5_refusal 24 = .ok (.getstatic 123, 3) := by decide +kernel
theorem dX5_refusal_27 : decode cX5_refusal 27 = .ok (.areturn, 1) := by decide +kernel
theorem dX5_refusal_28 : decode cX5_refusal 28 = .ok (.aload_n 0, 1) := by decide +kernel
theorem dX5_refusal_29 : decode cX5_refusal 29 = .ok (.iload_n 2, 1) := by decide +kernel
theorem dX5_refusal_30 : decode cX5_refusal 30 = .ok (.invokevirtual 126, 3) := by decide +kernel
theorem dX5_refusal_33 : decode cX5_refusal 33 = .ok (.astore 5, 2) := by decide +kernel
theorem dX5_refusal_35 : decode cX5_refusal 35 = .ok (.aload 5, 2) := by decide +kernel
theorem dX5_refusal_37 : decode cX5_refusal 37 = .ok (.ifnull 18, 3) := by decide +kernel
theorem dX5_refusal_40 : decode cX5_refusal 40 = .ok (.aload_n 1, 1) := by decide +kernel
theorem dX5_refusal_41 : decode cX5_refusal 41 = .ok (.getstatic 129, 3) := by decide +kernel
theorem dX5_refusal_44 : decode cX5_refusal 44 = .ok (.if_acmp .ne 15, 3) := by decide +kernel
theorem dX5_refusal_47 : decode cX5_refusal 47 = .ok (.aload_n 0, 1) := by decide +kernel
theorem dX5_refusal_48 : decode cX5_refusal 48 = .ok (.iload_n 3, 1) := by decide +kernel
theorem dX5_refusal_49 : decode cX5_refusal 49 = .ok (.invokevirtual 126, 3) := by decide +kernel
theorem dX5_refusal_52 : decode cX5_refusal 52 = .ok (.ifnonnull 7, 3) := by decide +kernel
theorem dX5_refusal_55 : decode cX5_refusal 55 = .ok (.getstatic 132, 3) := by decide +kernel
theorem dX5_refusal_58 : decode cX5_refusal 58 = .ok (.areturn, 1) := by decide +kernel
theorem dX5_refusal_59 : decode cX5_refusal 59 = .ok (.aload_n 1, 1) := by decide +kernel
theorem dX5_refusal_60 : decode cX5_refusal 60 = .ok (.iload_n 3, 1) := by decide +kernel
theorem dX5_refusal_61 : decode cX5_refusal 61 = .ok (.iload 4, 2) := by decide +kernel
theorem dX5_refusal_63 : decode cX5_refusal 63 = .ok (.invokestatic 135, 3) := by decide +kernel
theorem dX5_refusal_66 : decode cX5_refusal 66 = .ok (.ifCond .ne 7, 3) := by decide +kernel
theorem dX5_refusal_69 : decode cX5_refusal 69 = .ok (.getstatic 123, 3) := by decide +kernel
theorem dX5_refusal_72 : decode cX5_refusal 72 = .ok (.areturn, 1) := by decide +kernel
theorem dX5_refusal_73 : decode cX5_refusal 73 = .ok (.aload_n 0, 1) := by decide +kernel
theorem dX5_refusal_74 : decode cX5_refusal 74 = .ok (.aload_n 1, 1) := by decide +kernel
theorem dX5_refusal_75 : decode cX5_refusal 75 = .ok (.aload 5, 2) := by decide +kernel
theorem dX5_refusal_77 : decode cX5_refusal 77 = .ok (.iload_n 3, 1) := by decide +kernel
theorem dX5_refusal_78 : decode cX5_refusal 78 = .ok (.invokevirtual 139, 3) := by decide +kernel
theorem dX5_refusal_81 : decode cX5_refusal 81 = .ok (.ifCond .eq 9, 3) := by decide +kernel
theorem dX5_refusal_84 : decode cX5_refusal 84 = .ok (.getstatic 117, 3) := by decide +kernel
theorem dX5_refusal_87 : decode cX5_refusal 87 = .ok (.goto 6, 3) := by decide +kernel
theorem dX5_refusal_90 : decode cX5_refusal 90 = .ok (.getstatic 143, 3) := by decide +kernel
theorem dX5_refusal_93 : decode cX5_refusal 93 = .ok (.areturn, 1) := by decide +kernel
theorem dX5_areInRange_0 : decode cX5_areInRange 0 = .ok (.getstatic 146, 3) := by decide +kernel
theorem dX5_areInRange_3 : decode cX5_areInRange 3 = .ok (.aload_n 0, 1) := by decide +kernel
theorem dX5_areInRange_4 : decode cX5_areInRange 4 = .ok (.invokevirtual 151, 3) := by decide +kernel
theorem dX5_areInRange_7 : decode cX5_areInRange 7 = .ok (.iaload, 1) := by decide +kernel
theorem dX5_areInRange_8 : decode cX5_areInRange 8 = .ok (.tableswitch 95 1 6 #[40, 47, 72, 79, 87, 87], 40) := by decide +kernel
theorem dX5_areInRange_48 : decode cX5_areInRange 48 = .ok (.iload_n 1, 1) := by decide +kernel
theorem dX5_areInRange_49 : decode cX5_areInRange 49 = .ok (.iconst 0, 1) := by decide +kernel
theorem dX5_areInRange_50 : decode cX5_areInRange 50 = .ok (.iconst 3, 1) := by decide +kernel
theorem dX5_areInRange_51 : decode cX5_areInRange 51 = .ok (.invokestatic 113, 3) := by decide +kernel
theorem dX5_areInRange_54 : decode cX5_areInRange 54 = .ok (.ireturn, 1) := by decide +kernel
theorem dX5_areInRange_55 : decode cX5_areInRange 55 = .ok (.iload_n 1, 1) := by decide +kernel
theorem dX5_areInRange_56 : decode cX5_areInRange 56 = .ok (.iconst 0, 1) := by decide +kernel
theorem dX5_areInRange_57 : decode cX5_areInRange 57 = .ok (.iconst 3, 1) := by decide +kernel
theorem dX5_areInRange_58 : decode cX5_areInRange 58 = .ok (.invokestatic 113, 3) := by decide +kernel
theorem dX5_areInRange_61 : decode cX5_areInRange 61 = .ok (.ifCond .eq 17, 3) := by decide +kernel
theorem dX5_areInRange_64 : decode cX5_areInRange 64 = .ok (.iload_n 2, 1) := by decide +kernel
theorem dX5_areInRange_65 : decode cX5_areInRange 65 = .ok (.iconst 0, 1) := by decide +kernel
theorem dX5_areInRange_66 : decode cX5_areInRange 66 = .ok (.bipush 60, 2) := by decide +kernel
theorem dX5_areInRange_68 : decode cX5_areInRange 68 = .ok (.invokestatic 113, 3) := by decide +kernel
theorem dX5_areInRange_71 : decode cX5_areInRange 71 = .ok (.ifCond .eq 7, 3) := by decide +kernel
theorem dX5_areInRange_74 : decode cX5_areInRange 74 = .ok (.iconst 1, 1) := by decide +kernel
theorem dX5_areInRange_75 : decode cX5_areInRange 75 = .ok (.goto 4, 3) := by decide +kernel
theorem dX5_areInRange_78 : decode cX5_areInRange 78 = .ok (.iconst 0, 1) := by decide +kernel
theorem dX5_areInRange_79 : decode cX5_areInRange 79 = .ok (.ireturn, 1) := by decide +kernel
theorem dX5_areInRange_80 : decode cX5_areInRange 80 = .ok (.iload_n 2, 1) := by decide +kernel
theorem dX5_areInRange_81 : decode cX5_areInRange 81 = .ok (.iconst 0, 1) := by decide +kernel
theorem dX5_areInRange_82 : decode cX5_areInRange 82 = .ok (.iconst 3, 1) := by decide +kernel
theorem dX5_areInRange_83 : decode cX5_areInRange 83 = .ok (.invokestatic 113, 3) := by decide +kernel
theorem dX5_areInRange_86 : decode cX5_areInRange 86 = .ok (.ireturn, 1) := by decide +kernel
theorem dX5_areInRange_87 : decode cX5_areInRange 87 = .ok (.iload_n 1, 1) := by decide +kernel
theorem dX5_areInRange_88 : decode cX5_areInRange 88 = .ok (.iconst 0, 1) := by decide +kernel
theorem dX5_areInRange_89 : decode cX5_areInRange 89 = .ok (.bipush 60, 2) := by decide +kernel
theorem dX5_areInRange_91 : decode cX5_areInRange 91 = .ok (.invokestatic 113, 3) := by decide +kernel
theorem dX5_areInRange_94 : decode cX5_areInRange 94 = .ok (.ireturn, 1) := by decide +kernel
theorem dX5_areInRange_95 : decode cX5_areInRange 95 = .ok (.iload_n 1, 1) := by decide +kernel
theorem dX5_areInRange_96 : decode cX5_areInRange 96 = .ok (.iconst 1, 1) := by decide +kernel
theorem dX5_areInRange_97 : decode cX5_areInRange 97 = .ok (.bipush 99, 2) := by decide +kernel
theorem dX5_areInRange_99 : decode cX5_areInRange 99 = .ok (.invokestatic 113, 3) := by decide +kernel
theorem dX5_areInRange_102 : decode cX5_areInRange 102 = .ok (.ireturn, 1) := by decide +kernel
theorem dX5_areInRange_103 : decode cX5_areInRange 103 = .ok (.iconst 1, 1) := by decide +kernel
theorem dX5_areInRange_104 : decode cX5_areInRange 104 = .ok (.ireturn, 1) := by decide +kernel
theorem dX5_isPossible_0 : decode cX5_isPossible 0 = .ok (.getstatic 146, 3) := by decide +kernel
theorem dX5_isPossible_3 : decode cX5_isPossible 3 = .ok (.aload_n 1, 1) := by decide +kernel
theorem dX5_isPossible_4 : decode cX5_isPossible 4 = .ok (.invokevirtual 151, 3) := by decide +kernel
theorem dX5_isPossible_7 : decode cX5_isPossible 7 = .ok (.iaload, 1) := by decide +kernel
theorem dX5_isPossible_8 : decode cX5_isPossible 8 = .ok (.tableswitch 131 1 7 #[44, 44, 66, 131, 89, 110, 76], 44) := by decide +kernel
theorem dX5_isPossible_52 : decode cX5_isPossible 52 = .ok (.aload_n 2, 1) := by decide +kernel
theorem dX5_isPossible_53 : decode cX5_isPossible 53 = .ok (.getfield 68, 3) := by decide +kernel
theorem dX5_isPossible_56 : decode cX5_isPossible 56 = .ok (.ifCond .ne 16, 3) := by decide +kernel
theorem dX5_isPossible_59 : decode cX5_isPossible 59 = .ok (.aload_n 0, 1) := by decide +kernel
theorem dX5_isPossible_60 : decode cX5_isPossible 60 = .ok (.getfield 20, 3) := by decide +kernel
theorem dX5_isPossible_63 : decode cX5_isPossible 63 = .ok (.bipush 24, 2) := by decide +kernel
theorem dX5_isPossible_65 : decode cX5_isPossible 65 = .ok (.if_icmp .ge 7, 3) := by decide +kernel
theorem dX5_isPossible_68 : decode cX5_isPossible 68 = .ok (.iconst 1, 1) := by decide +kernel
theorem dX5_isPossible_69 : decode cX5_isPossible 69 = .ok (.goto 4, 3) := by decide +kernel
theorem dX5_isPossible_72 : decode cX5_isPossible 72 = .ok (.iconst 0, 1) := by decide +kernel
theorem dX5_isPossible_73 : decode cX5_isPossible 73 = .ok (.ireturn, 1) := by decide +kernel
theorem dX5_isPossible_74 : decode cX5_isPossible 74 = .ok (.aload_n 2, 1) := by decide +kernel
theorem dX5_isPossible_75 : decode cX5_isPossible 75 = .ok (.aload_n 0, 1) := by decide +kernel
theorem dX5_isPossible_76 : decode cX5_isPossible 76 = .ok (.iload_n 3, 1) := by decide +kernel
theorem dX5_isPossible_77 : decode cX5_isPossible 77 = .ok (.invokevirtual 126, 3) := by decide +kernel
theorem dX5_isPossible_80 : decode cX5_isPossible 80 = .ok (.invokestatic 155, 3) := by decide +kernel
theorem dX5_isPossible_83 : decode cX5_isPossible 83 = .ok (.ireturn, 1) := by decide +kernel
theorem dX5_isPossible_84 : decode cX5_isPossible 84 = .ok (.aload_n 2, 1) := by decide +kernel
theorem dX5_isPossible_85 : decode cX5_isPossible 85 = .ok (.getfield 35, 3) := by decide +kernel
theorem dX5_isPossible_88 : decode cX5_isPossible 88 = .ok (.ifCond .eq 7, 3) := by decide +kernel
theorem dX5_isPossible_91 : decode cX5_isPossible 91 = .ok (.iconst 1, 1) := by decide +kernel
theorem dX5_isPossible_92 : decode cX5_isPossible 92 = .ok (.goto 4, 3) := by decide +kernel
theorem dX5_isPossible_95 : decode cX5_isPossible 95 = .ok (.iconst 0, 1) := by decide +kernel
theorem dX5_isPossible_96 : decode cX5_isPossible 96 = .ok (.ireturn, 1) := by decide +kernel
theorem dX5_isPossible_97 : decode cX5_isPossible 97 = .ok (.aload_n 2, 1) := by decide +kernel
theorem dX5_isPossible_98 : decode cX5_isPossible 98 = .ok (.getfield 68, 3) := by decide +kernel
theorem dX5_isPossible_101 : decode cX5_isPossible 101 = .ok (.ifCond .eq 15, 3) := by decide +kernel
theorem dX5_isPossible_104 : decode cX5_isPossible 104 = .ok (.aload_n 2, 1) := by decide +kernel
theorem dX5_isPossible_105 : decode cX5_isPossible 105 = .ok (.getfield 104, 3) := by decide +kernel
theorem dX5_isPossible_108 : decode cX5_isPossible 108 = .ok (.iload_n 3, 1) := by decide +kernel
theorem dX5_isPossible_109 : decode cX5_isPossible 109 = .ok (.if_icmp .lt 7, 3) := by decide +kernel
theorem dX5_isPossible_112 : decode cX5_isPossible 112 = .ok (.iconst 1, 1) := by decide +kernel
theorem dX5_isPossible_113 : decode cX5_isPossible 113 = .ok (.goto 4, 3) := by decide +kernel
theorem dX5_isPossible_116 : decode cX5_isPossible 116 = .ok (.iconst 0, 1) := by decide +kernel
theorem dX5_isPossible_117 : decode cX5_isPossible 117 = .ok (.ireturn, 1) := by decide +kernel
theorem dX5_isPossible_118 : decode cX5_isPossible 118 = .ok (.aload_n 2, 1) := by decide +kernel
theorem dX5_isPossible_119 : decode cX5_isPossible 119 = .ok (.getfield 68, 3) := by decide +kernel
theorem dX5_isPossible_122 : decode cX5_isPossible 122 = .ok (.ifCond .eq 15, 3) := by decide +kernel
theorem dX5_isPossible_125 : decode cX5_isPossible 125 = .ok (.aload_n 2, 1) := by decide +kernel
theorem dX5_isPossible_126 : decode cX5_isPossible 126 = .ok (.getfield 75, 3) := by decide +kernel
theorem dX5_isPossible_129 : decode cX5_isPossible 129 = .ok (.iload_n 3, 1) := by decide +kernel
theorem dX5_isPossible_130 : decode cX5_isPossible 130 = .ok (.if_icmp .lt 7, 3) := by decide +kernel
theorem dX5_isPossible_133 : decode cX5_isPossible 133 = .ok (.iconst 1, 1) := by decide +kernel
theorem dX5_isPossible_134 : decode cX5_isPossible 134 = .ok (.goto 4, 3) := by decide +kernel
theorem dX5_isPossible_137 : decode cX5_isPossible 137 = .ok (.iconst 0, 1) := by decide +kernel
theorem dX5_isPossible_138 : decode cX5_isPossible 138 = .ok (.ireturn, 1) := by decide +kernel
theorem dX5_isPossible_139 : decode cX5_isPossible 139 = .ok (.aload_n 2, 1) := by decide +kernel
theorem dX5_isPossible_140 : decode cX5_isPossible 140 = .ok (.getfield 68, 3) := by decide +kernel
theorem dX5_isPossible_143 : decode cX5_isPossible 143 = .ok (.ireturn, 1) := by decide +kernel
theorem dX5_canMoveTo_0 : decode cX5_canMoveTo 0 = .ok (.aload_n 1, 1) := by decide +kernel
theorem dX5_canMoveTo_1 : decode cX5_canMoveTo 1 = .ok (.ifnull 15, 3) := by decide +kernel
theorem dX5_canMoveTo_4 : decode cX5_canMoveTo 4 = .ok (.aload_n 0, 1) := by decide +kernel
theorem dX5_canMoveTo_5 : decode cX5_canMoveTo 5 = .ok (.aload_n 1, 1) := by decide +kernel
theorem dX5_canMoveTo_6 : decode cX5_canMoveTo 6 = .ok (.invokevirtual 159, 3) := by decide +kernel
theorem dX5_canMoveTo_9 : decode cX5_canMoveTo 9 = .ok (.ifCond .ne 7, 3) := by decide +kernel
theorem dX5_canMoveTo_12 : decode cX5_canMoveTo 12 = .ok (.iconst 1, 1) := by decide +kernel
theorem dX5_canMoveTo_13 : decode cX5_canMoveTo 13 = .ok (.goto 4, 3) := by decide +kernel
theorem dX5_canMoveTo_16 : decode cX5_canMoveTo 16 = .ok (.iconst 0, 1) := by decide +kernel
theorem dX5_canMoveTo_17 : decode cX5_canMoveTo 17 = .ok (.ireturn, 1) := by decide +kernel
theorem dX5_carryOut_0 : decode cX5_carryOut 0 = .ok (.aload_n 1, 1) := by decide +kernel
theorem dX5_carryOut_1 : decode cX5_carryOut 1 = .ok (.getstatic 107, 3) := by decide +kernel
theorem dX5_carryOut_4 : decode cX5_carryOut 4 = .ok (.if_acmp .ne 13, 3) := by decide +kernel
theorem dX5_carryOut_7 : decode cX5_carryOut 7 = .ok (.aload_n 0, 1) := by decide +kernel
theorem dX5_carryOut_8 : decode cX5_carryOut 8 = .ok (.iload_n 2, 1) := by decide +kernel
theorem dX5_carryOut_9 : decode cX5_carryOut 9 = .ok (.putfield 27, 3) := by decide +kernel
theorem dX5_carryOut_12 : decode cX5_carryOut 12 = .ok (.aload_n 0, 1) := by decide +kernel
theorem dX5_carryOut_13 : decode cX5_carryOut 13 = .ok (.invokevirtual 163, 3) := by decide +kernel
theorem dX5_carryOut_16 : decode cX5_carryOut 16 = .ok (.ireturn, 1) := by decide +kernel
theorem dX5_carryOut_17 : decode cX5_carryOut 17 = .ok (.aload_n 0, 1) := by decide +kernel
theorem dX5_carryOut_18 : decode cX5_carryOut 18 = .ok (.iload_n 2, 1) := by decide +kernel
theorem dX5_carryOut_19 : decode cX5_carryOut 19 = .ok (.invokevirtual 126, 3) := by decide +kernel
theorem dX5_carryOut_22 : decode cX5_carryOut 22 = .ok (.astore 5, 2) := by decide +kernel
theorem dX5_carryOut_24 : decode cX5_carryOut 24 = .ok (.aload 5, 2) := by decide +kernel
theorem dX5_carryOut_26 : decode cX5_carryOut 26 = .ok (.ifnonnull 5, 3) := by decide +kernel
theorem dX5_carryOut_29 : decode cX5_carryOut 29 = .ok (.iconst (-1), 1) := by decide +kernel
theorem dX5_carryOut_30 : decode cX5_carryOut 30 = .ok (.ireturn, 1) := by decide +kernel
theorem dX5_carryOut_31 : decode cX5_carryOut 31 = .ok (.getstatic 146, 3) := by decide +kernel
theorem dX5_carryOut_34 : decode cX5_carryOut 34 = .ok (.aload_n 1, 1) := by decide +kernel
theorem dX5_carryOut_35 : decode cX5_carryOut 35 = .ok (.invokevirtual 151, 3) := by decide +kernel
theorem dX5_carryOut_38 : decode cX5_carryOut 38 = .ok (.iaload, 1) := by decide +kernel
theorem dX5_carryOut_39 : decode cX5_carryOut 39 = .ok (.tableswitch 95 1 7 #[41, 51, 62, 79, 87, 95, 72], 41) := by decide +kernel
theorem dX5_carryOut_80 : decode cX5_carryOut 80 = .ok (.aload_n 0, 1) := by decide +kernel
theorem dX5_carryOut_81 : decode cX5_carryOut 81 = .ok (.aload 5, 2) := by decide +kernel
theorem dX5_carryOut_83 : decode cX5_carryOut 83 = .ok (.iload_n 3, 1) := by decide +kernel
theorem dX5_carryOut_84 : decode cX5_carryOut 84 = .ok (.iconst 0, 1) := by decide +kernel
theorem dX5_carryOut_85 : decode cX5_carryOut 85 = .ok (.iconst 0, 1) := by decide +kernel
theorem dX5_carryOut_86 : decode cX5_carryOut 86 = .ok (.invokevirtual 166, 3) := by decide +kernel
theorem dX5_carryOut_89 : decode cX5_carryOut 89 = .ok (.ireturn, 1) := by decide +kernel
theorem dX5_carryOut_90 : decode cX5_carryOut 90 = .ok (.aload_n 0, 1) := by decide +kernel
theorem dX5_carryOut_91 : decode cX5_carryOut 91 = .ok (.aload 5, 2) := by decide +kernel
theorem dX5_carryOut_93 : decode cX5_carryOut 93 = .ok (.iload_n 3, 1) := by decide +kernel
theorem dX5_carryOut_94 : decode cX5_carryOut 94 = .ok (.iconst 1, 1) := by decide +kernel
theorem dX5_carryOut_95 : decode cX5_carryOut 95 = .ok (.iload 4, 2) := by decide +kernel
theorem dX5_carryOut_97 : decode cX5_carryOut 97 = .ok (.invokevirtual 166, 3) := by decide +kernel
theorem dX5_carryOut_100 : decode cX5_carryOut 100 = .ok (.ireturn, 1) := by decide +kernel
theorem dX5_carryOut_101 : decode cX5_carryOut 101 = .ok (.aload_n 0, 1) := by decide +kernel
theorem dX5_carryOut_102 : decode cX5_carryOut 102 = .ok (.aload 5, 2) := by decide +kernel
theorem dX5_carryOut_104 : decode cX5_carryOut 104 = .ok (.iload_n 3, 1) := by decide +kernel
theorem dX5_carryOut_105 : decode cX5_carryOut 105 = .ok (.iload 4, 2) := by decide +kernel
theorem dX5_carryOut_107 : decode cX5_carryOut 107 = .ok (.invokevirtual 170, 3) := by decide +kernel
theorem dX5_carryOut_110 : decode cX5_carryOut 110 = .ok (.ireturn, 1) := by decide +kernel
theorem dX5_carryOut_111 : decode cX5_carryOut 111 = .ok (.aload_n 0, 1) := by decide +kernel
theorem dX5_carryOut_112 : decode cX5_carryOut 112 = .ok (.aload 5, 2) := by decide +kernel
theorem dX5_carryOut_114 : decode cX5_carryOut 114 = .ok (.invokevirtual 174, 3) := by decide +kernel
theorem dX5_carryOut_117 : decode cX5_carryOut 117 = .ok (.ireturn, 1) := by decide +kernel
theorem dX5_carryOut_118 : decode cX5_carryOut 118 = .ok (.aload_n 0, 1) := by decide +kernel
theorem dX5_carryOut_119 : decode cX5_carryOut 119 = .ok (.aload 5, 2) := by decide +kernel
theorem dX5_carryOut_121 : decode cX5_carryOut 121 = .ok (.iload_n 3, 1) := by decide +kernel
theorem dX5_carryOut_122 : decode cX5_carryOut 122 = .ok (.invokevirtual 177, 3) := by decide +kernel
theorem dX5_carryOut_125 : decode cX5_carryOut 125 = .ok (.ireturn, 1) := by decide +kernel
theorem dX5_carryOut_126 : decode cX5_carryOut 126 = .ok (.aload_n 0, 1) := by decide +kernel
theorem dX5_carryOut_127 : decode cX5_carryOut 127 = .ok (.aload 5, 2) := by decide +kernel
theorem dX5_carryOut_129 : decode cX5_carryOut 129 = .ok (.iload_n 3, 1) := by decide +kernel
theorem dX5_carryOut_130 : decode cX5_carryOut 130 = .ok (.invokevirtual 181, 3) := by decide +kernel
theorem dX5_carryOut_133 : decode cX5_carryOut 133 = .ok (.ireturn, 1) := by decide +kernel
theorem dX5_carryOut_134 : decode cX5_carryOut 134 = .ok (.aload_n 0, 1) := by decide +kernel
theorem dX5_carryOut_135 : decode cX5_carryOut 135 = .ok (.aload 5, 2) := by decide +kernel
theorem dX5_carryOut_137 : decode cX5_carryOut 137 = .ok (.iload_n 3, 1) := by decide +kernel
theorem dX5_carryOut_138 : decode cX5_carryOut 138 = .ok (.ineg, 1) := by decide +kernel
theorem dX5_carryOut_139 : decode cX5_carryOut 139 = .ok (.invokevirtual 181, 3) := by decide +kernel
theorem dX5_carryOut_142 : decode cX5_carryOut 142 = .ok (.ireturn, 1) := by decide +kernel
theorem dX5_addNode_0 : decode cX5_addNode 0 = .ok (.aload_n 0, 1) := by decide +kernel
theorem dX5_addNode_1 : decode cX5_addNode 1 = .ok (.getfield 20, 3) := by decide +kernel
theorem dX5_addNode_4 : decode cX5_addNode 4 = .ok (.bipush 24, 2) := by decide +kernel
theorem dX5_addNode_6 : decode cX5_addNode 6 = .ok (.if_icmp .lt 5, 3) := by decide +kernel
theorem dX5_addNode_9 : decode cX5_addNode 9 = .ok (.iconst (-1), 1) := by decide +kernel
theorem dX5_addNode_10 : decode cX5_addNode 10 = .ok (.ireturn, 1) := by decide +kernel
theorem dX5_addNode_11 : decode cX5_addNode 11 = .ok (.aload_n 0, 1) := by decide +kernel
theorem dX5_addNode_12 : decode cX5_addNode 12 = .ok (.getfield 11, 3) := by decide +kernel
theorem dX5_addNode_15 : decode cX5_addNode 15 = .ok (.aload_n 0, 1) := by decide +kernel
theorem dX5_addNode_16 : decode cX5_addNode 16 = .ok (.getfield 20, 3) := by decide +kernel
theorem dX5_addNode_19 : decode cX5_addNode 19 = .ok (.aaload, 1) := by decide +kernel
theorem dX5_addNode_20 : decode cX5_addNode 20 = .ok (.astore 5, 2) := by decide +kernel
theorem dX5_addNode_22 : decode cX5_addNode 22 = .ok (.aload 5, 2) := by decide +kernel
theorem dX5_addNode_24 : decode cX5_addNode 24 = .ok (.aload_n 0, 1) := by decide +kernel
theorem dX5_addNode_25 : decode cX5_addNode 25 = .ok (.getfield 24, 3) := by decide +kernel
theorem dX5_addNode_28 : decode cX5_addNode 28 = .ok (.putfield 35, 3) := by decide +kernel
theorem dX5_addNode_31 : decode cX5_addNode 31 = .ok (.aload 5, 2) := by decide +kernel
theorem dX5_addNode_33 : decode cX5_addNode 33 = .ok (.iload_n 3, 1) := by decide +kernel
theorem dX5_addNode_34 : decode cX5_addNode 34 = .ok (.putfield 68, 3) := by decide +kernel
theorem dX5_addNode_37 : decode cX5_addNode 37 = .ok (.aload 5, 2) := by decide +kernel
theorem dX5_addNode_39 : decode cX5_addNode 39 = .ok (.aload_n 1, 1) := by decide +kernel
theorem dX5_addNode_40 : decode cX5_addNode 40 = .ok (.getfield 35, 3) := by decide +kernel
theorem dX5_addNode_43 : decode cX5_addNode 43 = .ok (.putfield 47, 3) := by decide +kernel
theorem dX5_addNode_46 : decode cX5_addNode 46 = .ok (.aload 5, 2) := by decide +kernel
theorem dX5_addNode_48 : decode cX5_addNode 48 = .ok (.iload_n 2, 1) := by decide +kernel
theorem dX5_addNode_49 : decode cX5_addNode 49 = .ok (.putfield 61, 3) := by decide +kernel
theorem dX5_addNode_52 : decode cX5_addNode 52 = .ok (.aload 5, 2) := by decide +kernel
theorem dX5_addNode_54 : decode cX5_addNode 54 = .ok (.iload 4, 2) := by decide +kernel
theorem dX5_addNode_56 : decode cX5_addNode 56 = .ok (.putfield 72, 3) := by decide +kernel
theorem dX5_addNode_59 : decode cX5_addNode 59 = .ok (.aload 5, 2) := by decide +kernel
theorem dX5_addNode_61 : decode cX5_addNode 61 = .ok (.iconst 0, 1) := by decide +kernel
theorem dX5_addNode_62 : decode cX5_addNode 62 = .ok (.putfield 75, 3) := by decide +kernel
theorem dX5_addNode_65 : decode cX5_addNode 65 = .ok (.aload_n 0, 1) := by decide +kernel
theorem dX5_addNode_66 : decode cX5_addNode 66 = .ok (.dup, 1) := by decide +kernel
theorem dX5_addNode_67 : decode cX5_addNode 67 = .ok (.getfield 20, 3) := by decide +kernel
theorem dX5_addNode_70 : decode cX5_addNode 70 = .ok (.iconst 1, 1) := by decide +kernel
theorem dX5_addNode_71 : decode cX5_addNode 71 = .ok (.iadd, 1) := by decide +kernel
theorem dX5_addNode_72 : decode cX5_addNode 72 = .ok (.putfield 20, 3) := by decide +kernel
theorem dX5_addNode_75 : decode cX5_addNode 75 = .ok (.aload_n 0, 1) := by decide +kernel
theorem dX5_addNode_76 : decode cX5_addNode 76 = .ok (.dup, 1) := by decide +kernel
theorem dX5_addNode_77 : decode cX5_addNode 77 = .ok (.getfield 24, 3) := by decide +kernel
theorem dX5_addNode_80 : decode cX5_addNode 80 = .ok (.iconst 1, 1) := by decide +kernel
theorem dX5_addNode_81 : decode cX5_addNode 81 = .ok (.iadd, 1) := by decide +kernel
theorem dX5_addNode_82 : decode cX5_addNode 82 = .ok (.putfield 24, 3) := by decide +kernel
theorem dX5_addNode_85 : decode cX5_addNode 85 = .ok (.aload_n 0, 1) := by decide +kernel
theorem dX5_addNode_86 : decode cX5_addNode 86 = .ok (.invokevirtual 184, 3) := by decide +kernel
theorem dX5_addNode_89 : decode cX5_addNode 89 = .ok (.aload 5, 2) := by decide +kernel
theorem dX5_addNode_91 : decode cX5_addNode 91 = .ok (.getfield 35, 3) := by decide +kernel
theorem dX5_addNode_94 : decode cX5_addNode 94 = .ok (.ireturn, 1) := by decide +kernel
theorem dX5_putLast_0 : decode cX5_putLast 0 = .ok (.iconst 0, 1) := by decide +kernel
theorem dX5_putLast_1 : decode cX5_putLast 1 = .ok (.istore 4, 2) := by decide +kernel
theorem dX5_putLast_3 : decode cX5_putLast 3 = .ok (.iconst 0, 1) := by decide +kernel
theorem dX5_putLast_4 : decode cX5_putLast 4 = .ok (.istore 5, 2) := by decide +kernel
theorem dX5_putLast_6 : decode cX5_putLast 6 = .ok (.iload 5, 2) := by decide +kernel
theorem dX5_putLast_8 : decode cX5_putLast 8 = .ok (.aload_n 0, 1) := by decide +kernel
theorem dX5_putLast_9 : decode cX5_putLast 9 = .ok (.getfield 20, 3) := by decide +kernel
theorem dX5_putLast_12 : decode cX5_putLast 12 = .ok (.if_icmp .ge 36, 3) := by decide +kernel
theorem dX5_putLast_15 : decode cX5_putLast 15 = .ok (.aload_n 0, 1) := by decide +kernel
theorem dX5_putLast_16 : decode cX5_putLast 16 = .ok (.getfield 11, 3) := by decide +kernel
theorem dX5_putLast_19 : decode cX5_putLast 19 = .ok (.iload 5, 2) := by decide +kernel
theorem dX5_putLast_21 : decode cX5_putLast 21 = .ok (.aaload, 1) := by decide +kernel
theorem dX5_putLast_22 : decode cX5_putLast 22 = .ok (.astore 6, 2) := by decide +kernel
theorem dX5_putLast_24 : decode cX5_putLast 24 = .ok (.aload 6, 2) := by decide +kernel
theorem dX5_putLast_26 : decode cX5_putLast 26 = .ok (.aload_n 1, 1) := by decide +kernel
theorem dX5_putLast_27 : decode cX5_putLast 27 = .ok (.if_acmp .eq 15, 3) := by decide +kernel
theorem dX5_putLast_30 : decode cX5_putLast 30 = .ok (.aload_n 0, 1) := by decide +kernel
theorem dX5_putLast_31 : decode cX5_putLast 31 = .ok (.getfield 11, 3) := by decide +kernel
theorem dX5_putLast_34 : decode cX5_putLast 34 = .ok (.iload 4, 2) := by decide +kernel
theorem dX5_putLast_36 : decode cX5_putLast 36 = .ok (.aload 6, 2) := by decide +kernel
theorem dX5_putLast_38 : decode cX5_putLast 38 = .ok (.aastore, 1) := by decide +kernel
theorem dX5_putLast_39 : decode cX5_putLast 39 = .ok (.iinc 4 1, 3) := by decide +kernel
theorem dX5_putLast_42 : decode cX5_putLast 42 = .ok (.iinc 5 1, 3) := by decide +kernel
theorem dX5_putLast_45 : decode cX5_putLast 45 = .ok (.goto (-39), 3) := by decide +kernel
theorem dX5_putLast_48 : decode cX5_putLast 48 = .ok (.aload_n 0, 1) := by decide +kernel
theorem dX5_putLast_49 : decode cX5_putLast 49 = .ok (.getfield 11, 3) := by decide +kernel
theorem dX5_putLast_52 : decode cX5_putLast 52 = .ok (.aload_n 0, 1) := by decide +kernel
theorem dX5_putLast_53 : decode cX5_putLast 53 = .ok (.getfield 20, 3) := by decide +kernel
theorem dX5_putLast_56 : decode cX5_putLast 56 = .ok (.iconst 1, 1) := by decide +kernel
theorem dX5_putLast_57 : decode cX5_putLast 57 = .ok (.isub, 1) := by decide +kernel
theorem dX5_putLast_58 : decode cX5_putLast 58 = .ok (.aload_n 1, 1) := by decide +kernel
theorem dX5_putLast_59 : decode cX5_putLast 59 = .ok (.aastore, 1) := by decide +kernel
theorem dX5_putLast_60 : decode cX5_putLast 60 = .ok (.aload_n 1, 1) := by decide +kernel
theorem dX5_putLast_61 : decode cX5_putLast 61 = .ok (.iload_n 2, 1) := by decide +kernel
theorem dX5_putLast_62 : decode cX5_putLast 62 = .ok (.putfield 47, 3) := by decide +kernel
theorem dX5_putLast_65 : decode cX5_putLast 65 = .ok (.aload_n 1, 1) := by decide +kernel
theorem dX5_putLast_66 : decode cX5_putLast 66 = .ok (.iload_n 3, 1) := by decide +kernel
theorem dX5_putLast_67 : decode cX5_putLast 67 = .ok (.putfield 61, 3) := by decide +kernel
theorem dX5_putLast_70 : decode cX5_putLast 70 = .ok (.aload_n 0, 1) := by decide +kernel
theorem dX5_putLast_71 : decode cX5_putLast 71 = .ok (.invokevirtual 184, 3) := by decide +kernel
theorem dX5_putLast_74 : decode cX5_putLast 74 = .ok (.aload_n 1, 1) := by decide +kernel
theorem dX5_putLast_75 : decode cX5_putLast 75 = .ok (.getfield 92, 3) := by decide +kernel
theorem dX5_putLast_78 : decode cX5_putLast 78 = .ok (.ireturn, 1) := by decide +kernel
theorem dX5_dropAll_0 : decode cX5_dropAll 0 = .ok (.iconst 0, 1) := by decide +kernel
theorem dX5_dropAll_1 : decode cX5_dropAll 1 = .ok (.istore_n 2, 1) := by decide +kernel
theorem dX5_dropAll_2 : decode cX5_dropAll 2 = .ok (.iconst 0, 1) := by decide +kernel
theorem dX5_dropAll_3 : decode cX5_dropAll 3 = .ok (.istore_n 3, 1) := by decide +kernel
theorem dX5_dropAll_4 : decode cX5_dropAll 4 = .ok (.iload_n 3, 1) := by decide +kernel
theorem dX5_dropAll_5 : decode cX5_dropAll 5 = .ok (.aload_n 0, 1) := by decide +kernel
theorem dX5_dropAll_6 : decode cX5_dropAll 6 = .ok (.getfield 20, 3) := by decide +kernel
theorem dX5_dropAll_9 : decode cX5_dropAll 9 = .ok (.if_icmp .ge 49, 3) := by decide +kernel
theorem dX5_dropAll_12 : decode cX5_dropAll 12 = .ok (.aload_n 0, 1) := by decide +kernel
theorem dX5_dropAll_13 : decode cX5_dropAll 13 = .ok (.getfield 11, 3) := by decide +kernel
theorem dX5_dropAll_16 : decode cX5_dropAll 16 = .ok (.iload_n 3, 1) := by decide +kernel
theorem dX5_dropAll_17 : decode cX5_dropAll 17 = .ok (.aaload, 1) := by decide +kernel
theorem dX5_dropAll_18 : decode cX5_dropAll 18 = .ok (.astore 4, 2) := by decide +kernel
theorem dX5_dropAll_20 : decode cX5_dropAll 20 = .ok (.aload 4, 2) := by decide +kernel
theorem dX5_dropAll_22 : decode cX5_dropAll 22 = .ok (.aload_n 1, 1) := by decide +kernel
theorem dX5_dropAll_23 : decode cX5_dropAll 23 = .ok (.invokevirtual 187, 3) := by decide +kernel
theorem dX5_dropAll_26 : decode cX5_dropAll 26 = .ok (.ifCond .ne 26, 3) := by decide +kernel
theorem dX5_dropAll_29 : decode cX5_dropAll 29 = .ok (.aload_n 0, 1) := by decide +kernel
theorem dX5_dropAll_30 : decode cX5_dropAll 30 = .ok (.getfield 11, 3) := by decide +kernel
theorem dX5_dropAll_33 : decode cX5_dropAll 33 = .ok (.iload_n 3, 1) := by decide +kernel
theorem dX5_dropAll_34 : decode cX5_dropAll 34 = .ok (.aload_n 0, 1) := by decide +kernel
theorem dX5_dropAll_35 : decode cX5_dropAll 35 = .ok (.getfield 11, 3) := by decide +kernel
theorem dX5_dropAll_38 : decode cX5_dropAll 38 = .ok (.iload_n 2, 1) := by decide +kernel
theorem dX5_dropAll_39 : decode cX5_dropAll 39 = .ok (.aaload, 1) := by decide +kernel
theorem dX5_dropAll_40 : decode cX5_dropAll 40 = .ok (.aastore, 1) := by decide +kernel
theorem dX5_dropAll_41 : decode cX5_dropAll 41 = .ok (.aload_n 0, 1) := by decide +kernel
theorem dX5_dropAll_42 : decode cX5_dropAll 42 = .ok (.getfield 11, 3) := by decide +kernel
theorem dX5_dropAll_45 : decode cX5_dropAll 45 = .ok (.iload_n 2, 1) := by decide +kernel
theorem dX5_dropAll_46 : decode cX5_dropAll 46 = .ok (.aload 4, 2) := by decide +kernel
theorem dX5_dropAll_48 : decode cX5_dropAll 48 = .ok (.aastore, 1) := by decide +kernel
theorem dX5_dropAll_49 : decode cX5_dropAll 49 = .ok (.iinc 2 1, 3) := by decide +kernel
theorem dX5_dropAll_52 : decode cX5_dropAll 52 = .ok (.iinc 3 1, 3) := by decide +kernel
theorem dX5_dropAll_55 : decode cX5_dropAll 55 = .ok (.goto (-51), 3) := by decide +kernel
theorem dX5_dropAll_58 : decode cX5_dropAll 58 = .ok (.aload_n 0, 1) := by decide +kernel
theorem dX5_dropAll_59 : decode cX5_dropAll 59 = .ok (.getfield 20, 3) := by decide +kernel
theorem dX5_dropAll_62 : decode cX5_dropAll 62 = .ok (.iload_n 2, 1) := by decide +kernel
theorem dX5_dropAll_63 : decode cX5_dropAll 63 = .ok (.isub, 1) := by decide +kernel
theorem dX5_dropAll_64 : decode cX5_dropAll 64 = .ok (.istore_n 3, 1) := by decide +kernel
theorem dX5_dropAll_65 : decode cX5_dropAll 65 = .ok (.aload_n 0, 1) := by decide +kernel
theorem dX5_dropAll_66 : decode cX5_dropAll 66 = .ok (.iload_n 2, 1) := by decide +kernel
theorem dX5_dropAll_67 : decode cX5_dropAll 67 = .ok (.putfield 20, 3) := by decide +kernel
theorem dX5_dropAll_70 : decode cX5_dropAll 70 = .ok (.aload_n 0, 1) := by decide +kernel
theorem dX5_dropAll_71 : decode cX5_dropAll 71 = .ok (.invokevirtual 184, 3) := by decide +kernel
theorem dX5_dropAll_74 : decode cX5_dropAll 74 = .ok (.iload_n 3, 1) := by decide +kernel
theorem dX5_dropAll_75 : decode cX5_dropAll 75 = .ok (.ireturn, 1) := by decide +kernel
theorem dX5_changeDuration_0 : decode cX5_changeDuration 0 = .ok (.aload_n 1, 1) := by decide +kernel
theorem dX5_changeDuration_1 : decode cX5_changeDuration 1 = .ok (.aload_n 1, 1) := by decide +kernel
theorem dX5_changeDuration_2 : decode cX5_changeDuration 2 = .ok (.iload_n 2, 1) := by decide +kernel
theorem dX5_changeDuration_3 : decode cX5_changeDuration 3 = .ok (.invokevirtual 191, 3) := by decide +kernel
theorem dX5_changeDuration_6 : decode cX5_changeDuration 6 = .ok (.putfield 75, 3) := by decide +kernel
theorem dX5_changeDuration_9 : decode cX5_changeDuration 9 = .ok (.aload_n 1, 1) := by decide +kernel
theorem dX5_changeDuration_10 : decode cX5_changeDuration 10 = .ok (.iload_n 2, 1) := by decide +kernel
theorem dX5_changeDuration_11 : decode cX5_changeDuration 11 = .ok (.putfield 72, 3) := by decide +kernel
theorem dX5_changeDuration_14 : decode cX5_changeDuration 14 = .ok (.aload_n 0, 1) := by decide +kernel
theorem dX5_changeDuration_15 : decode cX5_changeDuration 15 = .ok (.invokevirtual 184, 3) := by decide +kernel
theorem dX5_changeDuration_18 : decode cX5_changeDuration 18 = .ok (.aload_n 0, 1) := by decide +kernel
theorem dX5_changeDuration_19 : decode cX5_changeDuration 19 = .ok (.invokevirtual 194, 3) := by decide +kernel
theorem dX5_changeDuration_22 : decode cX5_changeDuration 22 = .ok (.ireturn, 1) := by decide +kernel
theorem dX5_changeReserve_0 : decode cX5_changeReserve 0 = .ok (.aload_n 1, 1) := by decide +kernel
theorem dX5_changeReserve_1 : decode cX5_changeReserve 1 = .ok (.dup, 1) := by decide +kernel
theorem dX5_changeReserve_2 : decode cX5_changeReserve 2 = .ok (.getfield 75, 3) := by decide +kernel
theorem dX5_changeReserve_5 : decode cX5_changeReserve 5 = .ok (.iload_n 2, 1) := by decide +kernel
theorem dX5_changeReserve_6 : decode cX5_changeReserve 6 = .ok (.iadd, 1) := by decide +kernel
theorem dX5_changeReserve_7 : decode cX5_changeReserve 7 = .ok (.putfield 75, 3) := by decide +kernel
theorem dX5_changeReserve_10 : decode cX5_changeReserve 10 = .ok (.aload_n 0, 1) := by decide +kernel
theorem dX5_changeReserve_11 : decode cX5_changeReserve 11 = .ok (.invokevirtual 184, 3) := by decide +kernel
theorem dX5_changeReserve_14 : decode cX5_changeReserve 14 = .ok (.aload_n 1, 1) := by decide +kernel
theorem dX5_changeReserve_15 : decode cX5_changeReserve 15 = .ok (.getfield 75, 3) := by decide +kernel
theorem dX5_changeReserve_18 : decode cX5_changeReserve 18 = .ok (.ireturn, 1) := by decide +kernel
theorem dX5_end_0 : decode cX5_end 0 = .ok (.aload_n 0, 1) := by decide +kernel
theorem dX5_end_1 : decode cX5_end 1 = .ok (.getfield 11, 3) := by decide +kernel
theorem dX5_end_4 : decode cX5_end 4 = .ok (.iconst 0, 1) := by decide +kernel
theorem dX5_end_5 : decode cX5_end 5 = .ok (.aaload, 1) := by decide +kernel
theorem dX5_end_6 : decode cX5_end 6 = .ok (.getfield 82, 3) := by decide +kernel
theorem dX5_end_9 : decode cX5_end 9 = .ok (.ireturn, 1) := by decide +kernel
theorem dX5_lateness_0 : decode cX5_lateness 0 = .ok (.iconst 0, 1) := by decide +kernel
theorem dX5_lateness_1 : decode cX5_lateness 1 = .ok (.aload_n 0, 1) := by decide +kernel
theorem dX5_lateness_2 : decode cX5_lateness 2 = .ok (.invokevirtual 194, 3) := by decide +kernel
theorem dX5_lateness_5 : decode cX5_lateness 5 = .ok (.aload_n 0, 1) := by decide +kernel
theorem dX5_lateness_6 : decode cX5_lateness 6 = .ok (.getfield 27, 3) := by decide +kernel
theorem dX5_lateness_9 : decode cX5_lateness 9 = .ok (.isub, 1) := by decide +kernel
theorem dX5_lateness_10 : decode cX5_lateness 10 = .ok (.invokestatic 197, 3) := by decide +kernel
theorem dX5_lateness_13 : decode cX5_lateness 13 = .ok (.ireturn, 1) := by decide +kernel
theorem dX5_value_0 : decode cX5_value 0 = .ok (.iload_n 1, 1) := by decide +kernel
theorem dX5_value_1 : decode cX5_value 1 = .ok (.tableswitch 105 0 9 #[55, 60, 65, 70, 75, 80, 85, 90, 95, 100], 55) := by decide +kernel
theorem dX5_value_56 : decode cX5_value 56 = .ok (.aload_n 0, 1) := by decide +kernel
theorem dX5_value_57 : decode cX5_value 57 = .ok (.getfield 20, 3) := by decide +kernel
theorem dX5_value_60 : decode cX5_value 60 = .ok (.ireturn, 1) := by decide +kernel
theorem dX5_value_61 : decode cX5_value 61 = .ok (.aload_n 0, 1) := by decide +kernel
theorem dX5_value_62 : decode cX5_value 62 = .ok (.invokevirtual 203, 3) := by decide +kernel
theorem dX5_value_65 : decode cX5_value 65 = .ok (.ireturn, 1) := by decide +kernel
theorem dX5_value_66 : decode cX5_value 66 = .ok (.aload_n 0, 1) := by decide +kernel
theorem dX5_value_67 : decode cX5_value 67 = .ok (.invokevirtual 194, 3) := by decide +kernel
theorem dX5_value_70 : decode cX5_value 70 = .ok (.ireturn, 1) := by decide +kernel
theorem dX5_value_71 : decode cX5_value 71 = .ok (.aload_n 0, 1) := by decide +kernel
theorem dX5_value_72 : decode cX5_value 72 = .ok (.getfield 27, 3) := by decide +kernel
theorem dX5_value_75 : decode cX5_value 75 = .ok (.ireturn, 1) := by decide +kernel
theorem dX5_value_76 : decode cX5_value 76 = .ok (.aload_n 0, 1) := by decide +kernel
theorem dX5_value_77 : decode cX5_value 77 = .ok (.invokevirtual 163, 3) := by decide +kernel
theorem dX5_value_80 : decode cX5_value 80 = .ok (.ireturn, 1) := by decide +kernel
theorem dX5_value_81 : decode cX5_value 81 = .ok (.aload_n 0, 1) := by decide +kernel
theorem dX5_value_82 : decode cX5_value 82 = .ok (.invokevirtual 206, 3) := by decide +kernel
theorem dX5_value_85 : decode cX5_value 85 = .ok (.ireturn, 1) := by decide +kernel
theorem dX5_value_86 : decode cX5_value 86 = .ok (.aload_n 0, 1) := by decide +kernel
theorem dX5_value_87 : decode cX5_value 87 = .ok (.invokevirtual 209, 3) := by decide +kernel
theorem dX5_value_90 : decode cX5_value 90 = .ok (.ireturn, 1) := by decide +kernel
theorem dX5_value_91 : decode cX5_value 91 = .ok (.aload_n 0, 1) := by decide +kernel
theorem dX5_value_92 : decode cX5_value 92 = .ok (.invokevirtual 212, 3) := by decide +kernel
theorem dX5_value_95 : decode cX5_value 95 = .ok (.ireturn, 1) := by decide +kernel
theorem dX5_value_96 : decode cX5_value 96 = .ok (.aload_n 0, 1) := by decide +kernel
theorem dX5_value_97 : decode cX5_value 97 = .ok (.invokevirtual 215, 3) := by decide +kernel
theorem dX5_value_100 : decode cX5_value 100 = .ok (.ireturn, 1) := by decide +kernel
theorem dX5_value_101 : decode cX5_value 101 = .ok (.aload_n 0, 1) := by decide +kernel
theorem dX5_value_102 : decode cX5_value 102 = .ok (.invokevirtual 218, 3) := by decide +kernel
theorem dX5_value_105 : decode cX5_value 105 = .ok (.ireturn, 1) := by decide +kernel
theorem dX5_value_106 : decode cX5_value 106 = .ok (.aload_n 0, 1) := by decide +kernel
theorem dX5_value_107 : decode cX5_value 107 = .ok (.getfield 24, 3) := by decide +kernel
theorem dX5_value_110 : decode cX5_value 110 = .ok (.ireturn, 1) := by decide +kernel
theorem dX5_countTasks_0 : decode cX5_countTasks 0 = .ok (.iconst 0, 1) := by decide +kernel
theorem dX5_countTasks_1 : decode cX5_countTasks 1 = .ok (.istore_n 1, 1) := by decide +kernel
theorem dX5_countTasks_2 : decode cX5_countTasks 2 = .ok (.iconst 0, 1) := by decide +kernel
theorem dX5_countTasks_3 : decode cX5_countTasks 3 = .ok (.istore_n 2, 1) := by decide +kernel
theorem dX5_countTasks_4 : decode cX5_countTasks 4 = .ok (.iload_n 2, 1) := by decide +kernel
theorem dX5_countTasks_5 : decode cX5_countTasks 5 = .ok (.aload_n 0, 1) := by decide +kernel
theorem dX5_countTasks_6 : decode cX5_countTasks 6 = .ok (.getfield 20, 3) := by decide +kernel
theorem dX5_countTasks_9 : decode cX5_countTasks 9 = .ok (.if_icmp .ge 29, 3) := by decide +kernel
theorem dX5_countTasks_12 : decode cX5_countTasks 12 = .ok (.iload_n 1, 1) := by decide +kernel
theorem dX5_countTasks_13 : decode cX5_countTasks 13 = .ok (.aload_n 0, 1) := by decide +kernel
theorem dX5_countTasks_14 : decode cX5_countTasks 14 = .ok (.getfield 11, 3) := by decide +kernel
theorem dX5_countTasks_17 : decode cX5_countTasks 17 = .ok (.iload_n 2, 1) := by decide +kernel
theorem dX5_countTasks_18 : decode cX5_countTasks 18 = .ok (.aaload, 1) := by decide +kernel
theorem dX5_countTasks_19 : decode cX5_countTasks 19 = .ok (.getfield 68, 3) := by decide +kernel
theorem dX5_countTasks_22 : decode cX5_countTasks 22 = .ok (.ifCond .eq 7, 3) := by decide +kernel
theorem dX5_countTasks_25 : decode cX5_countTasks 25 = .ok (.iconst 1, 1) := by decide +kernel
theorem dX5_countTasks_26 : decode cX5_countTasks 26 = .ok (.goto 4, 3) := by decide +kernel
theorem dX5_countTasks_29 : decode cX5_countTasks 29 = .ok (.iconst 0, 1) := by decide +kernel
theorem dX5_countTasks_30 : decode cX5_countTasks 30 = .ok (.iadd, 1) := by decide +kernel
theorem dX5_countTasks_31 : decode cX5_countTasks 31 = .ok (.istore_n 1, 1) := by decide +kernel
theorem dX5_countTasks_32 : decode cX5_countTasks 32 = .ok (.iinc 2 1, 3) := by decide +kernel
theorem dX5_countTasks_35 : decode cX5_countTasks 35 = .ok (.goto (-31), 3) := by decide +kernel
theorem dX5_countTasks_38 : decode cX5_countTasks 38 = .ok (.iload_n 1, 1) := by decide +kernel
theorem dX5_countTasks_39 : decode cX5_countTasks 39 = .ok (.ireturn, 1) := by decide +kernel
theorem dX5_countCriticalTasks_0 : decode cX5_countCriticalTasks 0 = .ok (.iconst 0, 1) := by decide +kernel
theorem dX5_countCriticalTasks_1 : decode cX5_countCriticalTasks 1 = .ok (.istore_n 1, 1) := by decide +kernel
theorem dX5_countCriticalTasks_2 : decode cX5_countCriticalTasks 2 = .ok (.iconst 0, 1) := by decide +kernel
theorem dX5_countCriticalTasks_3 : decode cX5_countCriticalTasks 3 = .ok (.istore_n 2, 1) := by decide +kernel
theorem dX5_countCriticalTasks_4 : decode cX5_countCriticalTasks 4 = .ok (.iload_n 2, 1) := by decide +kernel
theorem dX5_countCriticalTasks_5 : decode cX5_countCriticalTasks 5 = .ok (.aload_n 0, 1) := by decide +kernel
theorem dX5_countCriticalTasks_6 : decode cX5_countCriticalTasks 6 = .ok (.getfield 20, 3) := by decide +kernel
theorem dX5_countCriticalTasks_9 : decode cX5_countCriticalTasks 9 = .ok (.if_icmp .ge 29, 3) := by decide +kernel
theorem dX5_countCriticalTasks_12 : decode cX5_countCriticalTasks 12 = .ok (.iload_n 1, 1) := by decide +kernel
theorem dX5_countCriticalTasks_13 : decode cX5_countCriticalTasks 13 = .ok (.aload_n 0, 1) := by decide +kernel
theorem dX5_countCriticalTasks_14 : decode cX5_countCriticalTasks 14 = .ok (.getfield 11, 3) := by decide +kernel
theorem dX5_countCriticalTasks_17 : decode cX5_countCriticalTasks 17 = .ok (.iload_n 2, 1) := by decide +kernel
theorem dX5_countCriticalTasks_18 : decode cX5_countCriticalTasks 18 = .ok (.aaload, 1) := by decide +kernel
theorem dX5_countCriticalTasks_19 : decode cX5_countCriticalTasks 19 = .ok (.invokevirtual 221, 3) := by decide +kernel
theorem dX5_countCriticalTasks_22 : decode cX5_countCriticalTasks 22 = .ok (.ifCond .eq 7, 3) := by decide +kernel
theorem dX5_countCriticalTasks_25 : decode cX5_countCriticalTasks 25 = .ok (.iconst 1, 1) := by decide +kernel
theorem dX5_countCriticalTasks_26 : decode cX5_countCriticalTasks 26 = .ok (.goto 4, 3) := by decide +kernel
theorem dX5_countCriticalTasks_29 : decode cX5_countCriticalTasks 29 = .ok (.iconst 0, 1) := by decide +kernel
theorem dX5_countCriticalTasks_30 : decode cX5_countCriticalTasks 30 = .ok (.iadd, 1) := by decide +kernel
theorem dX5_countCriticalTasks_31 : decode cX5_countCriticalTasks 31 = .ok (.istore_n 1, 1) := by decide +kernel
theorem dX5_countCriticalTasks_32 : decode cX5_countCriticalTasks 32 = .ok (.iinc 2 1, 3) := by decide +kernel
theorem dX5_countCriticalTasks_35 : decode cX5_countCriticalTasks 35 = .ok (.goto (-31), 3) := by decide +kernel
theorem dX5_countCriticalTasks_38 : decode cX5_countCriticalTasks 38 = .ok (.iload_n 1, 1) := by decide +kernel
theorem dX5_countCriticalTasks_39 : decode cX5_countCriticalTasks 39 = .ok (.ireturn, 1) := by decide +kernel
theorem dX5_countCriticalRows_0 : decode cX5_countCriticalRows 0 = .ok (.iconst 0, 1) := by decide +kernel
theorem dX5_countCriticalRows_1 : decode cX5_countCriticalRows 1 = .ok (.istore_n 1, 1) := by decide +kernel
theorem dX5_countCriticalRows_2 : decode cX5_countCriticalRows 2 = .ok (.iconst 0, 1) := by decide +kernel
theorem dX5_countCriticalRows_3 : decode cX5_countCriticalRows 3 = .ok (.istore_n 2, 1) := by decide +kernel
theorem dX5_countCriticalRows_4 : decode cX5_countCriticalRows 4 = .ok (.iload_n 2, 1) := by decide +kernel
theorem dX5_countCriticalRows_5 : decode cX5_countCriticalRows 5 = .ok (.aload_n 0, 1) := by decide +kernel
theorem dX5_countCriticalRows_6 : decode cX5_countCriticalRows 6 = .ok (.getfield 20, 3) := by decide +kernel
theorem dX5_countCriticalRows_9 : decode cX5_countCriticalRows 9 = .ok (.if_icmp .ge 44, 3) := by decide +kernel
theorem dX5_countCriticalRows_12 : decode cX5_countCriticalRows 12 = .ok (.iconst 0, 1) := by decide +kernel
theorem dX5_countCriticalRows_13 : decode cX5_countCriticalRows 13 = .ok (.istore_n 3, 1) := by decide +kernel
theorem dX5_countCriticalRows_14 : decode cX5_countCriticalRows 14 = .ok (.iload_n 3, 1) := by decide +kernel
theorem dX5_countCriticalRows_15 : decode cX5_countCriticalRows 15 = .ok (.iconst 4, 1) := by decide +kernel
theorem dX5_countCriticalRows_16 : decode cX5_countCriticalRows 16 = .ok (.if_icmp .ge 31, 3) := by decide +kernel
theorem dX5_countCriticalRows_19 : decode cX5_countCriticalRows 19 = .ok (.iload_n 1, 1) := by decide +kernel
theorem dX5_countCriticalRows_20 : decode cX5_countCriticalRows 20 = .ok (.aload_n 0, 1) := by decide +kernel
theorem dX5_countCriticalRows_21 : decode cX5_countCriticalRows 21 = .ok (.aload_n 0, 1) := by decide +kernel
theorem dX5_countCriticalRows_22 : decode cX5_countCriticalRows 22 = .ok (.getfield 11, 3) := by decide +kernel
theorem dX5_countCriticalRows_25 : decode cX5_countCriticalRows 25 = .ok (.iload_n 2, 1) := by decide +kernel
theorem dX5_countCriticalRows_26 : decode cX5_countCriticalRows 26 = .ok (.aaload, 1) := by decide +kernel
theorem dX5_countCriticalRows_27 : decode cX5_countCriticalRows 27 = .ok (.iload_n 3, 1) := by decide +kernel
theorem dX5_countCriticalRows_28 : decode cX5_countCriticalRows 28 = .ok (.invokevirtual 225, 3) := by decide +kernel
theorem dX5_countCriticalRows_31 : decode cX5_countCriticalRows 31 = .ok (.ifCond .eq 7, 3) := by decide +kernel
theorem dX5_countCriticalRows_34 : decode cX5_countCriticalRows 34 = .ok (.iconst 1, 1) := by decide +kernel
theorem dX5_countCriticalRows_35 : decode cX5_countCriticalRows 35 = .ok (.goto 4, 3) := by decide +kernel
theorem dX5_countCriticalRows_38 : decode cX5_countCriticalRows 38 = .ok (.iconst 0, 1) := by decide +kernel
theorem dX5_countCriticalRows_39 : decode cX5_countCriticalRows 39 = .ok (.iadd, 1) := by decide +kernel
theorem dX5_countCriticalRows_40 : decode cX5_countCriticalRows 40 = .ok (.istore_n 1, 1) := by decide +kernel
theorem dX5_countCriticalRows_41 : decode cX5_countCriticalRows 41 = .ok (.iinc 3 1, 3) := by decide +kernel
theorem dX5_countCriticalRows_44 : decode cX5_countCriticalRows 44 = .ok (.goto (-30), 3) := by decide +kernel
theorem dX5_countCriticalRows_47 : decode cX5_countCriticalRows 47 = .ok (.iinc 2 1, 3) := by decide +kernel
theorem dX5_countCriticalRows_50 : decode cX5_countCriticalRows 50 = .ok (.goto (-46), 3) := by decide +kernel
theorem dX5_countCriticalRows_53 : decode cX5_countCriticalRows 53 = .ok (.iload_n 1, 1) := by decide +kernel
theorem dX5_countCriticalRows_54 : decode cX5_countCriticalRows 54 = .ok (.ireturn, 1) := by decide +kernel
theorem dX5_sumOfDurations_0 : decode cX5_sumOfDurations 0 = .ok (.iconst 0, 1) := by decide +kernel
theorem dX5_sumOfDurations_1 : decode cX5_sumOfDurations 1 = .ok (.istore_n 1, 1) := by decide +kernel
theorem dX5_sumOfDurations_2 : decode cX5_sumOfDurations 2 = .ok (.iconst 0, 1) := by decide +kernel
theorem dX5_sumOfDurations_3 : decode cX5_sumOfDurations 3 = .ok (.istore_n 2, 1) := by decide +kernel
theorem dX5_sumOfDurations_4 : decode cX5_sumOfDurations 4 = .ok (.iload_n 2, 1) := by decide +kernel
theorem dX5_sumOfDurations_5 : decode cX5_sumOfDurations 5 = .ok (.aload_n 0, 1) := by decide +kernel
theorem dX5_sumOfDurations_6 : decode cX5_sumOfDurations 6 = .ok (.getfield 20, 3) := by decide +kernel
theorem dX5_sumOfDurations_9 : decode cX5_sumOfDurations 9 = .ok (.if_icmp .ge 37, 3) := by decide +kernel
theorem dX5_sumOfDurations_12 : decode cX5_sumOfDurations 12 = .ok (.iload_n 1, 1) := by decide +kernel
theorem dX5_sumOfDurations_13 : decode cX5_sumOfDurations 13 = .ok (.aload_n 0, 1) := by decide +kernel
theorem dX5_sumOfDurations_14 : decode cX5_sumOfDurations 14 = .ok (.getfield 11, 3) := by decide +kernel
theorem dX5_sumOfDurations_17 : decode cX5_sumOfDurations 17 = .ok (.iload_n 2, 1) := by decide +kernel
theorem dX5_sumOfDurations_18 : decode cX5_sumOfDurations 18 = .ok (.aaload, 1) := by decide +kernel
theorem dX5_sumOfDurations_19 : decode cX5_sumOfDurations 19 = .ok (.getfield 68, 3) := by decide +kernel
theorem dX5_sumOfDurations_22 : decode cX5_sumOfDurations 22 = .ok (.ifCond .eq 15, 3) := by decide +kernel
theorem dX5_sumOfDurations_25 : decode cX5_sumOfDurations 25 = .ok (.aload_n 0, 1) := by decide +kernel
theorem dX5_sumOfDurations_26 : decode cX5_sumOfDurations 26 = .ok (.getfield 11, 3) := by decide +kernel
theorem dX5_sumOfDurations_29 : decode cX5_sumOfDurations 29 = .ok (.iload_n 2, 1) := by decide +kernel
theorem dX5_sumOfDurations_30 : decode cX5_sumOfDurations 30 = .ok (.aaload, 1) := by decide +kernel
theorem dX5_sumOfDurations_31 : decode cX5_sumOfDurations 31 = .ok (.getfield 72, 3) := by decide +kernel
theorem dX5_sumOfDurations_34 : decode cX5_sumOfDurations 34 = .ok (.goto 4, 3) := by decide +kernel
theorem dX5_sumOfDurations_37 : decode cX5_sumOfDurations 37 = .ok (.iconst 0, 1) := by decide +kernel
theorem dX5_sumOfDurations_38 : decode cX5_sumOfDurations 38 = .ok (.iadd, 1) := by decide +kernel
theorem dX5_sumOfDurations_39 : decode cX5_sumOfDurations 39 = .ok (.istore_n 1, 1) := by decide +kernel
theorem dX5_sumOfDurations_40 : decode cX5_sumOfDurations 40 = .ok (.iinc 2 1, 3) := by decide +kernel
theorem dX5_sumOfDurations_43 : decode cX5_sumOfDurations 43 = .ok (.goto (-39), 3) := by decide +kernel
theorem dX5_sumOfDurations_46 : decode cX5_sumOfDurations 46 = .ok (.iload_n 1, 1) := by decide +kernel
theorem dX5_sumOfDurations_47 : decode cX5_sumOfDurations 47 = .ok (.ireturn, 1) := by decide +kernel
theorem dX5_sumOfReserves_0 : decode cX5_sumOfReserves 0 = .ok (.iconst 0, 1) := by decide +kernel
theorem dX5_sumOfReserves_1 : decode cX5_sumOfReserves 1 = .ok (.istore_n 1, 1) := by decide +kernel
theorem dX5_sumOfReserves_2 : decode cX5_sumOfReserves 2 = .ok (.iconst 0, 1) := by decide +kernel
theorem dX5_sumOfReserves_3 : decode cX5_sumOfReserves 3 = .ok (.istore_n 2, 1) := by decide +kernel
theorem dX5_sumOfReserves_4 : decode cX5_sumOfReserves 4 = .ok (.iload_n 2, 1) := by decide +kernel
theorem dX5_sumOfReserves_5 : decode cX5_sumOfReserves 5 = .ok (.aload_n 0, 1) := by decide +kernel
theorem dX5_sumOfReserves_6 : decode cX5_sumOfReserves 6 = .ok (.getfield 20, 3) := by decide +kernel
theorem dX5_sumOfReserves_9 : decode cX5_sumOfReserves 9 = .ok (.if_icmp .ge 37, 3) := by decide +kernel
theorem dX5_sumOfReserves_12 : decode cX5_sumOfReserves 12 = .ok (.iload_n 1, 1) := by decide +kernel
theorem dX5_sumOfReserves_13 : decode cX5_sumOfReserves 13 = .ok (.aload_n 0, 1) := by decide +kernel
theorem dX5_sumOfReserves_14 : decode cX5_sumOfReserves 14 = .ok (.getfield 11, 3) := by decide +kernel
theorem dX5_sumOfReserves_17 : decode cX5_sumOfReserves 17 = .ok (.iload_n 2, 1) := by decide +kernel
theorem dX5_sumOfReserves_18 : decode cX5_sumOfReserves 18 = .ok (.aaload, 1) := by decide +kernel
theorem dX5_sumOfReserves_19 : decode cX5_sumOfReserves 19 = .ok (.getfield 68, 3) := by decide +kernel
theorem dX5_sumOfReserves_22 : decode cX5_sumOfReserves 22 = .ok (.ifCond .eq 15, 3) := by decide +kernel
theorem dX5_sumOfReserves_25 : decode cX5_sumOfReserves 25 = .ok (.aload_n 0, 1) := by decide +kernel
theorem dX5_sumOfReserves_26 : decode cX5_sumOfReserves 26 = .ok (.getfield 11, 3) := by decide +kernel
theorem dX5_sumOfReserves_29 : decode cX5_sumOfReserves 29 = .ok (.iload_n 2, 1) := by decide +kernel
theorem dX5_sumOfReserves_30 : decode cX5_sumOfReserves 30 = .ok (.aaload, 1) := by decide +kernel
theorem dX5_sumOfReserves_31 : decode cX5_sumOfReserves 31 = .ok (.getfield 75, 3) := by decide +kernel
theorem dX5_sumOfReserves_34 : decode cX5_sumOfReserves 34 = .ok (.goto 4, 3) := by decide +kernel
theorem dX5_sumOfReserves_37 : decode cX5_sumOfReserves 37 = .ok (.iconst 0, 1) := by decide +kernel
theorem dX5_sumOfReserves_38 : decode cX5_sumOfReserves 38 = .ok (.iadd, 1) := by decide +kernel
theorem dX5_sumOfReserves_39 : decode cX5_sumOfReserves 39 = .ok (.istore_n 1, 1) := by decide +kernel
theorem dX5_sumOfReserves_40 : decode cX5_sumOfReserves 40 = .ok (.iinc 2 1, 3) := by decide +kernel
theorem dX5_sumOfReserves_43 : decode cX5_sumOfReserves 43 = .ok (.goto (-39), 3) := by decide +kernel
theorem dX5_sumOfReserves_46 : decode cX5_sumOfReserves 46 = .ok (.iload_n 1, 1) := by decide +kernel
theorem dX5_sumOfReserves_47 : decode cX5_sumOfReserves 47 = .ok (.ireturn, 1) := by decide +kernel
theorem dX5_mostRunning_0 : decode cX5_mostRunning 0 = .ok (.iconst 0, 1) := by decide +kernel
theorem dX5_mostRunning_1 : decode cX5_mostRunning 1 = .ok (.istore_n 1, 1) := by decide +kernel
theorem dX5_mostRunning_2 : decode cX5_mostRunning 2 = .ok (.iconst 0, 1) := by decide +kernel
theorem dX5_mostRunning_3 : decode cX5_mostRunning 3 = .ok (.istore_n 2, 1) := by decide +kernel
theorem dX5_mostRunning_4 : decode cX5_mostRunning 4 = .ok (.iload_n 2, 1) := by decide +kernel
theorem dX5_mostRunning_5 : decode cX5_mostRunning 5 = .ok (.aload_n 0, 1) := by decide +kernel
theorem dX5_mostRunning_6 : decode cX5_mostRunning 6 = .ok (.getfield 20, 3) := by decide +kernel
theorem dX5_mostRunning_9 : decode cX5_mostRunning 9 = .ok (.if_icmp .ge 39, 3) := by decide +kernel
theorem dX5_mostRunning_12 : decode cX5_mostRunning 12 = .ok (.aload_n 0, 1) := by decide +kernel
theorem dX5_mostRunning_13 : decode cX5_mostRunning 13 = .ok (.getfield 11, 3) := by decide +kernel
theorem dX5_mostRunning_16 : decode cX5_mostRunning 16 = .ok (.iload_n 2, 1) := by decide +kernel
theorem dX5_mostRunning_17 : decode cX5_mostRunning 17 = .ok (.aaload, 1) := by decide +kernel
theorem dX5_mostRunning_18 : decode cX5_mostRunning 18 = .ok (.getfield 68, 3) := by decide +kernel
theorem dX5_mostRunning_21 : decode cX5_mostRunning 21 = .ok (.ifCond .eq 21, 3) := by decide +kernel
theorem dX5_mostRunning_24 : decode cX5_mostRunning 24 = .ok (.iload_n 1, 1) := by decide +kernel
theorem dX5_mostRunning_25 : decode cX5_mostRunning 25 = .ok (.aload_n 0, 1) := by decide +kernel
theorem dX5_mostRunning_26 : decode cX5_mostRunning 26 = .ok (.aload_n 0, 1) := by decide +kernel
theorem dX5_mostRunning_27 : decode cX5_mostRunning 27 = .ok (.getfield 11, 3) := by decide +kernel
theorem dX5_mostRunning_30 : decode cX5_mostRunning 30 = .ok (.iload_n 2, 1) := by decide +kernel
theorem dX5_mostRunning_31 : decode cX5_mostRunning 31 = .ok (.aaload, 1) := by decide +kernel
theorem dX5_mostRunning_32 : decode cX5_mostRunning 32 = .ok (.getfield 95, 3) := by decide +kernel
theorem dX5_mostRunning_35 : decode cX5_mostRunning 35 = .ok (.invokevirtual 229, 3) := by decide +kernel
theorem dX5_mostRunning_38 : decode cX5_mostRunning 38 = .ok (.invokestatic 197, 3) := by decide +kernel
theorem dX5_mostRunning_41 : decode cX5_mostRunning 41 = .ok (.istore_n 1, 1) := by decide +kernel
theorem dX5_mostRunning_42 : decode cX5_mostRunning 42 = .ok (.iinc 2 1, 3) := by decide +kernel
theorem dX5_mostRunning_45 : decode cX5_mostRunning 45 = .ok (.goto (-41), 3) := by decide +kernel
theorem dX5_mostRunning_48 : decode cX5_mostRunning 48 = .ok (.iload_n 1, 1) := by decide +kernel
theorem dX5_mostRunning_49 : decode cX5_mostRunning 49 = .ok (.ireturn, 1) := by decide +kernel
theorem dX5_countRunning_0 : decode cX5_countRunning 0 = .ok (.iconst 0, 1) := by decide +kernel
theorem dX5_countRunning_1 : decode cX5_countRunning 1 = .ok (.istore_n 2, 1) := by decide +kernel
theorem dX5_countRunning_2 : decode cX5_countRunning 2 = .ok (.iconst 0, 1) := by decide +kernel
theorem dX5_countRunning_3 : decode cX5_countRunning 3 = .ok (.istore_n 3, 1) := by decide +kernel
theorem dX5_countRunning_4 : decode cX5_countRunning 4 = .ok (.iload_n 3, 1) := by decide +kernel
theorem dX5_countRunning_5 : decode cX5_countRunning 5 = .ok (.aload_n 0, 1) := by decide +kernel
theorem dX5_countRunning_6 : decode cX5_countRunning 6 = .ok (.getfield 20, 3) := by decide +kernel
theorem dX5_countRunning_9 : decode cX5_countRunning 9 = .ok (.if_icmp .ge 30, 3) := by decide +kernel
theorem dX5_countRunning_12 : decode cX5_countRunning 12 = .ok (.iload_n 2, 1) := by decide +kernel
theorem dX5_countRunning_13 : decode cX5_countRunning 13 = .ok (.aload_n 0, 1) := by decide +kernel
theorem dX5_countRunning_14 : decode cX5_countRunning 14 = .ok (.getfield 11, 3) := by decide +kernel
theorem dX5_countRunning_17 : decode cX5_countRunning 17 = .ok (.iload_n 3, 1) := by decide +kernel
theorem dX5_countRunning_18 : decode cX5_countRunning 18 = .ok (.aaload, 1) := by decide +kernel
theorem dX5_countRunning_19 : decode cX5_countRunning 19 = .ok (.iload_n 1, 1) := by decide +kernel
theorem dX5_countRunning_20 : decode cX5_countRunning 20 = .ok (.invokevirtual 232, 3) := by decide +kernel
theorem dX5_countRunning_23 : decode cX5_countRunning 23 = .ok (.ifCond .eq 7, 3) := by decide +kernel
theorem dX5_countRunning_26 : decode cX5_countRunning 26 = .ok (.iconst 1, 1) := by decide +kernel
theorem dX5_countRunning_27 : decode cX5_countRunning 27 = .ok (.goto 4, 3) := by decide +kernel
theorem dX5_countRunning_30 : decode cX5_countRunning 30 = .ok (.iconst 0, 1) := by decide +kernel
theorem dX5_countRunning_31 : decode cX5_countRunning 31 = .ok (.iadd, 1) := by decide +kernel
theorem dX5_countRunning_32 : decode cX5_countRunning 32 = .ok (.istore_n 2, 1) := by decide +kernel
theorem dX5_countRunning_33 : decode cX5_countRunning 33 = .ok (.iinc 3 1, 3) := by decide +kernel
theorem dX5_countRunning_36 : decode cX5_countRunning 36 = .ok (.goto (-32), 3) := by decide +kernel
theorem dX5_countRunning_39 : decode cX5_countRunning 39 = .ok (.iload_n 2, 1) := by decide +kernel
theorem dX5_countRunning_40 : decode cX5_countRunning 40 = .ok (.ireturn, 1) := by decide +kernel
theorem dX5_rowValue_0 : decode cX5_rowValue 0 = .ok (.iload_n 3, 1) := by decide +kernel
theorem dX5_rowValue_1 : decode cX5_rowValue 1 = .ok (.tableswitch 51 0 2 #[27, 34, 40], 27) := by decide +kernel
theorem dX5_rowValue_28 : decode cX5_rowValue 28 = .ok (.aload_n 0, 1) := by decide +kernel
theorem dX5_rowValue_29 : decode cX5_rowValue 29 = .ok (.aload_n 1, 1) := by decide +kernel
theorem dX5_rowValue_30 : decode cX5_rowValue 30 = .ok (.iload_n 2, 1) := by decide +kernel
theorem dX5_rowValue_31 : decode cX5_rowValue 31 = .ok (.invokevirtual 236, 3) := by decide +kernel
theorem dX5_rowValue_34 : decode cX5_rowValue 34 = .ok (.ireturn, 1) := by decide +kernel
theorem dX5_rowValue_35 : decode cX5_rowValue 35 = .ok (.aload_n 1, 1) := by decide +kernel
theorem dX5_rowValue_36 : decode cX5_rowValue 36 = .ok (.iload_n 2, 1) := by decide +kernel
theorem dX5_rowValue_37 : decode cX5_rowValue 37 = .ok (.invokevirtual 98, 3) := by decide +kernel
theorem dX5_rowValue_40 : decode cX5_rowValue 40 = .ok (.ireturn, 1) := by decide +kernel
theorem dX5_rowValue_41 : decode cX5_rowValue 41 = .ok (.aload_n 1, 1) := by decide +kernel
theorem dX5_rowValue_42 : decode cX5_rowValue 42 = .ok (.getfield 82, 3) := by decide +kernel
theorem dX5_rowValue_45 : decode cX5_rowValue 45 = .ok (.aload_n 1, 1) := by decide +kernel
theorem dX5_rowValue_46 : decode cX5_rowValue 46 = .ok (.iload_n 2, 1) := by decide +kernel
theorem dX5_rowValue_47 : decode cX5_rowValue 47 = .ok (.invokevirtual 98, 3) := by decide +kernel
theorem dX5_rowValue_50 : decode cX5_rowValue 50 = .ok (.isub, 1) := by decide +kernel
theorem dX5_rowValue_51 : decode cX5_rowValue 51 = .ok (.ireturn, 1) := by decide +kernel
theorem dX5_rowValue_52 : decode cX5_rowValue 52 = .ok (.aload_n 0, 1) := by decide +kernel
theorem dX5_rowValue_53 : decode cX5_rowValue 53 = .ok (.aload_n 1, 1) := by decide +kernel
theorem dX5_rowValue_54 : decode cX5_rowValue 54 = .ok (.iload_n 2, 1) := by decide +kernel
theorem dX5_rowValue_55 : decode cX5_rowValue 55 = .ok (.invokevirtual 225, 3) := by decide +kernel
theorem dX5_rowValue_58 : decode cX5_rowValue 58 = .ok (.ifCond .eq 7, 3) := by decide +kernel
theorem dX5_rowValue_61 : decode cX5_rowValue 61 = .ok (.iconst 1, 1) := by decide +kernel
theorem dX5_rowValue_62 : decode cX5_rowValue 62 = .ok (.goto 4, 3) := by decide +kernel
theorem dX5_rowValue_65 : decode cX5_rowValue 65 = .ok (.iconst 0, 1) := by decide +kernel
theorem dX5_rowValue_66 : decode cX5_rowValue 66 = .ok (.ireturn, 1) := by decide +kernel
theorem dX5_countChildren_0 : decode cX5_countChildren 0 = .ok (.iconst 0, 1) := by decide +kernel
theorem dX5_countChildren_1 : decode cX5_countChildren 1 = .ok (.istore_n 3, 1) := by decide +kernel
theorem dX5_countChildren_2 : decode cX5_countChildren 2 = .ok (.iconst 1, 1) := by decide +kernel
theorem dX5_countChildren_3 : decode cX5_countChildren 3 = .ok (.istore 4, 2) := by decide +kernel
theorem dX5_countChildren_5 : decode cX5_countChildren 5 = .ok (.iload 4, 2) := by decide +kernel
theorem dX5_countChildren_7 : decode cX5_countChildren 7 = .ok (.aload_n 0, 1) := by decide +kernel
theorem dX5_countChildren_8 : decode cX5_countChildren 8 = .ok (.getfield 20, 3) := by decide +kernel
theorem dX5_countChildren_11 : decode cX5_countChildren 11 = .ok (.if_icmp .ge 35, 3) := by decide +kernel
theorem dX5_countChildren_14 : decode cX5_countChildren 14 = .ok (.iload_n 3, 1) := by decide +kernel
theorem dX5_countChildren_15 : decode cX5_countChildren 15 = .ok (.aload_n 0, 1) := by decide +kernel
theorem dX5_countChildren_16 : decode cX5_countChildren 16 = .ok (.getfield 11, 3) := by decide +kernel
theorem dX5_countChildren_19 : decode cX5_countChildren 19 = .ok (.iload 4, 2) := by decide +kernel
theorem dX5_countChildren_21 : decode cX5_countChildren 21 = .ok (.aaload, 1) := by decide +kernel
theorem dX5_countChildren_22 : decode cX5_countChildren 22 = .ok (.aload_n 1, 1) := by decide +kernel
theorem dX5_countChildren_23 : decode cX5_countChildren 23 = .ok (.getfield 35, 3) := by decide +kernel
theorem dX5_countChildren_26 : decode cX5_countChildren 26 = .ok (.iload_n 2, 1) := by decide +kernel
theorem dX5_countChildren_27 : decode cX5_countChildren 27 = .ok (.invokevirtual 239, 3) := by decide +kernel
theorem dX5_countChildren_30 : decode cX5_countChildren 30 = .ok (.ifCond .eq 7, 3) := by decide +kernel
theorem dX5_countChildren_33 : decode cX5_countChildren 33 = .ok (.iconst 1, 1) := by decide +kernel
theorem dX5_countChildren_34 : decode cX5_countChildren 34 = .ok (.goto 4, 3) := by decide +kernel
theorem dX5_countChildren_37 : decode cX5_countChildren 37 = .ok (.iconst 0, 1) := by decide +kernel
theorem dX5_countChildren_38 : decode cX5_countChildren 38 = .ok (.iadd, 1) := by decide +kernel
theorem dX5_countChildren_39 : decode cX5_countChildren 39 = .ok (.istore_n 3, 1) := by decide +kernel
theorem dX5_countChildren_40 : decode cX5_countChildren 40 = .ok (.iinc 4 1, 3) := by decide +kernel
theorem dX5_countChildren_43 : decode cX5_countChildren 43 = .ok (.goto (-38), 3) := by decide +kernel
theorem dX5_countChildren_46 : decode cX5_countChildren 46 = .ok (.iload_n 3, 1) := by decide +kernel
theorem dX5_countChildren_47 : decode cX5_countChildren 47 = .ok (.ireturn, 1) := by decide +kernel
theorem dX5_isCriticalRow_0 : decode cX5_isCriticalRow 0 = .ok (.aload_n 1, 1) := by decide +kernel
theorem dX5_isCriticalRow_1 : decode cX5_isCriticalRow 1 = .ok (.invokevirtual 243, 3) := by decide +kernel
theorem dX5_isCriticalRow_4 : decode cX5_isCriticalRow 4 = .ok (.ifCond .eq 28, 3) := by decide +kernel
theorem dX5_isCriticalRow_7 : decode cX5_isCriticalRow 7 = .ok (.aload_n 1, 1) := by decide +kernel
theorem dX5_isCriticalRow_8 : decode cX5_isCriticalRow 8 = .ok (.getfield 82, 3) := by decide +kernel
theorem dX5_isCriticalRow_11 : decode cX5_isCriticalRow 11 = .ok (.aload_n 1, 1) := by decide +kernel
theorem dX5_isCriticalRow_12 : decode cX5_isCriticalRow 12 = .ok (.iload_n 2, 1) := by decide +kernel
theorem dX5_isCriticalRow_13 : decode cX5_isCriticalRow 13 = .ok (.invokevirtual 98, 3) := by decide +kernel
theorem dX5_isCriticalRow_16 : decode cX5_isCriticalRow 16 = .ok (.if_icmp .ne 16, 3) := by decide +kernel
theorem dX5_isCriticalRow_19 : decode cX5_isCriticalRow 19 = .ok (.aload_n 0, 1) := by decide +kernel
theorem dX5_isCriticalRow_20 : decode cX5_isCriticalRow 20 = .ok (.aload_n 1, 1) := by decide +kernel
theorem dX5_isCriticalRow_21 : decode cX5_isCriticalRow 21 = .ok (.iload_n 2, 1) := by decide +kernel
theorem dX5_isCriticalRow_22 : decode cX5_isCriticalRow 22 = .ok (.invokevirtual 236, 3) := by decide +kernel
theorem dX5_isCriticalRow_25 : decode cX5_isCriticalRow 25 = .ok (.ifCond .le 7, 3) := by decide +kernel
theorem dX5_isCriticalRow_28 : decode cX5_isCriticalRow 28 = .ok (.iconst 1, 1) := by decide +kernel
theorem dX5_isCriticalRow_29 : decode cX5_isCriticalRow 29 = .ok (.goto 4, 3) := by decide +kernel
theorem dX5_isCriticalRow_32 : decode cX5_isCriticalRow 32 = .ok (.iconst 0, 1) := by decide +kernel
theorem dX5_isCriticalRow_33 : decode cX5_isCriticalRow 33 = .ok (.ireturn, 1) := by decide +kernel
theorem dX5_childNumber_0 : decode cX5_childNumber 0 = .ok (.iconst 1, 1) := by decide +kernel
theorem dX5_childNumber_1 : decode cX5_childNumber 1 = .ok (.istore 4, 2) := by decide +kernel
theorem dX5_childNumber_3 : decode cX5_childNumber 3 = .ok (.iload 4, 2) := by decide +kernel
theorem dX5_childNumber_5 : decode cX5_childNumber 5 = .ok (.aload_n 0, 1) := by decide +kernel
theorem dX5_childNumber_6 : decode cX5_childNumber 6 = .ok (.getfield 20, 3) := by decide +kernel
theorem dX5_childNumber_9 : decode cX5_childNumber 9 = .ok (.if_icmp .ge 46, 3) := by decide +kernel
theorem dX5_childNumber_12 : decode cX5_childNumber 12 = .ok (.aload_n 0, 1) := by decide +kernel
theorem dX5_childNumber_13 : decode cX5_childNumber 13 = .ok (.getfield 11, 3) := by decide +kernel
theorem dX5_childNumber_16 : decode cX5_childNumber 16 = .ok (.iload 4, 2) := by decide +kernel
theorem dX5_childNumber_18 : decode cX5_childNumber 18 = .ok (.aaload, 1) := by decide +kernel
theorem dX5_childNumber_19 : decode cX5_childNumber 19 = .ok (.astore 5, 2) := by decide +kernel
theorem dX5_childNumber_21 : decode cX5_childNumber 21 = .ok (.aload 5, 2) := by decide +kernel
theorem dX5_childNumber_23 : decode cX5_childNumber 23 = .ok (.aload_n 1, 1) := by decide +kernel
theorem dX5_childNumber_24 : decode cX5_childNumber 24 = .ok (.getfield 35, 3) := by decide +kernel
theorem dX5_childNumber_27 : decode cX5_childNumber 27 = .ok (.iload_n 2, 1) := by decide +kernel
theorem dX5_childNumber_28 : decode cX5_childNumber 28 = .ok (.invokevirtual 239, 3) := by decide +kernel
theorem dX5_childNumber_31 : decode cX5_childNumber 31 = .ok (.ifCond .eq 18, 3) := by decide +kernel
theorem dX5_childNumber_34 : decode cX5_childNumber 34 = .ok (.aload 5, 2) := by decide +kernel
theorem dX5_childNumber_36 : decode cX5_childNumber 36 = .ok (.getfield 92, 3) := by decide +kernel
theorem dX5_childNumber_39 : decode cX5_childNumber 39 = .ok (.iload_n 3, 1) := by decide +kernel
theorem dX5_childNumber_40 : decode cX5_childNumber 40 = .ok (.if_icmp .ne 9, 3) := by decide +kernel
theorem dX5_childNumber_43 : decode cX5_childNumber 43 = .ok (.aload 5, 2) := by decide +kernel
theorem dX5_childNumber_45 : decode cX5_childNumber 45 = .ok (.getfield 35, 3) := by decide +kernel
theorem dX5_childNumber_48 : decode cX5_childNumber 48 = .ok (.ireturn, 1) := by decide +kernel
theorem dX5_childNumber_49 : decode cX5_childNumber 49 = .ok (.iinc 4 1, 3) := by decide +kernel
theorem dX5_childNumber_52 : decode cX5_childNumber 52 = .ok (.goto (-49), 3) := by decide +kernel
theorem dX5_childNumber_55 : decode cX5_childNumber 55 = .ok (.iconst (-1), 1) := by decide +kernel
theorem dX5_childNumber_56 : decode cX5_childNumber 56 = .ok (.ireturn, 1) := by decide +kernel
theorem dX5_criticalNumber_0 : decode cX5_criticalNumber 0 = .ok (.iload_n 1, 1) := by decide +kernel
theorem dX5_criticalNumber_1 : decode cX5_criticalNumber 1 = .ok (.aload_n 0, 1) := by decide +kernel
theorem dX5_criticalNumber_2 : decode cX5_criticalNumber 2 = .ok (.getfield 20, 3) := by decide +kernel
theorem dX5_criticalNumber_5 : decode cX5_criticalNumber 5 = .ok (.if_icmp .lt 5, 3) := by decide +kernel
theorem dX5_criticalNumber_8 : decode cX5_criticalNumber 8 = .ok (.iconst (-1), 1) := by decide +kernel
theorem dX5_criticalNumber_9 : decode cX5_criticalNumber 9 = .ok (.ireturn, 1) := by decide +kernel
theorem dX5_criticalNumber_10 : decode cX5_criticalNumber 10 = .ok (.aload_n 0, 1) := by decide +kernel
theorem dX5_criticalNumber_11 : decode cX5_criticalNumber 11 = .ok (.aconst_null, 1) := by decide +kernel
theorem dX5_criticalNumber_12 : decode cX5_criticalNumber 12 = .ok (.invokevirtual 246, 3) := by decide +kernel
theorem dX5_criticalNumber_15 : decode cX5_criticalNumber 15 = .ok (.astore_n 2, 1) := by decide +kernel
theorem dX5_criticalNumber_16 : decode cX5_criticalNumber 16 = .ok (.iconst 0, 1) := by decide +kernel
theorem dX5_criticalNumber_17 : decode cX5_criticalNumber 17 = .ok (.istore_n 3, 1) := by decide +kernel
theorem dX5_criticalNumber_18 : decode cX5_criticalNumber 18 = .ok (.iload_n 3, 1) := by decide +kernel
theorem dX5_criticalNumber_19 : decode cX5_criticalNumber 19 = .ok (.iload_n 1, 1) := by decide +kernel
theorem dX5_criticalNumber_20 : decode cX5_criticalNumber 20 = .ok (.if_icmp .ge 19, 3) := by decide +kernel
theorem dX5_criticalNumber_23 : decode cX5_criticalNumber 23 = .ok (.aload_n 2, 1) := by decide +kernel
theorem dX5_criticalNumber_24 : decode cX5_criticalNumber 24 = .ok (.ifnull 15, 3) := by decide +kernel
theorem dX5_criticalNumber_27 : decode cX5_criticalNumber 27 = .ok (.aload_n 0, 1) := by decide +kernel
theorem dX5_criticalNumber_28 : decode cX5_criticalNumber 28 = .ok (.aload_n 2, 1) := by decide +kernel
theorem dX5_criticalNumber_29 : decode cX5_criticalNumber 29 = .ok (.invokevirtual 246, 3) := by decide +kernel
theorem dX5_criticalNumber_32 : decode cX5_criticalNumber 32 = .ok (.astore_n 2, 1) := by decide +kernel
theorem dX5_criticalNumber_33 : decode cX5_criticalNumber 33 = .ok (.iinc 3 1, 3) := by decide +kernel
theorem dX5_criticalNumber_36 : decode cX5_criticalNumber 36 = .ok (.goto (-18), 3) := by decide +kernel
theorem dX5_criticalNumber_39 : decode cX5_criticalNumber 39 = .ok (.aload_n 2, 1) := by decide +kernel
theorem dX5_criticalNumber_40 : decode cX5_criticalNumber 40 = .ok (.ifnonnull 7, 3) := by decide +kernel
theorem dX5_criticalNumber_43 : decode cX5_criticalNumber 43 = .ok (.iconst (-1), 1) := by decide +kernel
theorem dX5_criticalNumber_44 : decode cX5_criticalNumber 44 = .ok (.goto 7, 3) := by decide +kernel
theorem dX5_criticalNumber_47 : decode cX5_criticalNumber 47 = .ok (.aload_n 2, 1) := by decide +kernel
theorem dX5_criticalNumber_48 : decode cX5_criticalNumber 48 = .ok (.getfield 35, 3) := by decide +kernel
theorem dX5_criticalNumber_51 : decode cX5_criticalNumber 51 = .ok (.ireturn, 1) := by decide +kernel
theorem dX5_nextCritical_0 : decode cX5_nextCritical 0 = .ok (.aconst_null, 1) := by decide +kernel
theorem dX5_nextCritical_1 : decode cX5_nextCritical 1 = .ok (.astore_n 2, 1) := by decide +kernel
theorem dX5_nextCritical_2 : decode cX5_nextCritical 2 = .ok (.iconst 0, 1) := by decide +kernel
theorem dX5_nextCritical_3 : decode cX5_nextCritical 3 = .ok (.istore_n 3, 1) := by decide +kernel
theorem dX5_nextCritical_4 : decode cX5_nextCritical 4 = .ok (.iload_n 3, 1) := by decide +kernel
theorem dX5_nextCritical_5 : decode cX5_nextCritical 5 = .ok (.aload_n 0, 1) := by decide +kernel
theorem dX5_nextCritical_6 : decode cX5_nextCritical 6 = .ok (.getfield 20, 3) := by decide +kernel
theorem dX5_nextCritical_9 : decode cX5_nextCritical 9 = .ok (.if_icmp .ge 66, 3) := by decide +kernel
theorem dX5_nextCritical_12 : decode cX5_nextCritical 12 = .ok (.aload_n 0, 1) := by decide +kernel
theorem dX5_nextCritical_13 : decode cX5_nextCritical 13 = .ok (.getfield 11, 3) := by decide +kernel
theorem dX5_nextCritical_16 : decode cX5_nextCritical 16 = .ok (.iload_n 3, 1) := by decide +kernel
theorem dX5_nextCritical_17 : decode cX5_nextCritical 17 = .ok (.aaload, 1) := by decide +kernel
theorem dX5_nextCritical_18 : decode cX5_nextCritical 18 = .ok (.astore 4, 2) := by decide +kernel
theorem dX5_nextCritical_20 : decode cX5_nextCritical 20 = .ok (.aload_n 1, 1) := by decide +kernel
theorem dX5_nextCritical_21 : decode cX5_nextCritical 21 = .ok (.ifnull 12, 3) := by decide +kernel
theorem dX5_nextCritical_24 : decode cX5_nextCritical 24 = .ok (.aload_n 1, 1) := by decide +kernel
theorem dX5_nextCritical_25 : decode cX5_nextCritical 25 = .ok (.aload 4, 2) := by decide +kernel
theorem dX5_nextCritical_27 : decode cX5_nextCritical 27 = .ok (.invokestatic 250, 3) := by decide +kernel
theorem dX5_nextCritical_30 : decode cX5_nextCritical 30 = .ok (.ifCond .eq 7, 3) := by decide +kernel
theorem dX5_nextCritical_33 : decode cX5_nextCritical 33 = .ok (.iconst 1, 1) := by decide +kernel
theorem dX5_nextCritical_34 : decode cX5_nextCritical 34 = .ok (.goto 4, 3) := by decide +kernel
theorem dX5_nextCritical_37 : decode cX5_nextCritical 37 = .ok (.iconst 0, 1) := by decide +kernel
theorem dX5_nextCritical_38 : decode cX5_nextCritical 38 = .ok (.istore 5, 2) := by decide +kernel
theorem dX5_nextCritical_40 : decode cX5_nextCritical 40 = .ok (.aload 4, 2) := by decide +kernel
theorem dX5_nextCritical_42 : decode cX5_nextCritical 42 = .ok (.invokevirtual 221, 3) := by decide +kernel
theorem dX5_nextCritical_45 : decode cX5_nextCritical 45 = .ok (.ifCond .eq 24, 3) := by decide +kernel
theorem dX5_nextCritical_48 : decode cX5_nextCritical 48 = .ok (.iload 5, 2) := by decide +kernel
theorem dX5_nextCritical_50 : decode cX5_nextCritical 50 = .ok (.ifCond .eq 19, 3) := by decide +kernel
theorem dX5_nextCritical_53 : decode cX5_nextCritical 53 = .ok (.aload_n 2, 1) := by decide +kernel
theorem dX5_nextCritical_54 : decode cX5_nextCritical 54 = .ok (.ifnull 12, 3) := by decide +kernel
theorem dX5_nextCritical_57 : decode cX5_nextCritical 57 = .ok (.aload 4, 2) := by decide +kernel
theorem dX5_nextCritical_59 : decode cX5_nextCritical 59 = .ok (.aload_n 2, 1) := by decide +kernel
theorem dX5_nextCritical_60 : decode cX5_nextCritical 60 = .ok (.invokestatic 250, 3) := by decide +kernel
theorem dX5_nextCritical_63 : decode cX5_nextCritical 63 = .ok (.ifCond .eq 6, 3) := by decide +kernel
theorem dX5_nextCritical_66 : decode cX5_nextCritical 66 = .ok (.aload 4, 2) := by decide +kernel
theorem dX5_nextCritical_68 : decode cX5_nextCritical 68 = .ok (.astore_n 2, 1) := by decide +kernel
theorem dX5_nextCritical_69 : decode cX5_nextCritical 69 = .ok (.iinc 3 1, 3) := by decide +kernel
theorem dX5_nextCritical_72 : decode cX5_nextCritical 72 = .ok (.goto (-68), 3) := by decide +kernel
theorem dX5_nextCritical_75 : decode cX5_nextCritical 75 = .ok (.aload_n 2, 1) := by decide +kernel
theorem dX5_nextCritical_76 : decode cX5_nextCritical 76 = .ok (.areturn, 1) := by decide +kernel
theorem dX5_startsBefore_0 : decode cX5_startsBefore 0 = .ok (.aload_n 0, 1) := by decide +kernel
theorem dX5_startsBefore_1 : decode cX5_startsBefore 1 = .ok (.getfield 95, 3) := by decide +kernel
theorem dX5_startsBefore_4 : decode cX5_startsBefore 4 = .ok (.aload_n 1, 1) := by decide +kernel
theorem dX5_startsBefore_5 : decode cX5_startsBefore 5 = .ok (.getfield 95, 3) := by decide +kernel
theorem dX5_startsBefore_8 : decode cX5_startsBefore 8 = .ok (.if_icmp .lt 25, 3) := by decide +kernel
theorem dX5_startsBefore_11 : decode cX5_startsBefore 11 = .ok (.aload_n 0, 1) := by decide +kernel
theorem dX5_startsBefore_12 : decode cX5_startsBefore 12 = .ok (.getfield 95, 3) := by decide +kernel
theorem dX5_startsBefore_15 : decode cX5_startsBefore 15 = .ok (.aload_n 1, 1) := by decide +kernel
theorem dX5_startsBefore_16 : decode cX5_startsBefore 16 = .ok (.getfield 95, 3) := by decide +kernel
theorem dX5_startsBefore_19 : decode cX5_startsBefore 19 = .ok (.if_icmp .ne 18, 3) := by decide +kernel
theorem dX5_startsBefore_22 : decode cX5_startsBefore 22 = .ok (.aload_n 0, 1) := by decide +kernel
theorem dX5_startsBefore_23 : decode cX5_startsBefore 23 = .ok (.getfield 35, 3) := by decide +kernel
theorem dX5_startsBefore_26 : decode cX5_startsBefore 26 = .ok (.aload_n 1, 1) := by decide +kernel
theorem dX5_startsBefore_27 : decode cX5_startsBefore 27 = .ok (.getfield 35, 3) := by decide +kernel
theorem dX5_startsBefore_30 : decode cX5_startsBefore 30 = .ok (.if_icmp .ge 7, 3) := by decide +kernel
theorem dX5_startsBefore_33 : decode cX5_startsBefore 33 = .ok (.iconst 1, 1) := by decide +kernel
theorem dX5_startsBefore_34 : decode cX5_startsBefore 34 = .ok (.goto 4, 3) := by decide +kernel
theorem dX5_startsBefore_37 : decode cX5_startsBefore 37 = .ok (.iconst 0, 1) := by decide +kernel
theorem dX5_startsBefore_38 : decode cX5_startsBefore 38 = .ok (.ireturn, 1) := by decide +kernel
theorem dX5_nextNumbered_0 : decode cX5_nextNumbered 0 = .ok (.aconst_null, 1) := by decide +kernel
theorem dX5_nextNumbered_1 : decode cX5_nextNumbered 1 = .ok (.astore_n 2, 1) := by decide +kernel
theorem dX5_nextNumbered_2 : decode cX5_nextNumbered 2 = .ok (.iconst 0, 1) := by decide +kernel
theorem dX5_nextNumbered_3 : decode cX5_nextNumbered 3 = .ok (.istore_n 3, 1) := by decide +kernel
theorem dX5_nextNumbered_4 : decode cX5_nextNumbered 4 = .ok (.iload_n 3, 1) := by decide +kernel
theorem dX5_nextNumbered_5 : decode cX5_nextNumbered 5 = .ok (.aload_n 0, 1) := by decide +kernel
theorem dX5_nextNumbered_6 : decode cX5_nextNumbered 6 = .ok (.getfield 20, 3) := by decide +kernel
theorem dX5_nextNumbered_9 : decode cX5_nextNumbered 9 = .ok (.if_icmp .ge 45, 3) := by decide +kernel
theorem dX5_nextNumbered_12 : decode cX5_nextNumbered 12 = .ok (.aload_n 0, 1) := by decide +kernel
theorem dX5_nextNumbered_13 : decode cX5_nextNumbered 13 = .ok (.getfield 11, 3) := by decide +kernel
theorem dX5_nextNumbered_16 : decode cX5_nextNumbered 16 = .ok (.iload_n 3, 1) := by decide +kernel
theorem dX5_nextNumbered_17 : decode cX5_nextNumbered 17 = .ok (.aaload, 1) := by decide +kernel
theorem dX5_nextNumbered_18 : decode cX5_nextNumbered 18 = .ok (.astore 4, 2) := by decide +kernel
theorem dX5_nextNumbered_20 : decode cX5_nextNumbered 20 = .ok (.aload 4, 2) := by decide +kernel
theorem dX5_nextNumbered_22 : decode cX5_nextNumbered 22 = .ok (.getfield 35, 3) := by decide +kernel
theorem dX5_nextNumbered_25 : decode cX5_nextNumbered 25 = .ok (.iload_n 1, 1) := by decide +kernel
theorem dX5_nextNumbered_26 : decode cX5_nextNumbered 26 = .ok (.if_icmp .le 22, 3) := by decide +kernel
theorem dX5_nextNumbered_29 : decode cX5_nextNumbered 29 = .ok (.aload_n 2, 1) := by decide +kernel
theorem dX5_nextNumbered_30 : decode cX5_nextNumbered 30 = .ok (.ifnull 15, 3) := by decide +kernel
theorem dX5_nextNumbered_33 : decode cX5_nextNumbered 33 = .ok (.aload 4, 2) := by decide +kernel
theorem dX5_nextNumbered_35 : decode cX5_nextNumbered 35 = .ok (.getfield 35, 3) := by decide +kernel
theorem dX5_nextNumbered_38 : decode cX5_nextNumbered 38 = .ok (.aload_n 2, 1) := by decide +kernel
theorem dX5_nextNumbered_39 : decode cX5_nextNumbered 39 = .ok (.getfield 35, 3) := by decide +kernel
theorem dX5_nextNumbered_42 : decode cX5_nextNumbered 42 = .ok (.if_icmp .ge 6, 3) := by decide +kernel
theorem dX5_nextNumbered_45 : decode cX5_nextNumbered 45 = .ok (.aload 4, 2) := by decide +kernel
theorem dX5_nextNumbered_47 : decode cX5_nextNumbered 47 = .ok (.astore_n 2, 1) := by decide +kernel
theorem dX5_nextNumbered_48 : decode cX5_nextNumbered 48 = .ok (.iinc 3 1, 3) := by decide +kernel
theorem dX5_nextNumbered_51 : decode cX5_nextNumbered 51 = .ok (.goto (-47), 3) := by decide +kernel
theorem dX5_nextNumbered_54 : decode cX5_nextNumbered 54 = .ok (.aload_n 2, 1) := by decide +kernel
theorem dX5_nextNumbered_55 : decode cX5_nextNumbered 55 = .ok (.areturn, 1) := by decide +kernel
theorem dX5_greatestDuration_0 : decode cX5_greatestDuration 0 = .ok (.aload_n 1, 1) := by decide +kernel
theorem dX5_greatestDuration_1 : decode cX5_greatestDuration 1 = .ok (.getfield 72, 3) := by decide +kernel
theorem dX5_greatestDuration_4 : decode cX5_greatestDuration 4 = .ok (.istore_n 2, 1) := by decide +kernel
theorem dX5_greatestDuration_5 : decode cX5_greatestDuration 5 = .ok (.iload_n 2, 1) := by decide +kernel
theorem dX5_greatestDuration_6 : decode cX5_greatestDuration 6 = .ok (.bipush 60, 2) := by decide +kernel
theorem dX5_greatestDuration_8 : decode cX5_greatestDuration 8 = .ok (.if_icmp .ge 27, 3) := by decide +kernel
theorem dX5_greatestDuration_11 : decode cX5_greatestDuration 11 = .ok (.aload_n 1, 1) := by decide +kernel
theorem dX5_greatestDuration_12 : decode cX5_greatestDuration 12 = .ok (.aload_n 1, 1) := by decide +kernel
theorem dX5_greatestDuration_13 : decode cX5_greatestDuration 13 = .ok (.iload_n 2, 1) := by decide +kernel
theorem dX5_greatestDuration_14 : decode cX5_greatestDuration 14 = .ok (.iconst 1, 1) := by decide +kernel
theorem dX5_greatestDuration_15 : decode cX5_greatestDuration 15 = .ok (.iadd, 1) := by decide +kernel
theorem dX5_greatestDuration_16 : decode cX5_greatestDuration 16 = .ok (.invokevirtual 253, 3) := by decide +kernel
theorem dX5_greatestDuration_19 : decode cX5_greatestDuration 19 = .ok (.invokevirtual 256, 3) := by decide +kernel
theorem dX5_greatestDuration_22 : decode cX5_greatestDuration 22 = .ok (.aload_n 0, 1) := by decide +kernel
theorem dX5_greatestDuration_23 : decode cX5_greatestDuration 23 = .ok (.invokevirtual 194, 3) := by decide +kernel
theorem dX5_greatestDuration_26 : decode cX5_greatestDuration 26 = .ok (.if_icmp .gt 9, 3) := by decide +kernel
theorem dX5_greatestDuration_29 : decode cX5_greatestDuration 29 = .ok (.iinc 2 1, 3) := by decide +kernel
theorem dX5_greatestDuration_32 : decode cX5_greatestDuration 32 = .ok (.goto (-27), 3) := by decide +kernel
theorem dX5_greatestDuration_35 : decode cX5_greatestDuration 35 = .ok (.iload_n 2, 1) := by decide +kernel
theorem dX5_greatestDuration_36 : decode cX5_greatestDuration 36 = .ok (.ireturn, 1) := by decide +kernel
theorem dX5_cutNumber_0 : decode cX5_cutNumber 0 = .ok (.aconst_null, 1) := by decide +kernel
theorem dX5_cutNumber_1 : decode cX5_cutNumber 1 = .ok (.astore_n 1, 1) := by decide +kernel
theorem dX5_cutNumber_2 : decode cX5_cutNumber 2 = .ok (.iconst 0, 1) := by decide +kernel
theorem dX5_cutNumber_3 : decode cX5_cutNumber 3 = .ok (.istore_n 2, 1) := by decide +kernel
theorem dX5_cutNumber_4 : decode cX5_cutNumber 4 = .ok (.iload_n 2, 1) := by decide +kernel
theorem dX5_cutNumber_5 : decode cX5_cutNumber 5 = .ok (.aload_n 0, 1) := by decide +kernel
theorem dX5_cutNumber_6 : decode cX5_cutNumber 6 = .ok (.getfield 20, 3) := by decide +kernel
theorem dX5_cutNumber_9 : decode cX5_cutNumber 9 = .ok (.if_icmp .ge 69, 3) := by decide +kernel
theorem dX5_cutNumber_12 : decode cX5_cutNumber 12 = .ok (.aload_n 0, 1) := by decide +kernel
theorem dX5_cutNumber_13 : decode cX5_cutNumber 13 = .ok (.getfield 11, 3) := by decide +kernel
theorem dX5_cutNumber_16 : decode cX5_cutNumber 16 = .ok (.iload_n 2, 1) := by decide +kernel
theorem dX5_cutNumber_17 : decode cX5_cutNumber 17 = .ok (.aaload, 1) := by decide +kernel
theorem dX5_cutNumber_18 : decode cX5_cutNumber 18 = .ok (.astore_n 3, 1) := by decide +kernel
theorem dX5_cutNumber_19 : decode cX5_cutNumber 19 = .ok (.aload_n 3, 1) := by decide +kernel
theorem dX5_cutNumber_20 : decode cX5_cutNumber 20 = .ok (.getfield 68, 3) := by decide +kernel
theorem dX5_cutNumber_23 : decode cX5_cutNumber 23 = .ok (.ifCond .eq 49, 3) := by decide +kernel
theorem dX5_cutNumber_26 : decode cX5_cutNumber 26 = .ok (.aload_n 3, 1) := by decide +kernel
theorem dX5_cutNumber_27 : decode cX5_cutNumber 27 = .ok (.getfield 72, 3) := by decide +kernel
theorem dX5_cutNumber_30 : decode cX5_cutNumber 30 = .ok (.iconst 1, 1) := by decide +kernel
theorem dX5_cutNumber_31 : decode cX5_cutNumber 31 = .ok (.if_icmp .lt 41, 3) := by decide +kernel
theorem dX5_cutNumber_34 : decode cX5_cutNumber 34 = .ok (.aload_n 1, 1) := by decide +kernel
theorem dX5_cutNumber_35 : decode cX5_cutNumber 35 = .ok (.ifnull 14, 3) := by decide +kernel
theorem dX5_cutNumber_38 : decode cX5_cutNumber 38 = .ok (.aload_n 3, 1) := by decide +kernel
theorem dX5_cutNumber_39 : decode cX5_cutNumber 39 = .ok (.getfield 35, 3) := by decide +kernel
theorem dX5_cutNumber_42 : decode cX5_cutNumber 42 = .ok (.aload_n 1, 1) := by decide +kernel
theorem dX5_cutNumber_43 : decode cX5_cutNumber 43 = .ok (.getfield 35, 3) := by decide +kernel
theorem dX5_cutNumber_46 : decode cX5_cutNumber 46 = .ok (.if_icmp .ge 26, 3) := by decide +kernel
theorem dX5_cutNumber_49 : decode cX5_cutNumber 49 = .ok (.aload_n 3, 1) := by decide +kernel
theorem dX5_cutNumber_50 : decode cX5_cutNumber 50 = .ok (.aload_n 3, 1) := by decide +kernel
theorem dX5_cutNumber_51 : decode cX5_cutNumber 51 = .ok (.aload_n 3, 1) := by decide +kernel
theorem dX5_cutNumber_52 : decode cX5_cutNumber 52 = .ok (.getfield 72, 3) := by decide +kernel
theorem dX5_cutNumber_55 : decode cX5_cutNumber 55 = .ok (.iconst 1, 1) := by decide +kernel
theorem dX5_cutNumber_56 : decode cX5_cutNumber 56 = .ok (.isub, 1) := by decide +kernel
theorem dX5_cutNumber_57 : decode cX5_cutNumber 57 = .ok (.invokevirtual 253, 3) := by decide +kernel
theorem dX5_cutNumber_60 : decode cX5_cutNumber 60 = .ok (.invokevirtual 256, 3) := by decide +kernel
theorem dX5_cutNumber_63 : decode cX5_cutNumber 63 = .ok (.aload_n 0, 1) := by decide +kernel
theorem dX5_cutNumber_64 : decode cX5_cutNumber 64 = .ok (.invokevirtual 194, 3) := by decide +kernel
theorem dX5_cutNumber_67 : decode cX5_cutNumber 67 = .ok (.if_icmp .ge 5, 3) := by decide +kernel
theorem dX5_cutNumber_70 : decode cX5_cutNumber 70 = .ok (.aload_n 3, 1) := by decide +kernel
theorem dX5_cutNumber_71 : decode cX5_cutNumber 71 = .ok (.astore_n 1, 1) := by decide +kernel
theorem dX5_cutNumber_72 : decode cX5_cutNumber 72 = .ok (.iinc 2 1, 3) := by decide +kernel
theorem dX5_cutNumber_75 : decode cX5_cutNumber 75 = .ok (.goto (-71), 3) := by decide +kernel
theorem dX5_cutNumber_78 : decode cX5_cutNumber 78 = .ok (.aload_n 1, 1) := by decide +kernel
theorem dX5_cutNumber_79 : decode cX5_cutNumber 79 = .ok (.ifnonnull 7, 3) := by decide +kernel
theorem dX5_cutNumber_82 : decode cX5_cutNumber 82 = .ok (.iconst (-1), 1) := by decide +kernel
theorem dX5_cutNumber_83 : decode cX5_cutNumber 83 = .ok (.goto 7, 3) := by decide +kernel
theorem dX5_cutNumber_86 : decode cX5_cutNumber 86 = .ok (.aload_n 1, 1) := by decide +kernel
theorem dX5_cutNumber_87 : decode cX5_cutNumber 87 = .ok (.getfield 35, 3) := by decide +kernel
theorem dX5_cutNumber_90 : decode cX5_cutNumber 90 = .ok (.ireturn, 1) := by decide +kernel
theorem dX5_slackIfBorrowed_0 : decode cX5_slackIfBorrowed 0 = .ok (.aload_n 2, 1) := by decide +kernel
theorem dX5_slackIfBorrowed_1 : decode cX5_slackIfBorrowed 1 = .ok (.getfield 104, 3) := by decide +kernel
theorem dX5_slackIfBorrowed_4 : decode cX5_slackIfBorrowed 4 = .ok (.istore_n 3, 1) := by decide +kernel
theorem dX5_slackIfBorrowed_5 : decode cX5_slackIfBorrowed 5 = .ok (.aload_n 2, 1) := by decide +kernel
theorem dX5_slackIfBorrowed_6 : decode cX5_slackIfBorrowed 6 = .ok (.dup, 1) := by decide +kernel
theorem dX5_slackIfBorrowed_7 : decode cX5_slackIfBorrowed 7 = .ok (.getfield 75, 3) := by decide +kernel
theorem dX5_slackIfBorrowed_10 : decode cX5_slackIfBorrowed 10 = .ok (.iload_n 3, 1) := by decide +kernel
theorem dX5_slackIfBorrowed_11 : decode cX5_slackIfBorrowed 11 = .ok (.iadd, 1) := by decide +kernel
theorem dX5_slackIfBorrowed_12 : decode cX5_slackIfBorrowed 12 = .ok (.putfield 75, 3) := by decide +kernel
theorem dX5_slackIfBorrowed_15 : decode cX5_slackIfBorrowed 15 = .ok (.aload_n 0, 1) := by decide +kernel
theorem dX5_slackIfBorrowed_16 : decode cX5_slackIfBorrowed 16 = .ok (.invokevirtual 184, 3) := by decide +kernel
theorem dX5_slackIfBorrowed_19 : decode cX5_slackIfBorrowed 19 = .ok (.aload_n 1, 1) := by decide +kernel
theorem dX5_slackIfBorrowed_20 : decode cX5_slackIfBorrowed 20 = .ok (.getfield 104, 3) := by decide +kernel
theorem dX5_slackIfBorrowed_23 : decode cX5_slackIfBorrowed 23 = .ok (.istore 4, 2) := by decide +kernel
theorem dX5_slackIfBorrowed_25 : decode cX5_slackIfBorrowed 25 = .ok (.aload_n 2, 1) := by decide +kernel
theorem dX5_slackIfBorrowed_26 : decode cX5_slackIfBorrowed 26 = .ok (.dup, 1) := by decide +kernel
theorem dX5_slackIfBorrowed_27 : decode cX5_slackIfBorrowed 27 = .ok (.getfield 75, 3) := by decide +kernel
theorem dX5_slackIfBorrowed_30 : decode cX5_slackIfBorrowed 30 = .ok (.iload_n 3, 1) := by decide +kernel
theorem dX5_slackIfBorrowed_31 : decode cX5_slackIfBorrowed 31 = .ok (.isub, 1) := by decide +kernel
theorem dX5_slackIfBorrowed_32 : decode cX5_slackIfBorrowed 32 = .ok (.putfield 75, 3) := by decide +kernel
theorem dX5_slackIfBorrowed_35 : decode cX5_slackIfBorrowed 35 = .ok (.aload_n 0, 1) := by decide +kernel
theorem dX5_slackIfBorrowed_36 : decode cX5_slackIfBorrowed 36 = .ok (.invokevirtual 184, 3) := by decide +kernel
theorem dX5_slackIfBorrowed_39 : decode cX5_slackIfBorrowed 39 = .ok (.iload 4, 2) := by decide +kernel
theorem dX5_slackIfBorrowed_41 : decode cX5_slackIfBorrowed 41 = .ok (.ireturn, 1) := by decide +kernel
theorem dX5_mixNodes_0 : decode cX5_mixNodes 0 = .ok (.lload_n 1, 1) := by decide +kernel
theorem dX5_mixNodes_1 : decode cX5_mixNodes 1 = .ok (.lstore_n 3, 1) := by decide +kernel
theorem dX5_mixNodes_2 : decode cX5_mixNodes 2 = .ok (.aload_n 0, 1) := by decide +kernel
theorem dX5_mixNodes_3 : decode cX5_mixNodes 3 = .ok (.iconst (-1), 1) := by decide +kernel
theorem dX5_mixNodes_4 : decode cX5_mixNodes 4 = .ok (.invokevirtual 259, 3) := by decide +kernel
theorem dX5_mixNodes_7 : decode cX5_mixNodes 7 = .ok (.astore 5, 2) := by decide +kernel
theorem dX5_mixNodes_9 : decode cX5_mixNodes 9 = .ok (.iconst 0, 1) := by decide +kernel
theorem dX5_mixNodes_10 : decode cX5_mixNodes 10 = .ok (.istore 6, 2) := by decide +kernel
theorem dX5_mixNodes_12 : decode cX5_mixNodes 12 = .ok (.iload 6, 2) := by decide +kernel
theorem dX5_mixNodes_14 : decode cX5_mixNodes 14 = .ok (.aload_n 0, 1) := by decide +kernel
theorem dX5_mixNodes_15 : decode cX5_mixNodes 15 = .ok (.getfield 20, 3) := by decide +kernel
theorem dX5_mixNodes_18 : decode cX5_mixNodes 18 = .ok (.if_icmp .ge 33, 3) := by decide +kernel
theorem dX5_mixNodes_21 : decode cX5_mixNodes 21 = .ok (.aload 5, 2) := by decide +kernel
theorem dX5_mixNodes_23 : decode cX5_mixNodes 23 = .ok (.ifnull 28, 3) := by decide +kernel
theorem dX5_mixNodes_26 : decode cX5_mixNodes 26 = .ok (.aload_n 0, 1) := by decide +kernel
theorem dX5_mixNodes_27 : decode cX5_mixNodes 27 = .ok (.lload_n 3, 1) := by decide +kernel
theorem dX5_mixNodes_28 : decode cX5_mixNodes 28 = .ok (.aload 5, 2) := by decide +kernel
theorem dX5_mixNodes_30 : decode cX5_mixNodes 30 = .ok (.invokevirtual 262, 3) := by decide +kernel
theorem dX5_mixNodes_33 : decode cX5_mixNodes 33 = .ok (.lstore_n 3, 1) := by decide +kernel
theorem dX5_mixNodes_34 : decode cX5_mixNodes 34 = .ok (.aload_n 0, 1) := by decide +kernel
theorem dX5_mixNodes_35 : decode cX5_mixNodes 35 = .ok (.aload 5, 2) := by decide +kernel
theorem dX5_mixNodes_37 : decode cX5_mixNodes 37 = .ok (.getfield 35, 3) := by decide +kernel
theorem dX5_mixNodes_40 : decode cX5_mixNodes 40 = .ok (.invokevirtual 259, 3) := by decide +kernel
theorem dX5_mixNodes_43 : decode cX5_mixNodes 43 = .ok (.astore 5, 2) := by decide +kernel
theorem dX5_mixNodes_45 : decode cX5_mixNodes 45 = .ok (.iinc 6 1, 3) := by decide +kernel
theorem dX5_mixNodes_48 : decode cX5_mixNodes 48 = .ok (.goto (-36), 3) := by decide +kernel
theorem dX5_mixNodes_51 : decode cX5_mixNodes 51 = .ok (.lload_n 3, 1) := by decide +kernel
theorem dX5_mixNodes_52 : decode cX5_mixNodes 52 = .ok (.lreturn, 1) := by decide +kernel
theorem dX5_mixNode_0 : decode cX5_mixNode 0 = .ok (.lload_n 1, 1) := by decide +kernel
theorem dX5_mixNode_1 : decode cX5_mixNode 1 = .ok (.aload_n 3, 1) := by decide +kernel
theorem dX5_mixNode_2 : decode cX5_mixNode 2 = .ok (.getfield 35, 3) := by decide +kernel
theorem dX5_mixNode_5 : decode cX5_mixNode 5 = .ok (.invokestatic 266, 3) := by decide +kernel
theorem dX5_mixNode_8 : decode cX5_mixNode 8 = .ok (.lstore 4, 2) := by decide +kernel
theorem dX5_mixNode_10 : decode cX5_mixNode 10 = .ok (.iconst 0, 1) := by decide +kernel
theorem dX5_mixNode_11 : decode cX5_mixNode 11 = .ok (.istore 6, 2) := by decide +kernel
theorem dX5_mixNode_13 : decode cX5_mixNode 13 = .ok (.iload 6, 2) := by decide +kernel
theorem dX5_mixNode_15 : decode cX5_mixNode 15 = .ok (.bipush 13, 2) := by decide +kernel
theorem dX5_mixNode_17 : decode cX5_mixNode 17 = .ok (.if_icmp .ge 22, 3) := by decide +kernel
theorem dX5_mixNode_20 : decode cX5_mixNode 20 = .ok (.lload 4, 2) := by decide +kernel
theorem dX5_mixNode_22 : decode cX5_mixNode 22 = .ok (.aload_n 3, 1) := by decide +kernel
theorem dX5_mixNode_23 : decode cX5_mixNode 23 = .ok (.iload 6, 2) := by decide +kernel
theorem dX5_mixNode_25 : decode cX5_mixNode 25 = .ok (.invokevirtual 270, 3) := by decide +kernel
theorem dX5_mixNode_28 : decode cX5_mixNode 28 = .ok (.invokestatic 266, 3) := by decide +kernel
theorem dX5_mixNode_31 : decode cX5_mixNode 31 = .ok (.lstore 4, 2) := by decide +kernel
theorem dX5_mixNode_33 : decode cX5_mixNode 33 = .ok (.iinc 6 1, 3) := by decide +kernel
theorem dX5_mixNode_36 : decode cX5_mixNode 36 = .ok (.goto (-23), 3) := by decide +kernel
theorem dX5_mixNode_39 : decode cX5_mixNode 39 = .ok (.iconst 0, 1) := by decide +kernel
theorem dX5_mixNode_40 : decode cX5_mixNode 40 = .ok (.istore 6, 2) := by decide +kernel
theorem dX5_mixNode_42 : decode cX5_mixNode 42 = .ok (.aload_n 3, 1) := by decide +kernel
theorem dX5_mixNode_43 : decode cX5_mixNode 43 = .ok (.getfield 68, 3) := by decide +kernel
theorem dX5_mixNode_46 : decode cX5_mixNode 46 = .ok (.ifCond .ne 36, 3) := by decide +kernel
theorem dX5_mixNode_49 : decode cX5_mixNode 49 = .ok (.iload 6, 2) := by decide +kernel
theorem dX5_mixNode_51 : decode cX5_mixNode 51 = .ok (.bipush 16, 2) := by decide +kernel
theorem dX5_mixNode_53 : decode cX5_mixNode 53 = .ok (.if_icmp .ge 29, 3) := by decide +kernel
theorem dX5_mixNode_56 : decode cX5_mixNode 56 = .ok (.lload 4, 2) := by decide +kernel
theorem dX5_mixNode_58 : decode cX5_mixNode 58 = .ok (.aload_n 0, 1) := by decide +kernel
theorem dX5_mixNode_59 : decode cX5_mixNode 59 = .ok (.aload_n 3, 1) := by decide +kernel
theorem dX5_mixNode_60 : decode cX5_mixNode 60 = .ok (.iload 6, 2) := by decide +kernel
theorem dX5_mixNode_62 : decode cX5_mixNode 62 = .ok (.iconst 4, 1) := by decide +kernel
theorem dX5_mixNode_63 : decode cX5_mixNode 63 = .ok (.idiv, 1) := by decide +kernel
theorem dX5_mixNode_64 : decode cX5_mixNode 64 = .ok (.iload 6, 2) := by decide +kernel
theorem dX5_mixNode_66 : decode cX5_mixNode 66 = .ok (.iconst 4, 1) := by decide +kernel
theorem dX5_mixNode_67 : decode cX5_mixNode 67 = .ok (.irem, 1) := by decide +kernel
theorem dX5_mixNode_68 : decode cX5_mixNode 68 = .ok (.invokevirtual 273, 3) := by decide +kernel
theorem dX5_mixNode_71 : decode cX5_mixNode 71 = .ok (.invokestatic 266, 3) := by decide +kernel
theorem dX5_mixNode_74 : decode cX5_mixNode 74 = .ok (.lstore 4, 2) := by decide +kernel
theorem dX5_mixNode_76 : decode cX5_mixNode 76 = .ok (.iinc 6 1, 3) := by decide +kernel
theorem dX5_mixNode_79 : decode cX5_mixNode 79 = .ok (.goto (-37), 3) := by decide +kernel
theorem dX5_mixNode_82 : decode cX5_mixNode 82 = .ok (.lload 4, 2) := by decide +kernel
theorem dX5_mixNode_84 : decode cX5_mixNode 84 = .ok (.lreturn, 1) := by decide +kernel
theorem dX5_mixCritical_0 : decode cX5_mixCritical 0 = .ok (.lload_n 1, 1) := by decide +kernel
theorem dX5_mixCritical_1 : decode cX5_mixCritical 1 = .ok (.lstore_n 3, 1) := by decide +kernel
theorem dX5_mixCritical_2 : decode cX5_mixCritical 2 = .ok (.aload_n 0, 1) := by decide +kernel
theorem dX5_mixCritical_3 : decode cX5_mixCritical 3 = .ok (.aconst_null, 1) := by decide +kernel
theorem dX5_mixCritical_4 : decode cX5_mixCritical 4 = .ok (.invokevirtual 246, 3) := by decide +kernel
theorem dX5_mixCritical_7 : decode cX5_mixCritical 7 = .ok (.astore 5, 2) := by decide +kernel
theorem dX5_mixCritical_9 : decode cX5_mixCritical 9 = .ok (.iconst 0, 1) := by decide +kernel
theorem dX5_mixCritical_10 : decode cX5_mixCritical 10 = .ok (.istore 6, 2) := by decide +kernel
theorem dX5_mixCritical_12 : decode cX5_mixCritical 12 = .ok (.iload 6, 2) := by decide +kernel
theorem dX5_mixCritical_14 : decode cX5_mixCritical 14 = .ok (.aload_n 0, 1) := by decide +kernel
theorem dX5_mixCritical_15 : decode cX5_mixCritical 15 = .ok (.getfield 20, 3) := by decide +kernel
theorem dX5_mixCritical_18 : decode cX5_mixCritical 18 = .ok (.if_icmp .ge 32, 3) := by decide +kernel
theorem dX5_mixCritical_21 : decode cX5_mixCritical 21 = .ok (.aload 5, 2) := by decide +kernel
theorem dX5_mixCritical_23 : decode cX5_mixCritical 23 = .ok (.ifnull 27, 3) := by decide +kernel
theorem dX5_mixCritical_26 : decode cX5_mixCritical 26 = .ok (.lload_n 3, 1) := by decide +kernel
theorem dX5_mixCritical_27 : decode cX5_mixCritical 27 = .ok (.aload 5, 2) := by decide +kernel
theorem dX5_mixCritical_29 : decode cX5_mixCritical 29 = .ok (.getfield 35, 3) := by decide +kernel
theorem dX5_mixCritical_32 : decode cX5_mixCritical 32 = .ok (.invokestatic 266, 3) := by decide +kernel
theorem dX5_mixCritical_35 : decode cX5_mixCritical 35 = .ok (.lstore_n 3, 1) := by decide +kernel
theorem dX5_mixCritical_36 : decode cX5_mixCritical 36 = .ok (.aload_n 0, 1) := by decide +kernel
theorem dX5_mixCritical_37 : decode cX5_mixCritical 37 = .ok (.aload 5, 2) := by decide +kernel
theorem dX5_mixCritical_39 : decode cX5_mixCritical 39 = .ok (.invokevirtual 246, 3) := by decide +kernel
theorem dX5_mixCritical_42 : decode cX5_mixCritical 42 = .ok (.astore 5, 2) := by decide +kernel
theorem dX5_mixCritical_44 : decode cX5_mixCritical 44 = .ok (.iinc 6 1, 3) := by decide +kernel
theorem dX5_mixCritical_47 : decode cX5_mixCritical 47 = .ok (.goto (-35), 3) := by decide +kernel
theorem dX5_mixCritical_50 : decode cX5_mixCritical 50 = .ok (.lload_n 3, 1) := by decide +kernel
theorem dX5_mixCritical_51 : decode cX5_mixCritical 51 = .ok (.lreturn, 1) := by decide +kernel
theorem dX6_init_0 : decode cX6_init 0 = .ok (.aload_n 0, 1) := by decide +kernel
theorem dX6_init_1 : decode cX6_init 1 = .ok (.invokespecial 1, 3) := by decide +kernel
theorem dX6_init_4 : decode cX6_init 4 = .ok (.aload_n 0, 1) := by decide +kernel
theorem dX6_init_5 : decode cX6_init 5 = .ok (.new 7, 3) := by decide +kernel
theorem dX6_init_8 : decode cX6_init 8 = .ok (.dup, 1) := by decide +kernel
theorem dX6_init_9 : decode cX6_init 9 = .ok (.invokespecial 9, 3) := by decide +kernel
theorem dX6_init_12 : decode cX6_init 12 = .ok (.putfield 10, 3) := by decide +kernel
theorem dX6_init_15 : decode cX6_init 15 = .ok (.aload_n 0, 1) := by decide +kernel
theorem dX6_init_16 : decode cX6_init 16 = .ok (.iconst 4, 1) := by decide +kernel
theorem dX6_init_17 : decode cX6_init 17 = .ok (.anewarray 16, 3) := by decide +kernel
theorem dX6_init_20 : decode cX6_init 20 = .ok (.putfield 18, 3) := by decide +kernel
theorem dX6_init_23 : decode cX6_init 23 = .ok (.aload_n 0, 1) := by decide +kernel
theorem dX6_init_24 : decode cX6_init 24 = .ok (.iconst 0, 1) := by decide +kernel
theorem dX6_init_25 : decode cX6_init 25 = .ok (.putfield 22, 3) := by decide +kernel
theorem dX6_init_28 : decode cX6_init 28 = .ok (.aload_n 0, 1) := by decide +kernel
theorem dX6_init_29 : decode cX6_init 29 = .ok (.new 16, 3) := by decide +kernel
theorem dX6_init_32 : decode cX6_init 32 = .ok (.dup, 1) := by decide +kernel
theorem dX6_init_33 : decode cX6_init 33 = .ok (.invokespecial 26, 3) := by decide +kernel
theorem dX6_init_36 : decode cX6_init 36 = .ok (.putfield 27, 3) := by decide +kernel
theorem dX6_init_39 : decode cX6_init 39 = .ok (.iconst 0, 1) := by decide +kernel
theorem dX6_init_40 : decode cX6_init 40 = .ok (.istore_n 1, 1) := by decide +kernel
theorem dX6_init_41 : decode cX6_init 41 = .ok (.iload_n 1, 1) := by decide +kernel
theorem dX6_init_42 : decode cX6_init 42 = .ok (.aload_n 0, 1) := by decide +kernel
theorem dX6_init_43 : decode cX6_init 43 = .ok (.getfield 18, 3) := by decide +kernel
theorem dX6_init_46 : decode cX6_init 46 = .ok (.arraylength, 1) := by decide +kernel
theorem dX6_init_47 : decode cX6_init 47 = .ok (.if_icmp .ge 22, 3) := by decide +kernel
theorem dX6_init_50 : decode cX6_init 50 = .ok (.aload_n 0, 1) := by decide +kernel
theorem dX6_init_51 : decode cX6_init 51 = .ok (.getfield 18, 3) := by decide +kernel
theorem dX6_init_54 : decode cX6_init 54 = .ok (.iload_n 1, 1) := by decide +kernel
theorem dX6_init_55 : decode cX6_init 55 = .ok (.new 16, 3) := by decide +kernel
theorem dX6_init_58 : decode cX6_init 58 = .ok (.dup, 1) := by decide +kernel
theorem dX6_init_59 : decode cX6_init 59 = .ok (.invokespecial 26, 3) := by decide +kernel
theorem dX6_init_62 : decode cX6_init 62 = .ok (.aastore, 1) := by decide +kernel
theorem dX6_init_63 : decode cX6_init 63 = .ok (.iinc 1 1, 3) := by decide +kernel
theorem dX6_init_66 : decode cX6_init 66 = .ok (.goto (-25), 3) := by decide +kernel
theorem dX6_init_69 : decode cX6_init 69 = .ok (.return_, 1) := by decide +kernel
theorem dX6_addGroup_0 : decode cX6_addGroup 0 = .ok (.aload_n 0, 1) := by decide +kernel
theorem dX6_addGroup_1 : decode cX6_addGroup 1 = .ok (.getstatic 31, 3) := by decide +kernel
theorem dX6_addGroup_4 : decode cX6_addGroup 4 = .ok (.iload_n 1, 1) := by decide +kernel
theorem dX6_addGroup_5 : decode cX6_addGroup 5 = .ok (.iload_n 2, 1) := by decide +kernel
theorem dX6_addGroup_6 : decode cX6_addGroup 6 = .ok (.iconst 0, 1) := by decide +kernel
theorem dX6_addGroup_7 : decode cX6_addGroup 7 = .ok (.invokevirtual 37, 3) := by decide +kernel
theorem dX6_addGroup_10 : decode cX6_addGroup 10 = .ok (.ireturn, 1) := by decide +kernel
theorem dX6_addTask_0 : decode cX6_addTask 0 = .ok (.aload_n 0, 1) := by decide +kernel
theorem dX6_addTask_1 : decode cX6_addTask 1 = .ok (.getstatic 41, 3) := by decide +kernel
theorem dX6_addTask_4 : decode cX6_addTask 4 = .ok (.iload_n 1, 1) := by decide +kernel
theorem dX6_addTask_5 : decode cX6_addTask 5 = .ok (.iload_n 2, 1) := by decide +kernel
theorem dX6_addTask_6 : decode cX6_addTask 6 = .ok (.iload_n 3, 1) := by decide +kernel
theorem dX6_addTask_7 : decode cX6_addTask 7 = .ok (.invokevirtual 37, 3) := by decide +kernel
theorem dX6_addTask_10 : decode cX6_addTask 10 = .ok (.ireturn, 1) := by decide +kernel
theorem dX6_move_0 : decode cX6_move 0 = .ok (.aload_n 0, 1) := by decide +kernel
theorem dX6_move_1 : decode cX6_move 1 = .ok (.getstatic 44, 3) := by decide +kernel
theorem dX6_move_4 : decode cX6_move 4 = .ok (.iload_n 1, 1) := by decide +kernel
theorem dX6_move_5 : decode cX6_move 5 = .ok (.iload_n 2, 1) := by decide +kernel
theorem dX6_move_6 : decode cX6_move 6 = .ok (.iload_n 3, 1) := by decide +kernel
theorem dX6_move_7 : decode cX6_move 7 = .ok (.invokevirtual 37, 3) := by decide +kernel
theorem dX6_move_10 : decode cX6_move 10 = .ok (.ireturn, 1) := by decide +kernel
theorem dX6_remove_0 : decode cX6_remove 0 = .ok (.aload_n 0, 1) := by decide +kernel
theorem dX6_remove_1 : decode cX6_remove 1 = .ok (.getstatic 47, 3) := by decide +kernel
theorem dX6_remove_4 : decode cX6_remove 4 = .ok (.iload_n 1, 1) := by decide +kernel
theorem dX6_remove_5 : decode cX6_remove 5 = .ok (.iconst 0, 1) := by decide +kernel
theorem dX6_remove_6 : decode cX6_remove 6 = .ok (.iconst 0, 1) := by decide +kernel
theorem dX6_remove_7 : decode cX6_remove 7 = .ok (.invokevirtual 37, 3) := by decide +kernel
theorem dX6_remove_10 : decode cX6_remove 10 = .ok (.ireturn, 1) := by decide +kernel
theorem dX6_setDuration_0 : decode cX6_setDuration 0 = .ok (.aload_n 0, 1) := by decide +kernel
theorem dX6_setDuration_1 : decode cX6_setDuration 1 = .ok (.getstatic 50, 3) := by decide +kernel
theorem dX6_setDuration_4 : decode cX6_setDuration 4 = .ok (.iload_n 1, 1) := by decide +kernel
theorem dX6_setDuration_5 : decode cX6_setDuration 5 = .ok (.iload_n 2, 1) := by decide +kernel
theorem dX6_setDuration_6 : decode cX6_setDuration 6 = .ok (.iconst 0, 1) := by decide +kernel
theorem dX6_setDuration_7 : decode cX6_setDuration 7 = .ok (.invokevirtual 37, 3) := by decide +kernel
theorem dX6_setDuration_10 : decode cX6_setDuration 10 = .ok (.ireturn, 1) := by decide +kernel
theorem dX6_borrow_0 : decode cX6_borrow 0 = .ok (.aload_n 0, 1) := by decide +kernel
theorem dX6_borrow_1 : decode cX6_borrow 1 = .ok (.getstatic 53, 3) := by decide +kernel
theorem dX6_borrow_4 : decode cX6_borrow 4 = .ok (.iload_n 1, 1) := by decide +kernel
theorem dX6_borrow_5 : decode cX6_borrow 5 = .ok (.iload_n 2, 1) := by decide +kernel
theorem dX6_borrow_6 : decode cX6_borrow 6 = .ok (.iconst 0, 1) := by decide +kernel
theorem dX6_borrow_7 : decode cX6_borrow 7 = .ok (.invokevirtual 37, 3) := by decide +kernel
theorem dX6_borrow_10 : decode cX6_borrow 10 = .ok (.ireturn, 1) := by decide +kernel
theorem dX6_giveBack_0 : decode cX6_giveBack 0 = .ok (.aload_n 0, 1) := by decide +kernel
theorem dX6_giveBack_1 : decode cX6_giveBack 1 = .ok (.getstatic 56, 3) := by decide +kernel
theorem dX6_giveBack_4 : decode cX6_giveBack 4 = .ok (.iload_n 1, 1) := by decide +kernel
theorem dX6_giveBack_5 : decode cX6_giveBack 5 = .ok (.iload_n 2, 1) := by decide +kernel
theorem dX6_giveBack_6 : decode cX6_giveBack 6 = .ok (.iconst 0, 1) := by decide +kernel
theorem dX6_giveBack_7 : decode cX6_giveBack 7 = .ok (.invokevirtual 37, 3) := by decide +kernel
theorem dX6_giveBack_10 : decode cX6_giveBack 10 = .ok (.ireturn, 1) := by decide +kernel
theorem dX6_setDeadline_0 : decode cX6_setDeadline 0 = .ok (.aload_n 0, 1) := by decide +kernel
theorem dX6_setDeadline_1 : decode cX6_setDeadline 1 = .ok (.getstatic 59, 3) := by decide +kernel
theorem dX6_setDeadline_4 : decode cX6_setDeadline 4 = .ok (.iload_n 1, 1) := by decide +kernel
theorem dX6_setDeadline_5 : decode cX6_setDeadline 5 = .ok (.iconst 0, 1) := by decide +kernel
theorem dX6_setDeadline_6 : decode cX6_setDeadline 6 = .ok (.iconst 0, 1) := by decide +kernel
theorem dX6_setDeadline_7 : decode cX6_setDeadline 7 = .ok (.invokevirtual 37, 3) := by decide +kernel
theorem dX6_setDeadline_10 : decode cX6_setDeadline 10 = .ok (.ireturn, 1) := by decide +kernel
theorem dX6_node_0 : decode cX6_node 0 = .ok (.aload_n 0, 1) := by decide +kernel
theorem dX6_node_1 : decode cX6_node 1 = .ok (.iload_n 1, 1) := by decide +kernel
theorem dX6_node_2 : decode cX6_node 2 = .ok (.invokevirtual 62, 3) := by decide +kernel
theorem dX6_node_5 : decode cX6_node 5 = .ok (.astore_n 3, 1) := by decide +kernel
theorem dX6_node_6 : decode cX6_node 6 = .ok (.iload_n 2, 1) := by decide +kernel
theorem dX6_node_7 : decode cX6_node 7 = .ok (.iconst 0, 1) := by decide +kernel
theorem dX6_node_8 : decode cX6_node 8 = .ok (.bipush 12, 2) := by decide +kernel
theorem dX6_node_10 : decode cX6_node 10 = .ok (.invokestatic 66, 3) := by decide +kernel
theorem dX6_node_13 : decode cX6_node 13 = .ok (.aload_n 3, 1) := by decide +kernel
theorem dX6_node_14 : decode cX6_node 14 = .ok (.iload_n 2, 1) := by decide +kernel
theorem dX6_node_15 : decode cX6_node 15 = .ok (.invokevirtual 70, 3) := by decide +kernel
theorem dX6_node_18 : decode cX6_node 18 = .ok (.ireturn, 1) := by decide +kernel
theorem dX6_row_0 : decode cX6_row 0 = .ok (.aload_n 0, 1) := by decide +kernel
theorem dX6_row_1 : decode cX6_row 1 = .ok (.iload_n 1, 1) := by decide +kernel
theorem dX6_row_2 : decode cX6_row 2 = .ok (.invokevirtual 62, 3) := by decide +kernel
theorem dX6_row_5 : decode cX6_row 5 = .ok (.astore 4, 2) := by decide +kernel
theorem dX6_row_7 : decode cX6_row 7 = .ok (.iload_n 2, 1) := by decide +kernel
theorem dX6_row_8 : decode cX6_row 8 = .ok (.iconst 0, 1) := by decide +kernel
theorem dX6_row_9 : decode cX6_row 9 = .ok (.iconst 3, 1) := by decide +kernel
theorem dX6_row_10 : decode cX6_row 10 = .ok (.invokestatic 66, 3) := by decide +kernel
theorem dX6_row_13 : decode cX6_row 13 = .ok (.iload_n 3, 1) := by decide +kernel
theorem dX6_row_14 : decode cX6_row 14 = .ok (.iconst 0, 1) := by decide +kernel
theorem dX6_row_15 : decode cX6_row 15 = .ok (.iconst 3, 1) := by decide +kernel
theorem dX6_row_16 : decode cX6_row 16 = .ok (.invokestatic 66, 3) := by decide +kernel
theorem dX6_row_19 : decode cX6_row 19 = .ok (.aload 4, 2) := by decide +kernel
theorem dX6_row_21 : decode cX6_row 21 = .ok (.invokestatic 76, 3) := by decide +kernel
theorem dX6_row_24 : decode cX6_row 24 = .ok (.aload_n 0, 1) := by decide +kernel
theorem dX6_row_25 : decode cX6_row 25 = .ok (.getfield 27, 3) := by decide +kernel
theorem dX6_row_28 : decode cX6_row 28 = .ok (.aload 4, 2) := by decide +kernel
theorem dX6_row_30 : decode cX6_row 30 = .ok (.iload_n 2, 1) := by decide +kernel
theorem dX6_row_31 : decode cX6_row 31 = .ok (.iload_n 3, 1) := by decide +kernel
theorem dX6_row_32 : decode cX6_row 32 = .ok (.invokevirtual 80, 3) := by decide +kernel
theorem dX6_row_35 : decode cX6_row 35 = .ok (.ireturn, 1) := by decide +kernel
theorem dX6_child_0 : decode cX6_child 0 = .ok (.aload_n 0, 1) := by decide +kernel
theorem dX6_child_1 : decode cX6_child 1 = .ok (.iload_n 1, 1) := by decide +kernel
theorem dX6_child_2 : decode cX6_child 2 = .ok (.invokevirtual 62, 3) := by decide +kernel
theorem dX6_child_5 : decode cX6_child 5 = .ok (.astore 4, 2) := by decide +kernel
theorem dX6_child_7 : decode cX6_child 7 = .ok (.iload_n 2, 1) := by decide +kernel
theorem dX6_child_8 : decode cX6_child 8 = .ok (.iconst 0, 1) := by decide +kernel
theorem dX6_child_9 : decode cX6_child 9 = .ok (.iconst 3, 1) := by decide +kernel
theorem dX6_child_10 : decode cX6_child 10 = .ok (.invokestatic 66, 3) := by decide +kernel
theorem dX6_child_13 : decode cX6_child 13 = .ok (.iload_n 3, 1) := by decide +kernel
theorem dX6_child_14 : decode cX6_child 14 = .ok (.invokestatic 84, 3) := by decide +kernel
theorem dX6_child_17 : decode cX6_child 17 = .ok (.aload 4, 2) := by decide +kernel
theorem dX6_child_19 : decode cX6_child 19 = .ok (.invokestatic 76, 3) := by decide +kernel
theorem dX6_child_22 : decode cX6_child 22 = .ok (.aload_n 0, 1) := by decide +kernel
theorem dX6_child_23 : decode cX6_child 23 = .ok (.getfield 27, 3) := by decide +kernel
theorem dX6_child_26 : decode cX6_child 26 = .ok (.aload 4, 2) := by decide +kernel
theorem dX6_child_28 : decode cX6_child 28 = .ok (.iload_n 2, 1) := by decide +kernel
theorem dX6_child_29 : decode cX6_child 29 = .ok (.iload_n 3, 1) := by decide +kernel
theorem dX6_child_30 : decode cX6_child 30 = .ok (.invokevirtual 88, 3) := by decide +kernel
theorem dX6_child_33 : decode cX6_child 33 = .ok (.ireturn, 1) := by decide +kernel
theorem dX6_critical_0 : decode cX6_critical 0 = .ok (.iload_n 1, 1) := by decide +kernel
theorem dX6_critical_1 : decode cX6_critical 1 = .ok (.invokestatic 84, 3) := by decide +kernel
theorem dX6_critical_4 : decode cX6_critical 4 = .ok (.aload_n 0, 1) := by decide +kernel
theorem dX6_critical_5 : decode cX6_critical 5 = .ok (.getfield 27, 3) := by decide +kernel
theorem dX6_critical_8 : decode cX6_critical 8 = .ok (.iload_n 1, 1) := by decide +kernel
theorem dX6_critical_9 : decode cX6_critical 9 = .ok (.invokevirtual 91, 3) := by decide +kernel
theorem dX6_critical_12 : decode cX6_critical 12 = .ok (.ireturn, 1) := by decide +kernel
theorem dX6_running_0 : decode cX6_running 0 = .ok (.iload_n 1, 1) := by decide +kernel
theorem dX6_running_1 : decode cX6_running 1 = .ok (.invokestatic 84, 3) := by decide +kernel
theorem dX6_running_4 : decode cX6_running 4 = .ok (.aload_n 0, 1) := by decide +kernel
theorem dX6_running_5 : decode cX6_running 5 = .ok (.getfield 27, 3) := by decide +kernel
theorem dX6_running_8 : decode cX6_running 8 = .ok (.iload_n 1, 1) := by decide +kernel
theorem dX6_running_9 : decode cX6_running 9 = .ok (.invokevirtual 94, 3) := by decide +kernel
theorem dX6_running_12 : decode cX6_running 12 = .ok (.ireturn, 1) := by decide +kernel
theorem dX6_whole_0 : decode cX6_whole 0 = .ok (.iload_n 1, 1) := by decide +kernel
theorem dX6_whole_1 : decode cX6_whole 1 = .ok (.iconst 0, 1) := by decide +kernel
theorem dX6_whole_2 : decode cX6_whole 2 = .ok (.bipush 11, 2) := by decide +kernel
theorem dX6_whole_4 : decode cX6_whole 4 = .ok (.invokestatic 66, 3) := by decide +kernel
theorem dX6_whole_7 : decode cX6_whole 7 = .ok (.aload_n 0, 1) := by decide +kernel
theorem dX6_whole_8 : decode cX6_whole 8 = .ok (.iload_n 1, 1) := by decide +kernel
theorem dX6_whole_9 : decode cX6_whole 9 = .ok (.invokevirtual 97, 3) := by decide +kernel
theorem dX6_whole_12 : decode cX6_whole 12 = .ok (.ireturn, 1) := by decide +kernel
theorem dX6_endWith_0 : decode cX6_endWith 0 = .ok (.aload_n 0, 1) := by decide +kernel
theorem dX6_endWith_1 : decode cX6_endWith 1 = .ok (.iload_n 1, 1) := by decide +kernel
theorem dX6_endWith_2 : decode cX6_endWith 2 = .ok (.invokevirtual 62, 3) := by decide +kernel
theorem dX6_endWith_5 : decode cX6_endWith 5 = .ok (.astore_n 3, 1) := by decide +kernel
theorem dX6_endWith_6 : decode cX6_endWith 6 = .ok (.iload_n 2, 1) := by decide +kernel
theorem dX6_endWith_7 : decode cX6_endWith 7 = .ok (.iconst 0, 1) := by decide +kernel
theorem dX6_endWith_8 : decode cX6_endWith 8 = .ok (.bipush 60, 2) := by decide +kernel
theorem dX6_endWith_10 : decode cX6_endWith 10 = .ok (.invokestatic 66, 3) := by decide +kernel
theorem dX6_endWith_13 : decode cX6_endWith 13 = .ok (.aload_n 3, 1) := by decide +kernel
theorem dX6_endWith_14 : decode cX6_endWith 14 = .ok (.invokestatic 100, 3) := by decide +kernel
theorem dX6_endWith_17 : decode cX6_endWith 17 = .ok (.aload_n 3, 1) := by decide +kernel
theorem dX6_endWith_18 : decode cX6_endWith 18 = .ok (.aload_n 3, 1) := by decide +kernel
theorem dX6_endWith_19 : decode cX6_endWith 19 = .ok (.iload_n 2, 1) := by decide +kernel
theorem dX6_endWith_20 : decode cX6_endWith 20 = .ok (.invokevirtual 103, 3) := by decide +kernel
theorem dX6_endWith_23 : decode cX6_endWith 23 = .ok (.invokevirtual 106, 3) := by decide +kernel
theorem dX6_endWith_26 : decode cX6_endWith 26 = .ok (.ireturn, 1) := by decide +kernel
theorem dX6_growsTo_0 : decode cX6_growsTo 0 = .ok (.aload_n 0, 1) := by decide +kernel
theorem dX6_growsTo_1 : decode cX6_growsTo 1 = .ok (.iload_n 1, 1) := by decide +kernel
theorem dX6_growsTo_2 : decode cX6_growsTo 2 = .ok (.invokevirtual 62, 3) := by decide +kernel
theorem dX6_growsTo_5 : decode cX6_growsTo 5 = .ok (.astore_n 2, 1) := by decide +kernel
theorem dX6_growsTo_6 : decode cX6_growsTo 6 = .ok (.aload_n 2, 1) := by decide +kernel
theorem dX6_growsTo_7 : decode cX6_growsTo 7 = .ok (.invokestatic 100, 3) := by decide +kernel
theorem dX6_growsTo_10 : decode cX6_growsTo 10 = .ok (.aload_n 0, 1) := by decide +kernel
theorem dX6_growsTo_11 : decode cX6_growsTo 11 = .ok (.getfield 27, 3) := by decide +kernel
theorem dX6_growsTo_14 : decode cX6_growsTo 14 = .ok (.aload_n 2, 1) := by decide +kernel
theorem dX6_growsTo_15 : decode cX6_growsTo 15 = .ok (.invokevirtual 109, 3) := by decide +kernel
theorem dX6_growsTo_18 : decode cX6_growsTo 18 = .ok (.ireturn, 1) := by decide +kernel
theorem dX6_bestCut_0 : decode cX6_bestCut 0 = .ok (.aload_n 0, 1) := by decide +kernel
theorem dX6_bestCut_1 : decode cX6_bestCut 1 = .ok (.getfield 27, 3) := by decide +kernel
theorem dX6_bestCut_4 : decode cX6_bestCut 4 = .ok (.invokevirtual 113, 3) := by decide +kernel
theorem dX6_bestCut_7 : decode cX6_bestCut 7 = .ok (.ireturn, 1) := by decide +kernel
theorem dX6_slackIf_0 : decode cX6_slackIf 0 = .ok (.aload_n 0, 1) := by decide +kernel
theorem dX6_slackIf_1 : decode cX6_slackIf 1 = .ok (.iload_n 1, 1) := by decide +kernel
theorem dX6_slackIf_2 : decode cX6_slackIf 2 = .ok (.invokevirtual 62, 3) := by decide +kernel
theorem dX6_slackIf_5 : decode cX6_slackIf 5 = .ok (.astore_n 3, 1) := by decide +kernel
theorem dX6_slackIf_6 : decode cX6_slackIf 6 = .ok (.aload_n 0, 1) := by decide +kernel
theorem dX6_slackIf_7 : decode cX6_slackIf 7 = .ok (.iload_n 2, 1) := by decide +kernel
theorem dX6_slackIf_8 : decode cX6_slackIf 8 = .ok (.invokevirtual 62, 3) := by decide +kernel
theorem dX6_slackIf_11 : decode cX6_slackIf 11 = .ok (.astore 4, 2) := by decide +kernel
theorem dX6_slackIf_13 : decode cX6_slackIf 13 = .ok (.aload 4, 2) := by decide +kernel
theorem dX6_slackIf_15 : decode cX6_slackIf 15 = .ok (.invokestatic 100, 3) := by decide +kernel
theorem dX6_slackIf_18 : decode cX6_slackIf 18 = .ok (.aload_n 0, 1) := by decide +kernel
theorem dX6_slackIf_19 : decode cX6_slackIf 19 = .ok (.getfield 27, 3) := by decide +kernel
theorem dX6_slackIf_22 : decode cX6_slackIf 22 = .ok (.aload_n 3, 1) := by decide +kernel
theorem dX6_slackIf_23 : decode cX6_slackIf 23 = .ok (.aload 4, 2) := by decide +kernel
theorem dX6_slackIf_25 : decode cX6_slackIf 25 = .ok (.invokevirtual 117, 3) := by decide +kernel
theorem dX6_slackIf_28 : decode cX6_slackIf 28 = .ok (.ireturn, 1) := by decide +kernel
theorem dX6_reason_0 : decode cX6_reason 0 = .ok (.aload_n 0, 1) := by decide +kernel
theorem dX6_reason_1 : decode cX6_reason 1 = .ok (.iload_n 1, 1) := by decide +kernel
theorem dX6_reason_2 : decode cX6_reason 2 = .ok (.invokevirtual 62, 3) := by decide +kernel
theorem dX6_reason_5 : decode cX6_reason 5 = .ok (.aload_n 0, 1) := by decide +kernel
theorem dX6_reason_6 : decode cX6_reason 6 = .ok (.iload_n 2, 1) := by decide +kernel
theorem dX6_reason_7 : decode cX6_reason 7 = .ok (.invokevirtual 62, 3) := by decide +kernel
theorem dX6_reason_10 : decode cX6_reason 10 = .ok (.invokevirtual 121, 3) := by decide +kernel
theorem dX6_reason_13 : decode cX6_reason 13 = .ok (.ireturn, 1) := by decide +kernel
theorem dX6_type_0 : decode cX6_type 0 = .ok (.iload_n 1, 1) := by decide +kernel
theorem dX6_type_1 : decode cX6_type 1 = .ok (.iconst 0, 1) := by decide +kernel
theorem dX6_type_2 : decode cX6_type 2 = .ok (.bipush 127, 2) := by decide +kernel
theorem dX6_type_4 : decode cX6_type 4 = .ok (.invokestatic 66, 3) := by decide +kernel
theorem dX6_type_7 : decode cX6_type 7 = .ok (.aload_n 0, 1) := by decide +kernel
theorem dX6_type_8 : decode cX6_type 8 = .ok (.getfield 10, 3) := by decide +kernel
theorem dX6_type_11 : decode cX6_type 11 = .ok (.iload_n 1, 1) := by decide +kernel
theorem dX6_type_12 : decode cX6_type 12 = .ok (.invokevirtual 124, 3) := by decide +kernel
theorem dX6_type_15 : decode cX6_type 15 = .ok (.ifCond .ne 13, 3) := by decide +kernel
theorem dX6_type_18 : decode cX6_type 18 = .ok (.new 128, 3) := by decide +kernel
theorem dX6_type_21 : decode cX6_type 21 = .ok (.dup, 1) := by decide +kernel
theorem dX6_type_22 : decode cX6_type 22 = .ok (.ldc 130, 2) := by decide +kernel
theorem dX6_type_24 : decode cX6_type 24 = .ok (.invokespecial 132, 3) := by decide +kernel
theorem dX6_type_27 : decode cX6_type 27 = .ok (.athrow, 1) := by decide +kernel
theorem dX6_type_28 : decode cX6_type 28 = .ok (.aload_n 0, 1) := by decide +kernel
theorem dX6_type_29 : decode cX6_type 29 = .ok (.getfield 10, 3) := by decide +kernel
theorem dX6_type_32 : decode cX6_type 32 = .ok (.getfield 135, 3) := by decide +kernel
theorem dX6_type_35 : decode cX6_type 35 = .ok (.ireturn, 1) := by decide +kernel
theorem dX6_clearCommands_0 : decode cX6_clearCommands 0 = .ok (.aload_n 0, 1) := by decide +kernel
theorem dX6_clearCommands_1 : decode cX6_clearCommands 1 = .ok (.getfield 10, 3) := by decide +kernel
theorem dX6_clearCommands_4 : decode cX6_clearCommands 4 = .ok (.getfield 135, 3) := by decide +kernel
theorem dX6_clearCommands_7 : decode cX6_clearCommands 7 = .ok (.istore_n 1, 1) := by decide +kernel
theorem dX6_clearCommands_8 : decode cX6_clearCommands 8 = .ok (.aload_n 0, 1) := by decide +kernel
theorem dX6_clearCommands_9 : decode cX6_clearCommands 9 = .ok (.getfield 10, 3) := by decide +kernel
theorem dX6_clearCommands_12 : decode cX6_clearCommands 12 = .ok (.iconst 0, 1) := by decide +kernel
theorem dX6_clearCommands_13 : decode cX6_clearCommands 13 = .ok (.putfield 135, 3) := by decide +kernel
theorem dX6_clearCommands_16 : decode cX6_clearCommands 16 = .ok (.iload_n 1, 1) := by decide +kernel
theorem dX6_clearCommands_17 : decode cX6_clearCommands 17 = .ok (.ireturn, 1) := by decide +kernel
theorem dX6_runCommands_0 : decode cX6_runCommands 0 = .ok (.aload_n 0, 1) := by decide +kernel
theorem dX6_runCommands_1 : decode cX6_runCommands 1 = .ok (.getfield 10, 3) := by decide +kernel
theorem dX6_runCommands_4 : decode cX6_runCommands 4 = .ok (.invokevirtual 138, 3) := by decide +kernel
theorem dX6_runCommands_7 : decode cX6_runCommands 7 = .ok (.istore_n 1, 1) := by decide +kernel
theorem dX6_runCommands_8 : decode cX6_runCommands 8 = .ok (.iload_n 1, 1) := by decide +kernel
theorem dX6_runCommands_9 : decode cX6_runCommands 9 = .ok (.iconst (-1), 1) := by decide +kernel
theorem dX6_runCommands_10 : decode cX6_runCommands 10 = .ok (.if_icmp .eq 8, 3) := by decide +kernel
theorem dX6_runCommands_13 : decode cX6_runCommands 13 = .ok (.bipush (-10), 2) := by decide +kernel
theorem dX6_runCommands_15 : decode cX6_runCommands 15 = .ok (.iload_n 1, 1) := by decide +kernel
theorem dX6_runCommands_16 : decode cX6_runCommands 16 = .ok (.isub, 1) := by decide +kernel
theorem dX6_runCommands_17 : decode cX6_runCommands 17 = .ok (.ireturn, 1) := by decide +kernel
theorem dX6_runCommands_18 : decode cX6_runCommands 18 = .ok (.aload_n 0, 1) := by decide +kernel
theorem dX6_runCommands_19 : decode cX6_runCommands 19 = .ok (.invokevirtual 141, 3) := by decide +kernel
theorem dX6_runCommands_22 : decode cX6_runCommands 22 = .ok (.aload_n 0, 1) := by decide +kernel
theorem dX6_runCommands_23 : decode cX6_runCommands 23 = .ok (.invokevirtual 144, 3) := by decide +kernel
theorem dX6_runCommands_26 : decode cX6_runCommands 26 = .ok (.ireturn, 1) := by decide +kernel
theorem dX6_undo_0 : decode cX6_undo 0 = .ok (.aload_n 0, 1) := by decide +kernel
theorem dX6_undo_1 : decode cX6_undo 1 = .ok (.getfield 22, 3) := by decide +kernel
theorem dX6_undo_4 : decode cX6_undo 4 = .ok (.iconst 1, 1) := by decide +kernel
theorem dX6_undo_5 : decode cX6_undo 5 = .ok (.isub, 1) := by decide +kernel
theorem dX6_undo_6 : decode cX6_undo 6 = .ok (.istore_n 1, 1) := by decide +kernel
theorem dX6_undo_7 : decode cX6_undo 7 = .ok (.iload_n 1, 1) := by decide +kernel
theorem dX6_undo_8 : decode cX6_undo 8 = .ok (.ifCond .lt 12, 3) := by decide +kernel
theorem dX6_undo_11 : decode cX6_undo 11 = .ok (.iload_n 1, 1) := by decide +kernel
theorem dX6_undo_12 : decode cX6_undo 12 = .ok (.aload_n 0, 1) := by decide +kernel
theorem dX6_undo_13 : decode cX6_undo 13 = .ok (.getfield 18, 3) := by decide +kernel
theorem dX6_undo_16 : decode cX6_undo 16 = .ok (.arraylength, 1) := by decide +kernel
theorem dX6_undo_17 : decode cX6_undo 17 = .ok (.if_icmp .lt 13, 3) := by decide +kernel
theorem dX6_undo_20 : decode cX6_undo 20 = .ok (.new 128, 3) := by decide +kernel
theorem dX6_undo_23 : decode cX6_undo 23 = .ok (.dup, 1) := by decide +kernel
theorem dX6_undo_24 : decode cX6_undo 24 = .ok (.ldc 147, 2) := by decide +kernel
theorem dX6_undo_26 : decode cX6_undo 26 = .ok (.invokespecial 132, 3) := by decide +kernel
theorem dX6_undo_29 : decode cX6_undo 29 = .ok (.athrow, 1) := by decide +kernel
theorem dX6_undo_30 : decode cX6_undo 30 = .ok (.aload_n 0, 1) := by decide +kernel
theorem dX6_undo_31 : decode cX6_undo 31 = .ok (.getfield 18, 3) := by decide +kernel
theorem dX6_undo_34 : decode cX6_undo 34 = .ok (.iload_n 1, 1) := by decide +kernel
theorem dX6_undo_35 : decode cX6_undo 35 = .ok (.aaload, 1) := by decide +kernel
theorem dX6_undo_36 : decode cX6_undo 36 = .ok (.astore_n 2, 1) := by decide +kernel
theorem dX6_undo_37 : decode cX6_undo 37 = .ok (.aload_n 0, 1) := by decide +kernel
theorem dX6_undo_38 : decode cX6_undo 38 = .ok (.getfield 18, 3) := by decide +kernel
theorem dX6_undo_41 : decode cX6_undo 41 = .ok (.iload_n 1, 1) := by decide +kernel
theorem dX6_undo_42 : decode cX6_undo 42 = .ok (.aload_n 0, 1) := by decide +kernel
theorem dX6_undo_43 : decode cX6_undo 43 = .ok (.getfield 27, 3) := by decide +kernel
theorem dX6_undo_46 : decode cX6_undo 46 = .ok (.aastore, 1) := by decide +kernel
theorem dX6_undo_47 : decode cX6_undo 47 = .ok (.aload_n 0, 1) := by decide +kernel
theorem dX6_undo_48 : decode cX6_undo 48 = .ok (.aload_n 2, 1) := by decide +kernel
theorem dX6_undo_49 : decode cX6_undo 49 = .ok (.putfield 27, 3) := by decide +kernel
theorem dX6_undo_52 : decode cX6_undo 52 = .ok (.aload_n 0, 1) := by decide +kernel
theorem dX6_undo_53 : decode cX6_undo 53 = .ok (.iload_n 1, 1) := by decide +kernel
theorem dX6_undo_54 : decode cX6_undo 54 = .ok (.putfield 22, 3) := by decide +kernel
theorem dX6_undo_57 : decode cX6_undo 57 = .ok (.aload_n 0, 1) := by decide +kernel
theorem dX6_undo_58 : decode cX6_undo 58 = .ok (.getfield 27, 3) := by decide +kernel
theorem dX6_undo_61 : decode cX6_undo 61 = .ok (.invokevirtual 149, 3) := by decide +kernel
theorem dX6_undo_64 : decode cX6_undo 64 = .ok (.aload_n 0, 1) := by decide +kernel
theorem dX6_undo_65 : decode cX6_undo 65 = .ok (.getfield 22, 3) := by decide +kernel
theorem dX6_undo_68 : decode cX6_undo 68 = .ok (.ireturn, 1) := by decide +kernel
theorem dX6_digest_0 : decode cX6_digest 0 = .ok (.ldc2_w 152, 3) := by decide +kernel
theorem dX6_digest_3 : decode cX6_digest 3 = .ok (.aload_n 0, 1) := by decide +kernel
theorem dX6_digest_4 : decode cX6_digest 4 = .ok (.getfield 22, 3) := by decide +kernel
theorem dX6_digest_7 : decode cX6_digest 7 = .ok (.invokestatic 154, 3) := by decide +kernel
theorem dX6_digest_10 : decode cX6_digest 10 = .ok (.lstore_n 1, 1) := by decide +kernel
theorem dX6_digest_11 : decode cX6_digest 11 = .ok (.iconst 0, 1) := by decide +kernel
theorem dX6_digest_12 : decode cX6_digest 12 = .ok (.istore_n 3, 1) := by decide +kernel
theorem dX6_digest_13 : decode cX6_digest 13 = .ok (.iload_n 3, 1) := by decide +kernel
theorem dX6_digest_14 : decode cX6_digest 14 = .ok (.bipush 12, 2) := by decide +kernel
theorem dX6_digest_16 : decode cX6_digest 16 = .ok (.if_icmp .ge 19, 3) := by decide +kernel
theorem dX6_digest_19 : decode cX6_digest 19 = .ok (.lload_n 1, 1) := by decide +kernel
theorem dX6_digest_20 : decode cX6_digest 20 = .ok (.aload_n 0, 1) := by decide +kernel
theorem dX6_digest_21 : decode cX6_digest 21 = .ok (.iload_n 3, 1) := by decide +kernel
theorem dX6_digest_22 : decode cX6_digest 22 = .ok (.invokevirtual 97, 3) := by decide +kernel
theorem dX6_digest_25 : decode cX6_digest 25 = .ok (.invokestatic 154, 3) := by decide +kernel
theorem dX6_digest_28 : decode cX6_digest 28 = .ok (.lstore_n 1, 1) := by decide +kernel
theorem dX6_digest_29 : decode cX6_digest 29 = .ok (.iinc 3 1, 3) := by decide +kernel
theorem dX6_digest_32 : decode cX6_digest 32 = .ok (.goto (-19), 3) := by decide +kernel
theorem dX6_digest_35 : decode cX6_digest 35 = .ok (.aload_n 0, 1) := by decide +kernel
theorem dX6_digest_36 : decode cX6_digest 36 = .ok (.getfield 27, 3) := by decide +kernel
theorem dX6_digest_39 : decode cX6_digest 39 = .ok (.lload_n 1, 1) := by decide +kernel
theorem dX6_digest_40 : decode cX6_digest 40 = .ok (.invokevirtual 158, 3) := by decide +kernel
theorem dX6_digest_43 : decode cX6_digest 43 = .ok (.lstore_n 1, 1) := by decide +kernel
theorem dX6_digest_44 : decode cX6_digest 44 = .ok (.aload_n 0, 1) := by decide +kernel
theorem dX6_digest_45 : decode cX6_digest 45 = .ok (.getfield 27, 3) := by decide +kernel
theorem dX6_digest_48 : decode cX6_digest 48 = .ok (.lload_n 1, 1) := by decide +kernel
theorem dX6_digest_49 : decode cX6_digest 49 = .ok (.invokevirtual 162, 3) := by decide +kernel
theorem dX6_digest_52 : decode cX6_digest 52 = .ok (.lstore_n 1, 1) := by decide +kernel
theorem dX6_digest_53 : decode cX6_digest 53 = .ok (.lload_n 1, 1) := by decide +kernel
theorem dX6_digest_54 : decode cX6_digest 54 = .ok (.aload_n 0, 1) := by decide +kernel
theorem dX6_digest_55 : decode cX6_digest 55 = .ok (.getfield 27, 3) := by decide +kernel
theorem dX6_digest_58 : decode cX6_digest 58 = .ok (.invokevirtual 113, 3) := by decide +kernel
theorem dX6_digest_61 : decode cX6_digest 61 = .ok (.invokestatic 154, 3) := by decide +kernel
theorem dX6_digest_64 : decode cX6_digest 64 = .ok (.lreturn, 1) := by decide +kernel
theorem dX6_mix_0 : decode cX6_mix 0 = .ok (.ldc2_w 165, 3) := by decide +kernel
theorem dX6_mix_3 : decode cX6_mix 3 = .ok (.lload_n 0, 1) := by decide +kernel
theorem dX6_mix_4 : decode cX6_mix 4 = .ok (.lmul, 1) := by decide +kernel
theorem dX6_mix_5 : decode cX6_mix 5 = .ok (.iload_n 2, 1) := by decide +kernel
theorem dX6_mix_6 : decode cX6_mix 6 = .ok (.i2l, 1) := by decide +kernel
theorem dX6_mix_7 : decode cX6_mix 7 = .ok (.ladd, 1) := by decide +kernel
theorem dX6_mix_8 : decode cX6_mix 8 = .ok (.lreturn, 1) := by decide +kernel
theorem dX6_isBetween_0 : decode cX6_isBetween 0 = .ok (.iload_n 0, 1) := by decide +kernel
theorem dX6_isBetween_1 : decode cX6_isBetween 1 = .ok (.iload_n 1, 1) := by decide +kernel
theorem dX6_isBetween_2 : decode cX6_isBetween 2 = .ok (.if_icmp .lt 12, 3) := by decide +kernel
theorem dX6_isBetween_5 : decode cX6_isBetween 5 = .ok (.iload_n 0, 1) := by decide +kernel
theorem dX6_isBetween_6 : decode cX6_isBetween 6 = .ok (.iload_n 2, 1) := by decide +kernel
theorem dX6_isBetween_7 : decode cX6_isBetween 7 = .ok (.if_icmp .gt 7, 3) := by decide +kernel
theorem dX6_isBetween_10 : decode cX6_isBetween 10 = .ok (.iconst 1, 1) := by decide +kernel
theorem dX6_isBetween_11 : decode cX6_isBetween 11 = .ok (.goto 4, 3) := by decide +kernel
theorem dX6_isBetween_14 : decode cX6_isBetween 14 = .ok (.iconst 0, 1) := by decide +kernel
theorem dX6_isBetween_15 : decode cX6_isBetween 15 = .ok (.ireturn, 1) := by decide +kernel
theorem dX6_existing_0 : decode cX6_existing 0 = .ok (.aload_n 0, 1) := by decide +kernel
theorem dX6_existing_1 : decode cX6_existing 1 = .ok (.getfield 27, 3) := by decide +kernel
theorem dX6_existing_4 : decode cX6_existing 4 = .ok (.iload_n 1, 1) := by decide +kernel
theorem dX6_existing_5 : decode cX6_existing 5 = .ok (.invokevirtual 167, 3) := by decide +kernel
theorem dX6_existing_8 : decode cX6_existing 8 = .ok (.astore_n 2, 1) := by decide +kernel
theorem dX6_existing_9 : decode cX6_existing 9 = .ok (.aload_n 2, 1) := by decide +kernel
theorem dX6_existing_10 : decode cX6_existing 10 = .ok (.ifnonnull 13, 3) := by decide +kernel
theorem dX6_existing_13 : decode cX6_existing 13 = .ok (.new 170, 3) := by decide +kernel
theorem dX6_existing_16 : decode cX6_existing 16 = .ok (.dup, 1) := by decide +kernel
theorem dX6_existing_17 : decode cX6_existing 17 = .ok (.ldc 172, 2) := by decide +kernel
theorem dX6_existing_19 : decode cX6_existing 19 = .ok (.invokespecial 174, 3) := by decide +kernel
theorem dX6_existing_22 : decode cX6_existing 22 = .ok (.athrow, 1) := by decide +kernel
theorem dX6_existing_23 : decode cX6_existing 23 = .ok (.aload_n 2, 1) := by decide +kernel
theorem dX6_existing_24 : decode cX6_existing 24 = .ok (.areturn, 1) := by decide +kernel
theorem dX6_requireRange_0 : decode cX6_requireRange 0 = .ok (.iload_n 0, 1) := by decide +kernel
theorem dX6_requireRange_1 : decode cX6_requireRange 1 = .ok (.iload_n 1, 1) := by decide +kernel
theorem dX6_requireRange_2 : decode cX6_requireRange 2 = .ok (.iload_n 2, 1) := by decide +kernel
theorem dX6_requireRange_3 : decode cX6_requireRange 3 = .ok (.invokestatic 175, 3) := by decide +kernel
theorem dX6_requireRange_6 : decode cX6_requireRange 6 = .ok (.ifCond .ne 13, 3) := by decide +kernel
theorem dX6_requireRange_9 : decode cX6_requireRange 9 = .ok (.new 179, 3) := by decide +kernel
theorem dX6_requireRange_12 : decode cX6_requireRange 12 = .ok (.dup, 1) := by decide +kernel
theorem dX6_requireRange_13 : decode cX6_requireRange 13 = .ok (.ldc 181, 2) := by decide +kernel
theorem dX6_requireRange_15 : decode cX6_requireRange 15 = .ok (.invokespecial 183, 3) := by decide +kernel
theorem dX6_requireRange_18 : decode cX6_requireRange 18 = .ok (.athrow, 1) := by decide +kernel
theorem dX6_requireRange_19 : decode cX6_requireRange 19 = .ok (.return_, 1) := by decide +kernel
theorem dX6_requireNotNegative_0 : decode cX6_requireNotNegative 0 = .ok (.iload_n 0, 1) := by decide +kernel
theorem dX6_requireNotNegative_1 : decode cX6_requireNotNegative 1 = .ok (.ifCond .ge 13, 3) := by decide +kernel
theorem dX6_requireNotNegative_4 : decode cX6_requireNotNegative 4 = .ok (.new 179, 3) := by decide +kernel
theorem dX6_requireNotNegative_7 : decode cX6_requireNotNegative 7 = .ok (.dup, 1) := by decide +kernel
theorem dX6_requireNotNegative_8 : decode cX6_requireNotNegative 8 = .ok (.ldc 184, 2) := by decide +kernel
theorem dX6_requireNotNegative_10 : decode cX6_requireNotNegative 10 = .ok (.invokespecial 183, 3) := by decide +kernel
theorem dX6_requireNotNegative_13 : decode cX6_requireNotNegative 13 = .ok (.athrow, 1) := by decide +kernel
theorem dX6_requireNotNegative_14 : decode cX6_requireNotNegative 14 = .ok (.return_, 1) := by decide +kernel
theorem dX6_requireGroup_0 : decode cX6_requireGroup 0 = .ok (.aload_n 0, 1) := by decide +kernel
theorem dX6_requireGroup_1 : decode cX6_requireGroup 1 = .ok (.getfield 186, 3) := by decide +kernel
theorem dX6_requireGroup_4 : decode cX6_requireGroup 4 = .ok (.ifCond .eq 13, 3) := by decide +kernel
theorem dX6_requireGroup_7 : decode cX6_requireGroup 7 = .ok (.new 128, 3) := by decide +kernel
theorem dX6_requireGroup_10 : decode cX6_requireGroup 10 = .ok (.dup, 1) := by decide +kernel
theorem dX6_requireGroup_11 : decode cX6_requireGroup 11 = .ok (.ldc 190, 2) := by decide +kernel
theorem dX6_requireGroup_13 : decode cX6_requireGroup 13 = .ok (.invokespecial 132, 3) := by decide +kernel
theorem dX6_requireGroup_16 : decode cX6_requireGroup 16 = .ok (.athrow, 1) := by decide +kernel
theorem dX6_requireGroup_17 : decode cX6_requireGroup 17 = .ok (.return_, 1) := by decide +kernel
theorem dX6_requireTask_0 : decode cX6_requireTask 0 = .ok (.aload_n 0, 1) := by decide +kernel
theorem dX6_requireTask_1 : decode cX6_requireTask 1 = .ok (.getfield 186, 3) := by decide +kernel
theorem dX6_requireTask_4 : decode cX6_requireTask 4 = .ok (.ifCond .ne 13, 3) := by decide +kernel
theorem dX6_requireTask_7 : decode cX6_requireTask 7 = .ok (.new 128, 3) := by decide +kernel
theorem dX6_requireTask_10 : decode cX6_requireTask 10 = .ok (.dup, 1) := by decide +kernel
theorem dX6_requireTask_11 : decode cX6_requireTask 11 = .ok (.ldc 192, 2) := by decide +kernel
theorem dX6_requireTask_13 : decode cX6_requireTask 13 = .ok (.invokespecial 132, 3) := by decide +kernel
theorem dX6_requireTask_16 : decode cX6_requireTask 16 = .ok (.athrow, 1) := by decide +kernel
theorem dX6_requireTask_17 : decode cX6_requireTask 17 = .ok (.return_, 1) := by decide +kernel
theorem dX6_requireAllowed_0 : decode cX6_requireAllowed 0 = .ok (.aload_n 0, 1) := by decide +kernel
theorem dX6_requireAllowed_1 : decode cX6_requireAllowed 1 = .ok (.getstatic 194, 3) := by decide +kernel
theorem dX6_requireAllowed_4 : decode cX6_requireAllowed 4 = .ok (.if_acmp .ne 13, 3) := by decide +kernel
theorem dX6_requireAllowed_7 : decode cX6_requireAllowed 7 = .ok (.new 170, 3) := by decide +kernel
theorem dX6_requireAllowed_10 : decode cX6_requireAllowed 10 = .ok (.dup, 1) := by decide +kernel
theorem dX6_requireAllowed_11 : decode cX6_requireAllowed 11 = .ok (.ldc 172, 2) := by decide +kernel
theorem dX6_requireAllowed_13 : decode cX6_requireAllowed 13 = .ok (.invokespecial 174, 3) := by decide +kernel
theorem dX6_requireAllowed_16 : decode cX6_requireAllowed 16 = .ok (.athrow, 1) := by decide +kernel
theorem dX6_requireAllowed_17 : decode cX6_requireAllowed 17 = .ok (.aload_n 0, 1) := by decide +kernel
theorem dX6_requireAllowed_18 : decode cX6_requireAllowed 18 = .ok (.getstatic 200, 3) := by decide +kernel
theorem dX6_requireAllowed_21 : decode cX6_requireAllowed 21 = .ok (.if_acmp .ne 13, 3) := by decide +kernel
theorem dX6_requireAllowed_24 : decode cX6_requireAllowed 24 = .ok (.new 179, 3) := by decide +kernel
theorem dX6_requireAllowed_27 : decode cX6_requireAllowed 27 = .ok (.dup, 1) := by decide +kernel
theorem dX6_requireAllowed_28 : decode cX6_requireAllowed 28 = .ok (.ldc 181, 2) := by decide +kernel
theorem dX6_requireAllowed_30 : decode cX6_requireAllowed 30 = .ok (.invokespecial 183, 3) := by decide +kernel
theorem dX6_requireAllowed_33 : decode cX6_requireAllowed 33 = .ok (.athrow, 1) := by decide +kernel
theorem dX6_requireAllowed_34 : decode cX6_requireAllowed 34 = .ok (.aload_n 0, 1) := by decide +kernel
theorem dX6_requireAllowed_35 : decode cX6_requireAllowed 35 = .ok (.getstatic 203, 3) := by decide +kernel
theorem dX6_requireAllowed_38 : decode cX6_requireAllowed 38 = .ok (.if_acmp .ne 13, 3) := by decide +kernel
theorem dX6_requireAllowed_41 : decode cX6_requireAllowed 41 = .ok (.new 128, 3) := by decide +kernel
theorem dX6_requireAllowed_44 : decode cX6_requireAllowed 44 = .ok (.dup, 1) := by decide +kernel
theorem dX6_requireAllowed_45 : decode cX6_requireAllowed 45 = .ok (.ldc 206, 2) := by decide +kernel
theorem dX6_requireAllowed_47 : decode cX6_requireAllowed 47 = .ok (.invokespecial 132, 3) := by decide +kernel
theorem dX6_requireAllowed_50 : decode cX6_requireAllowed 50 = .ok (.athrow, 1) := by decide +kernel
theorem dX6_requireAllowed_51 : decode cX6_requireAllowed 51 = .ok (.return_, 1) := by decide +kernel
theorem dX6_change_0 : decode cX6_change 0 = .ok (.aload_n 0, 1) := by decide +kernel
theorem dX6_change_1 : decode cX6_change 1 = .ok (.getfield 27, 3) := by decide +kernel
theorem dX6_change_4 : decode cX6_change 4 = .ok (.aload_n 1, 1) := by decide +kernel
theorem dX6_change_5 : decode cX6_change 5 = .ok (.iload_n 2, 1) := by decide +kernel
theorem dX6_change_6 : decode cX6_change 6 = .ok (.iload_n 3, 1) := by decide +kernel
theorem dX6_change_7 : decode cX6_change 7 = .ok (.iload 4, 2) := by decide +kernel
theorem dX6_change_9 : decode cX6_change 9 = .ok (.invokevirtual 208, 3) := by decide +kernel
theorem dX6_change_12 : decode cX6_change 12 = .ok (.invokestatic 212, 3) := by decide +kernel
theorem dX6_change_15 : decode cX6_change 15 = .ok (.aload_n 0, 1) := by decide +kernel
theorem dX6_change_16 : decode cX6_change 16 = .ok (.invokevirtual 141, 3) := by decide +kernel
theorem dX6_change_19 : decode cX6_change 19 = .ok (.aload_n 0, 1) := by decide +kernel
theorem dX6_change_20 : decode cX6_change 20 = .ok (.getfield 27, 3) := by decide +kernel
theorem dX6_change_23 : decode cX6_change 23 = .ok (.aload_n 1, 1) := by decide +kernel
theorem dX6_change_24 : decode cX6_change 24 = .ok (.iload_n 2, 1) := by decide +kernel
theorem dX6_change_25 : decode cX6_change 25 = .ok (.iload_n 3, 1) := by decide +kernel
theorem dX6_change_26 : decode cX6_change 26 = .ok (.iload 4, 2) := by decide +kernel
theorem dX6_change_28 : decode cX6_change 28 = .ok (.invokevirtual 216, 3) := by decide +kernel
theorem dX6_change_31 : decode cX6_change 31 = .ok (.ireturn, 1) := by decide +kernel
theorem dX6_save_0 : decode cX6_save 0 = .ok (.aload_n 0, 1) := by decide +kernel
theorem dX6_save_1 : decode cX6_save 1 = .ok (.getfield 22, 3) := by decide +kernel
theorem dX6_save_4 : decode cX6_save 4 = .ok (.aload_n 0, 1) := by decide +kernel
theorem dX6_save_5 : decode cX6_save 5 = .ok (.getfield 18, 3) := by decide +kernel
theorem dX6_save_8 : decode cX6_save 8 = .ok (.arraylength, 1) := by decide +kernel
theorem dX6_save_9 : decode cX6_save 9 = .ok (.if_icmp .lt 54, 3) := by decide +kernel
theorem dX6_save_12 : decode cX6_save 12 = .ok (.aload_n 0, 1) := by decide +kernel
theorem dX6_save_13 : decode cX6_save 13 = .ok (.getfield 18, 3) := by decide +kernel
theorem dX6_save_16 : decode cX6_save 16 = .ok (.iconst 0, 1) := by decide +kernel
theorem dX6_save_17 : decode cX6_save 17 = .ok (.aaload, 1) := by decide +kernel
theorem dX6_save_18 : decode cX6_save 18 = .ok (.astore_n 1, 1) := by decide +kernel
theorem dX6_save_19 : decode cX6_save 19 = .ok (.iconst 1, 1) := by decide +kernel
theorem dX6_save_20 : decode cX6_save 20 = .ok (.istore_n 2, 1) := by decide +kernel
theorem dX6_save_21 : decode cX6_save 21 = .ok (.iload_n 2, 1) := by decide +kernel
theorem dX6_save_22 : decode cX6_save 22 = .ok (.aload_n 0, 1) := by decide +kernel
theorem dX6_save_23 : decode cX6_save 23 = .ok (.getfield 18, 3) := by decide +kernel
theorem dX6_save_26 : decode cX6_save 26 = .ok (.arraylength, 1) := by decide +kernel
theorem dX6_save_27 : decode cX6_save 27 = .ok (.if_icmp .ge 23, 3) := by decide +kernel
theorem dX6_save_30 : decode cX6_save 30 = .ok (.aload_n 0, 1) := by decide +kernel
theorem dX6_save_31 : decode cX6_save 31 = .ok (.getfield 18, 3) := by decide +kernel
theorem dX6_save_34 : decode cX6_save 34 = .ok (.iload_n 2, 1) := by decide +kernel
theorem dX6_save_35 : decode cX6_save 35 = .ok (.iconst 1, 1) := by decide +kernel
theorem dX6_save_36 : decode cX6_save 36 = .ok (.isub, 1) := by decide +kernel
theorem dX6_save_37 : decode cX6_save 37 = .ok (.aload_n 0, 1) := by decide +kernel
theorem dX6_save_38 : decode cX6_save 38 = .ok (.getfield 18, 3) := by decide +kernel
theorem dX6_save_41 : decode cX6_save 41 = .ok (.iload_n 2, 1) := by decide +kernel
theorem dX6_save_42 : decode cX6_save 42 = .ok (.aaload, 1) := by decide +kernel
theorem dX6_save_43 : decode cX6_save 43 = .ok (.aastore, 1) := by decide +kernel
theorem dX6_save_44 : decode cX6_save 44 = .ok (.iinc 2 1, 3) := by decide +kernel
theorem dX6_save_47 : decode cX6_save 47 = .ok (.goto (-26), 3) := by decide +kernel
theorem dX6_save_50 : decode cX6_save 50 = .ok (.aload_n 0, 1) := by decide +kernel
theorem dX6_save_51 : decode cX6_save 51 = .ok (.getfield 18, 3) := by decide +kernel
theorem dX6_save_54 : decode cX6_save 54 = .ok (.aload_n 0, 1) := by decide +kernel
theorem dX6_save_55 : decode cX6_save 55 = .ok (.getfield 18, 3) := by decide +kernel
theorem dX6_save_58 : decode cX6_save 58 = .ok (.arraylength, 1) := by decide +kernel
theorem dX6_save_59 : decode cX6_save 59 = .ok (.iconst 1, 1) := by decide +kernel
theorem dX6_save_60 : decode cX6_save 60 = .ok (.isub, 1) := by decide +kernel
theorem dX6_save_61 : decode cX6_save 61 = .ok (.aload_n 1, 1) := by decide +kernel
theorem dX6_save_62 : decode cX6_save 62 = .ok (.aastore, 1) := by decide +kernel
theorem dX6_save_63 : decode cX6_save 63 = .ok (.aload_n 0, 1) := by decide +kernel
theorem dX6_save_64 : decode cX6_save 64 = .ok (.getfield 22, 3) := by decide +kernel
theorem dX6_save_67 : decode cX6_save 67 = .ok (.aload_n 0, 1) := by decide +kernel
theorem dX6_save_68 : decode cX6_save 68 = .ok (.getfield 18, 3) := by decide +kernel
theorem dX6_save_71 : decode cX6_save 71 = .ok (.arraylength, 1) := by decide +kernel
theorem dX6_save_72 : decode cX6_save 72 = .ok (.iconst 1, 1) := by decide +kernel
theorem dX6_save_73 : decode cX6_save 73 = .ok (.isub, 1) := by decide +kernel
theorem dX6_save_74 : decode cX6_save 74 = .ok (.invokestatic 219, 3) := by decide +kernel
theorem dX6_save_77 : decode cX6_save 77 = .ok (.istore_n 1, 1) := by decide +kernel
theorem dX6_save_78 : decode cX6_save 78 = .ok (.aload_n 0, 1) := by decide +kernel
theorem dX6_save_79 : decode cX6_save 79 = .ok (.getfield 18, 3) := by decide +kernel
theorem dX6_save_82 : decode cX6_save 82 = .ok (.iload_n 1, 1) := by decide +kernel
theorem dX6_save_83 : decode cX6_save 83 = .ok (.aaload, 1) := by decide +kernel
theorem dX6_save_84 : decode cX6_save 84 = .ok (.aload_n 0, 1) := by decide +kernel
theorem dX6_save_85 : decode cX6_save 85 = .ok (.getfield 27, 3) := by decide +kernel
theorem dX6_save_88 : decode cX6_save 88 = .ok (.invokevirtual 225, 3) := by decide +kernel
theorem dX6_save_91 : decode cX6_save 91 = .ok (.aload_n 0, 1) := by decide +kernel
theorem dX6_save_92 : decode cX6_save 92 = .ok (.iload_n 1, 1) := by decide +kernel
theorem dX6_save_93 : decode cX6_save 93 = .ok (.iconst 1, 1) := by decide +kernel
theorem dX6_save_94 : decode cX6_save 94 = .ok (.iadd, 1) := by decide +kernel
theorem dX6_save_95 : decode cX6_save 95 = .ok (.putfield 22, 3) := by decide +kernel
theorem dX6_save_98 : decode cX6_save 98 = .ok (.return_, 1) := by decide +kernel
theorem dX6_runFaultless_0 : decode cX6_runFaultless 0 = .ok (.aload_n 0, 1) := by decide +kernel
theorem dX6_runFaultless_1 : decode cX6_runFaultless 1 = .ok (.getfield 10, 3) := by decide +kernel
theorem dX6_runFaultless_4 : decode cX6_runFaultless 4 = .ok (.invokevirtual 229, 3) := by decide +kernel
theorem dX6_runFaultless_7 : decode cX6_runFaultless 7 = .ok (.iconst 0, 1) := by decide +kernel
theorem dX6_runFaultless_8 : decode cX6_runFaultless 8 = .ok (.istore_n 1, 1) := by decide +kernel
theorem dX6_runFaultless_9 : decode cX6_runFaultless 9 = .ok (.iload_n 1, 1) := by decide +kernel
theorem dX6_runFaultless_10 : decode cX6_runFaultless 10 = .ok (.sipush 150, 3) := by decide +kernel
theorem dX6_runFaultless_13 : decode cX6_runFaultless 13 = .ok (.if_icmp .ge 90, 3) := by decide +kernel
theorem dX6_runFaultless_16 : decode cX6_runFaultless 16 = .ok (.aload_n 0, 1) := by decide +kernel
theorem dX6_runFaultless_17 : decode cX6_runFaultless 17 = .ok (.getfield 10, 3) := by decide +kernel
theorem dX6_runFaultless_20 : decode cX6_runFaultless 20 = .ok (.invokevirtual 232, 3) := by decide +kernel
theorem dX6_runFaultless_23 : decode cX6_runFaultless 23 = .ok (.astore_n 2, 1) := by decide +kernel
theorem dX6_runFaultless_24 : decode cX6_runFaultless 24 = .ok (.aload_n 2, 1) := by decide +kernel
theorem dX6_runFaultless_25 : decode cX6_runFaultless 25 = .ok (.ifnonnull 5, 3) := by decide +kernel
theorem dX6_runFaultless_28 : decode cX6_runFaultless 28 = .ok (.iload_n 1, 1) := by decide +kernel
theorem dX6_runFaultless_29 : decode cX6_runFaultless 29 = .ok (.ireturn, 1) := by decide +kernel
theorem dX6_runFaultless_30 : decode cX6_runFaultless 30 = .ok (.aload_n 0, 1) := by decide +kernel
theorem dX6_runFaultless_31 : decode cX6_runFaultless 31 = .ok (.getfield 10, 3) := by decide +kernel
theorem dX6_runFaultless_34 : decode cX6_runFaultless 34 = .ok (.getfield 236, 3) := by decide +kernel
theorem dX6_runFaultless_37 : decode cX6_runFaultless 37 = .ok (.iconst 0, 1) := by decide +kernel
theorem dX6_runFaultless_38 : decode cX6_runFaultless 38 = .ok (.iaload, 1) := by decide +kernel
theorem dX6_runFaultless_39 : decode cX6_runFaultless 39 = .ok (.istore_n 3, 1) := by decide +kernel
theorem dX6_runFaultless_40 : decode cX6_runFaultless 40 = .ok (.aload_n 0, 1) := by decide +kernel
theorem dX6_runFaultless_41 : decode cX6_runFaultless 41 = .ok (.getfield 10, 3) := by decide +kernel
theorem dX6_runFaultless_44 : decode cX6_runFaultless 44 = .ok (.getfield 236, 3) := by decide +kernel
theorem dX6_runFaultless_47 : decode cX6_runFaultless 47 = .ok (.iconst 1, 1) := by decide +kernel
theorem dX6_runFaultless_48 : decode cX6_runFaultless 48 = .ok (.iaload, 1) := by decide +kernel
theorem dX6_runFaultless_49 : decode cX6_runFaultless 49 = .ok (.istore 4, 2) := by decide +kernel
theorem dX6_runFaultless_51 : decode cX6_runFaultless 51 = .ok (.aload_n 0, 1) := by decide +kernel
theorem dX6_runFaultless_52 : decode cX6_runFaultless 52 = .ok (.getfield 10, 3) := by decide +kernel
theorem dX6_runFaultless_55 : decode cX6_runFaultless 55 = .ok (.getfield 236, 3) := by decide +kernel
theorem dX6_runFaultless_58 : decode cX6_runFaultless 58 = .ok (.iconst 2, 1) := by decide +kernel
theorem dX6_runFaultless_59 : decode cX6_runFaultless 59 = .ok (.iaload, 1) := by decide +kernel
theorem dX6_runFaultless_60 : decode cX6_runFaultless 60 = .ok (.istore 5, 2) := by decide +kernel
theorem dX6_runFaultless_62 : decode cX6_runFaultless 62 = .ok (.aload_n 0, 1) := by decide +kernel
theorem dX6_runFaultless_63 : decode cX6_runFaultless 63 = .ok (.getfield 27, 3) := by decide +kernel
theorem dX6_runFaultless_66 : decode cX6_runFaultless 66 = .ok (.aload_n 2, 1) := by decide +kernel
theorem dX6_runFaultless_67 : decode cX6_runFaultless 67 = .ok (.iload_n 3, 1) := by decide +kernel
theorem dX6_runFaultless_68 : decode cX6_runFaultless 68 = .ok (.iload 4, 2) := by decide +kernel
theorem dX6_runFaultless_70 : decode cX6_runFaultless 70 = .ok (.iload 5, 2) := by decide +kernel
theorem dX6_runFaultless_72 : decode cX6_runFaultless 72 = .ok (.invokevirtual 208, 3) := by decide +kernel
theorem dX6_runFaultless_75 : decode cX6_runFaultless 75 = .ok (.getstatic 240, 3) := by decide +kernel
theorem dX6_runFaultless_78 : decode cX6_runFaultless 78 = .ok (.if_acmp .eq 5, 3) := by decide +kernel
theorem dX6_runFaultless_81 : decode cX6_runFaultless 81 = .ok (.iload_n 1, 1) := by decide +kernel
theorem dX6_runFaultless_82 : decode cX6_runFaultless 82 = .ok (.ireturn, 1) := by decide +kernel
theorem dX6_runFaultless_83 : decode cX6_runFaultless 83 = .ok (.aload_n 0, 1) := by decide +kernel
theorem dX6_runFaultless_84 : decode cX6_runFaultless 84 = .ok (.getfield 27, 3) := by decide +kernel
theorem dX6_runFaultless_87 : decode cX6_runFaultless 87 = .ok (.aload_n 2, 1) := by decide +kernel
theorem dX6_runFaultless_88 : decode cX6_runFaultless 88 = .ok (.iload_n 3, 1) := by decide +kernel
theorem dX6_runFaultless_89 : decode cX6_runFaultless 89 = .ok (.iload 4, 2) := by decide +kernel
theorem dX6_runFaultless_91 : decode cX6_runFaultless 91 = .ok (.iload 5, 2) := by decide +kernel
theorem dX6_runFaultless_93 : decode cX6_runFaultless 93 = .ok (.invokevirtual 216, 3) := by decide +kernel
theorem dX6_runFaultless_96 : decode cX6_runFaultless 96 = .ok (.pop, 1) := by decide +kernel
theorem dX6_runFaultless_97 : decode cX6_runFaultless 97 = .ok (.iinc 1 1, 3) := by decide +kernel
theorem dX6_runFaultless_100 : decode cX6_runFaultless 100 = .ok (.goto (-91), 3) := by decide +kernel
theorem dX6_runFaultless_103 : decode cX6_runFaultless 103 = .ok (.sipush 150, 3) := by decide +kernel
theorem dX6_runFaultless_106 : decode cX6_runFaultless 106 = .ok (.ireturn, 1) := by decide +kernel
theorem dX6_wholeValue_0 : decode cX6_wholeValue 0 = .ok (.iload_n 1, 1) := by decide +kernel
theorem dX6_wholeValue_1 : decode cX6_wholeValue 1 = .ok (.bipush 11, 2) := by decide +kernel
theorem dX6_wholeValue_3 : decode cX6_wholeValue 3 = .ok (.if_icmp .ne 13, 3) := by decide +kernel
theorem dX6_wholeValue_6 : decode cX6_wholeValue 6 = .ok (.aload_n 0, 1) := by decide +kernel
theorem dX6_wholeValue_7 : decode cX6_wholeValue 7 = .ok (.getfield 10, 3) := by decide +kernel
theorem dX6_wholeValue_10 : decode cX6_wholeValue 10 = .ok (.getfield 135, 3) := by decide +kernel
theorem dX6_wholeValue_13 : decode cX6_wholeValue 13 = .ok (.goto 11, 3) := by decide +kernel
theorem dX6_wholeValue_16 : decode cX6_wholeValue 16 = .ok (.aload_n 0, 1) := by decide +kernel
theorem dX6_wholeValue_17 : decode cX6_wholeValue 17 = .ok (.getfield 27, 3) := by decide +kernel
theorem dX6_wholeValue_20 : decode cX6_wholeValue 20 = .ok (.iload_n 1, 1) := by decide +kernel
theorem dX6_wholeValue_21 : decode cX6_wholeValue 21 = .ok (.invokevirtual 243, 3) := by decide +kernel
theorem dX6_wholeValue_24 : decode cX6_wholeValue 24 = .ok (.ireturn, 1) := by decide +kernel
end
section
theorem dX7_init_0 : decode cX7_init 0 = .ok (.aload_n 0, 1) := by decide +kernel
theorem dX7_init_1 : decode cX7_init 1 = .ok (.invokespecial 1, 3) := by decide +kernel
theorem dX7_init_4 : decode cX7_init 4 = .ok (.aload_n 0, 1) := by decide +kernel
theorem dX7_init_5 : decode cX7_init 5 = .ok (.sipush 1026, 3) := by decide +kernel
theorem dX7_init_8 : decode cX7_init 8 = .ok (.newarray .int, 2) := by decide +kernel
theorem dX7_init_10 : decode cX7_init 10 = .ok (.putfield 7, 3) := by decide +kernel
theorem dX7_init_13 : decode cX7_init 13 = .ok (.aload_n 0, 1) := by decide +kernel
theorem dX7_init_14 : decode cX7_init 14 = .ok (.sipush 150, 3) := by decide +kernel
theorem dX7_init_17 : decode cX7_init 17 = .ok (.newarray .int, 2) := by decide +kernel
theorem dX7_init_19 : decode cX7_init 19 = .ok (.putfield 13, 3) := by decide +kernel
theorem dX7_init_22 : decode cX7_init 22 = .ok (.aload_n 0, 1) := by decide +kernel
theorem dX7_init_23 : decode cX7_init 23 = .ok (.bipush 24, 2) := by decide +kernel
theorem dX7_init_25 : decode cX7_init 25 = .ok (.newarray .int, 2) := by decide +kernel
theorem dX7_init_27 : decode cX7_init 27 = .ok (.putfield 16, 3) := by decide +kernel
theorem dX7_init_30 : decode cX7_init 30 = .ok (.aload_n 0, 1) := by decide +kernel
theorem dX7_init_31 : decode cX7_init 31 = .ok (.bipush 24, 2) := by decide +kernel
theorem dX7_init_33 : decode cX7_init 33 = .ok (.newarray .int, 2) := by decide +kernel
theorem dX7_init_35 : decode cX7_init 35 = .ok (.putfield 19, 3) := by decide +kernel
theorem dX7_init_38 : decode cX7_init 38 = .ok (.aload_n 0, 1) := by decide +kernel
theorem dX7_init_39 : decode cX7_init 39 = .ok (.bipush 24, 2) := by decide +kernel
theorem dX7_init_41 : decode cX7_init 41 = .ok (.newarray .int, 2) := by decide +kernel
theorem dX7_init_43 : decode cX7_init 43 = .ok (.putfield 22, 3) := by decide +kernel
theorem dX7_init_46 : decode cX7_init 46 = .ok (.aload_n 0, 1) := by decide +kernel
theorem dX7_init_47 : decode cX7_init 47 = .ok (.bipush 24, 2) := by decide +kernel
theorem dX7_init_49 : decode cX7_init 49 = .ok (.newarray .int, 2) := by decide +kernel
theorem dX7_init_51 : decode cX7_init 51 = .ok (.putfield 25, 3) := by decide +kernel
theorem dX7_init_54 : decode cX7_init 54 = .ok (.aload_n 0, 1) := by decide +kernel
theorem dX7_init_55 : decode cX7_init 55 = .ok (.bipush 24, 2) := by decide +kernel
theorem dX7_init_57 : decode cX7_init 57 = .ok (.newarray .int, 2) := by decide +kernel
theorem dX7_init_59 : decode cX7_init 59 = .ok (.putfield 28, 3) := by decide +kernel
theorem dX7_init_62 : decode cX7_init 62 = .ok (.aload_n 0, 1) := by decide +kernel
theorem dX7_init_63 : decode cX7_init 63 = .ok (.bipush 24, 2) := by decide +kernel
theorem dX7_init_65 : decode cX7_init 65 = .ok (.newarray .boolean, 2) := by decide +kernel
theorem dX7_init_67 : decode cX7_init 67 = .ok (.putfield 31, 3) := by decide +kernel
theorem dX7_init_70 : decode cX7_init 70 = .ok (.aload_n 0, 1) := by decide +kernel
theorem dX7_init_71 : decode cX7_init 71 = .ok (.iconst 3, 1) := by decide +kernel
theorem dX7_init_72 : decode cX7_init 72 = .ok (.newarray .int, 2) := by decide +kernel
theorem dX7_init_74 : decode cX7_init 74 = .ok (.putfield 35, 3) := by decide +kernel
theorem dX7_init_77 : decode cX7_init 77 = .ok (.aload_n 0, 1) := by decide +kernel
theorem dX7_init_78 : decode cX7_init 78 = .ok (.bipush 24, 2) := by decide +kernel
theorem dX7_init_80 : decode cX7_init 80 = .ok (.newarray .int, 2) := by decide +kernel
theorem dX7_init_82 : decode cX7_init 82 = .ok (.putfield 38, 3) := by decide +kernel
theorem dX7_init_85 : decode cX7_init 85 = .ok (.aload_n 0, 1) := by decide +kernel
theorem dX7_init_86 : decode cX7_init 86 = .ok (.getfield 7, 3) := by decide +kernel
theorem dX7_init_89 : decode cX7_init 89 = .ok (.iconst 0, 1) := by decide +kernel
theorem dX7_init_90 : decode cX7_init 90 = .ok (.iconst 1, 1) := by decide +kernel
theorem dX7_init_91 : decode cX7_init 91 = .ok (.iastore, 1) := by decide +kernel
theorem dX7_init_92 : decode cX7_init 92 = .ok (.aload_n 0, 1) := by decide +kernel
theorem dX7_init_93 : decode cX7_init 93 = .ok (.getfield 7, 3) := by decide +kernel
theorem dX7_init_96 : decode cX7_init 96 = .ok (.iconst 1, 1) := by decide +kernel
theorem dX7_init_97 : decode cX7_init 97 = .ok (.iconst 1, 1) := by decide +kernel
theorem dX7_init_98 : decode cX7_init 98 = .ok (.iastore, 1) := by decide +kernel
theorem dX7_init_99 : decode cX7_init 99 = .ok (.aload_n 0, 1) := by decide +kernel
theorem dX7_init_100 : decode cX7_init 100 = .ok (.getfield 7, 3) := by decide +kernel
theorem dX7_init_103 : decode cX7_init 103 = .ok (.iconst 2, 1) := by decide +kernel
theorem dX7_init_104 : decode cX7_init 104 = .ok (.bipush 99, 2) := by decide +kernel
theorem dX7_init_106 : decode cX7_init 106 = .ok (.iastore, 1) := by decide +kernel
theorem dX7_init_107 : decode cX7_init 107 = .ok (.aload_n 0, 1) := by decide +kernel
theorem dX7_init_108 : decode cX7_init 108 = .ok (.getfield 7, 3) := by decide +kernel
theorem dX7_init_111 : decode cX7_init 111 = .ok (.iconst 5, 1) := by decide +kernel
theorem dX7_init_112 : decode cX7_init 112 = .ok (.iconst (-1), 1) := by decide +kernel
theorem dX7_init_113 : decode cX7_init 113 = .ok (.iastore, 1) := by decide +kernel
theorem dX7_init_114 : decode cX7_init 114 = .ok (.aload_n 0, 1) := by decide +kernel
theorem dX7_init_115 : decode cX7_init 115 = .ok (.getfield 7, 3) := by decide +kernel
theorem dX7_init_118 : decode cX7_init 118 = .ok (.bipush 6, 2) := by decide +kernel
theorem dX7_init_120 : decode cX7_init 120 = .ok (.iconst (-1), 1) := by decide +kernel
theorem dX7_init_121 : decode cX7_init 121 = .ok (.iastore, 1) := by decide +kernel
theorem dX7_init_122 : decode cX7_init 122 = .ok (.aload_n 0, 1) := by decide +kernel
theorem dX7_init_123 : decode cX7_init 123 = .ok (.getfield 7, 3) := by decide +kernel
theorem dX7_init_126 : decode cX7_init 126 = .ok (.bipush 7, 2) := by decide +kernel
theorem dX7_init_128 : decode cX7_init 128 = .ok (.iconst (-1), 1) := by decide +kernel
theorem dX7_init_129 : decode cX7_init 129 = .ok (.iastore, 1) := by decide +kernel
theorem dX7_init_130 : decode cX7_init 130 = .ok (.return_, 1) := by decide +kernel
theorem dX7_in_0 : decode cX7_in 0 = .ok (.iload_n 0, 1) := by decide +kernel
theorem dX7_in_1 : decode cX7_in 1 = .ok (.iload_n 1, 1) := by decide +kernel
theorem dX7_in_2 : decode cX7_in 2 = .ok (.if_icmp .lt 12, 3) := by decide +kernel
theorem dX7_in_5 : decode cX7_in 5 = .ok (.iload_n 0, 1) := by decide +kernel
theorem dX7_in_6 : decode cX7_in 6 = .ok (.iload_n 2, 1) := by decide +kernel
theorem dX7_in_7 : decode cX7_in 7 = .ok (.if_icmp .gt 7, 3) := by decide +kernel
theorem dX7_in_10 : decode cX7_in 10 = .ok (.iconst 1, 1) := by decide +kernel
theorem dX7_in_11 : decode cX7_in 11 = .ok (.goto 4, 3) := by decide +kernel
theorem dX7_in_14 : decode cX7_in 14 = .ok (.iconst 0, 1) := by decide +kernel
theorem dX7_in_15 : decode cX7_in 15 = .ok (.ireturn, 1) := by decide +kernel
theorem dX7_copies_0 : decode cX7_copies 0 = .ok (.iconst 0, 1) := by decide +kernel
theorem dX7_copies_1 : decode cX7_copies 1 = .ok (.istore_n 3, 1) := by decide +kernel
theorem dX7_copies_2 : decode cX7_copies 2 = .ok (.iload_n 3, 1) := by decide +kernel
theorem dX7_copies_3 : decode cX7_copies 3 = .ok (.sipush 171, 3) := by decide +kernel
theorem dX7_copies_6 : decode cX7_copies 6 = .ok (.if_icmp .ge 25, 3) := by decide +kernel
theorem dX7_copies_9 : decode cX7_copies 9 = .ok (.aload_n 0, 1) := by decide +kernel
theorem dX7_copies_10 : decode cX7_copies 10 = .ok (.getfield 7, 3) := by decide +kernel
theorem dX7_copies_13 : decode cX7_copies 13 = .ok (.iload_n 2, 1) := by decide +kernel
theorem dX7_copies_14 : decode cX7_copies 14 = .ok (.iload_n 3, 1) := by decide +kernel
theorem dX7_copies_15 : decode cX7_copies 15 = .ok (.iadd, 1) := by decide +kernel
theorem dX7_copies_16 : decode cX7_copies 16 = .ok (.aload_n 0, 1) := by decide +kernel
theorem dX7_copies_17 : decode cX7_copies 17 = .ok (.getfield 7, 3) := by decide +kernel
theorem dX7_copies_20 : decode cX7_copies 20 = .ok (.iload_n 1, 1) := by decide +kernel
theorem dX7_copies_21 : decode cX7_copies 21 = .ok (.iload_n 3, 1) := by decide +kernel
theorem dX7_copies_22 : decode cX7_copies 22 = .ok (.iadd, 1) := by decide +kernel
theorem dX7_copies_23 : decode cX7_copies 23 = .ok (.iaload, 1) := by decide +kernel
theorem dX7_copies_24 : decode cX7_copies 24 = .ok (.iastore, 1) := by decide +kernel
theorem dX7_copies_25 : decode cX7_copies 25 = .ok (.iinc 3 1, 3) := by decide +kernel
theorem dX7_copies_28 : decode cX7_copies 28 = .ok (.goto (-26), 3) := by decide +kernel
theorem dX7_copies_31 : decode cX7_copies 31 = .ok (.return_, 1) := by decide +kernel
theorem dX7_saves_0 : decode cX7_saves 0 = .ok (.aload_n 0, 1) := by decide +kernel
theorem dX7_saves_1 : decode cX7_saves 1 = .ok (.getfield 41, 3) := by decide +kernel
theorem dX7_saves_4 : decode cX7_saves 4 = .ok (.iconst 4, 1) := by decide +kernel
theorem dX7_saves_5 : decode cX7_saves 5 = .ok (.if_icmp .ne 42, 3) := by decide +kernel
theorem dX7_saves_8 : decode cX7_saves 8 = .ok (.iconst 1, 1) := by decide +kernel
theorem dX7_saves_9 : decode cX7_saves 9 = .ok (.istore_n 1, 1) := by decide +kernel
theorem dX7_saves_10 : decode cX7_saves 10 = .ok (.iload_n 1, 1) := by decide +kernel
theorem dX7_saves_11 : decode cX7_saves 11 = .ok (.iconst 4, 1) := by decide +kernel
theorem dX7_saves_12 : decode cX7_saves 12 = .ok (.if_icmp .ge 25, 3) := by decide +kernel
theorem dX7_saves_15 : decode cX7_saves 15 = .ok (.aload_n 0, 1) := by decide +kernel
theorem dX7_saves_16 : decode cX7_saves 16 = .ok (.sipush 171, 3) := by decide +kernel
theorem dX7_saves_19 : decode cX7_saves 19 = .ok (.iload_n 1, 1) := by decide +kernel
theorem dX7_saves_20 : decode cX7_saves 20 = .ok (.iconst 1, 1) := by decide +kernel
theorem dX7_saves_21 : decode cX7_saves 21 = .ok (.iadd, 1) := by decide +kernel
theorem dX7_saves_22 : decode cX7_saves 22 = .ok (.imul, 1) := by decide +kernel
theorem dX7_saves_23 : decode cX7_saves 23 = .ok (.sipush 171, 3) := by decide +kernel
theorem dX7_saves_26 : decode cX7_saves 26 = .ok (.iload_n 1, 1) := by decide +kernel
theorem dX7_saves_27 : decode cX7_saves 27 = .ok (.imul, 1) := by decide +kernel
theorem dX7_saves_28 : decode cX7_saves 28 = .ok (.invokevirtual 45, 3) := by decide +kernel
theorem dX7_saves_31 : decode cX7_saves 31 = .ok (.iinc 1 1, 3) := by decide +kernel
theorem dX7_saves_34 : decode cX7_saves 34 = .ok (.goto (-24), 3) := by decide +kernel
theorem dX7_saves_37 : decode cX7_saves 37 = .ok (.aload_n 0, 1) := by decide +kernel
theorem dX7_saves_38 : decode cX7_saves 38 = .ok (.dup, 1) := by decide +kernel
theorem dX7_saves_39 : decode cX7_saves 39 = .ok (.getfield 41, 3) := by decide +kernel
theorem dX7_saves_42 : decode cX7_saves 42 = .ok (.iconst 1, 1) := by decide +kernel
theorem dX7_saves_43 : decode cX7_saves 43 = .ok (.isub, 1) := by decide +kernel
theorem dX7_saves_44 : decode cX7_saves 44 = .ok (.putfield 41, 3) := by decide +kernel
theorem dX7_saves_47 : decode cX7_saves 47 = .ok (.aload_n 0, 1) := by decide +kernel
theorem dX7_saves_48 : decode cX7_saves 48 = .ok (.dup, 1) := by decide +kernel
theorem dX7_saves_49 : decode cX7_saves 49 = .ok (.getfield 41, 3) := by decide +kernel
theorem dX7_saves_52 : decode cX7_saves 52 = .ok (.iconst 1, 1) := by decide +kernel
theorem dX7_saves_53 : decode cX7_saves 53 = .ok (.iadd, 1) := by decide +kernel
theorem dX7_saves_54 : decode cX7_saves 54 = .ok (.putfield 41, 3) := by decide +kernel
theorem dX7_saves_57 : decode cX7_saves 57 = .ok (.aload_n 0, 1) := by decide +kernel
theorem dX7_saves_58 : decode cX7_saves 58 = .ok (.iconst 0, 1) := by decide +kernel
theorem dX7_saves_59 : decode cX7_saves 59 = .ok (.sipush 171, 3) := by decide +kernel
theorem dX7_saves_62 : decode cX7_saves 62 = .ok (.aload_n 0, 1) := by decide +kernel
theorem dX7_saves_63 : decode cX7_saves 63 = .ok (.getfield 41, 3) := by decide +kernel
theorem dX7_saves_66 : decode cX7_saves 66 = .ok (.imul, 1) := by decide +kernel
theorem dX7_saves_67 : decode cX7_saves 67 = .ok (.invokevirtual 45, 3) := by decide +kernel
theorem dX7_saves_70 : decode cX7_saves 70 = .ok (.return_, 1) := by decide +kernel
theorem dX7_of_0 : decode cX7_of 0 = .ok (.aload_n 0, 1) := by decide +kernel
theorem dX7_of_1 : decode cX7_of 1 = .ok (.getfield 7, 3) := by decide +kernel
theorem dX7_of_4 : decode cX7_of 4 = .ok (.iconst 3, 1) := by decide +kernel
theorem dX7_of_5 : decode cX7_of 5 = .ok (.bipush 7, 2) := by decide +kernel
theorem dX7_of_7 : decode cX7_of 7 = .ok (.iload_n 1, 1) := by decide +kernel
theorem dX7_of_8 : decode cX7_of 8 = .ok (.imul, 1) := by decide +kernel
theorem dX7_of_9 : decode cX7_of 9 = .ok (.iadd, 1) := by decide +kernel
theorem dX7_of_10 : decode cX7_of 10 = .ok (.iload_n 2, 1) := by decide +kernel
theorem dX7_of_11 : decode cX7_of 11 = .ok (.iadd, 1) := by decide +kernel
theorem dX7_of_12 : decode cX7_of 12 = .ok (.iaload, 1) := by decide +kernel
theorem dX7_of_13 : decode cX7_of 13 = .ok (.ireturn, 1) := by decide +kernel
theorem dX7_set_0 : decode cX7_set 0 = .ok (.aload_n 0, 1) := by decide +kernel
theorem dX7_set_1 : decode cX7_set 1 = .ok (.getfield 7, 3) := by decide +kernel
theorem dX7_set_4 : decode cX7_set 4 = .ok (.iconst 3, 1) := by decide +kernel
theorem dX7_set_5 : decode cX7_set 5 = .ok (.bipush 7, 2) := by decide +kernel
theorem dX7_set_7 : decode cX7_set 7 = .ok (.iload_n 1, 1) := by decide +kernel
theorem dX7_set_8 : decode cX7_set 8 = .ok (.imul, 1) := by decide +kernel
theorem dX7_set_9 : decode cX7_set 9 = .ok (.iadd, 1) := by decide +kernel
theorem dX7_set_10 : decode cX7_set 10 = .ok (.iload_n 2, 1) := by decide +kernel
theorem dX7_set_11 : decode cX7_set 11 = .ok (.iadd, 1) := by decide +kernel
theorem dX7_set_12 : decode cX7_set 12 = .ok (.iload_n 3, 1) := by decide +kernel
theorem dX7_set_13 : decode cX7_set 13 = .ok (.iastore, 1) := by decide +kernel
theorem dX7_set_14 : decode cX7_set 14 = .ok (.return_, 1) := by decide +kernel
theorem dX7_find_0 : decode cX7_find 0 = .ok (.iconst 0, 1) := by decide +kernel
theorem dX7_find_1 : decode cX7_find 1 = .ok (.istore_n 2, 1) := by decide +kernel
theorem dX7_find_2 : decode cX7_find 2 = .ok (.iload_n 2, 1) := by decide +kernel
theorem dX7_find_3 : decode cX7_find 3 = .ok (.aload_n 0, 1) := by decide +kernel
theorem dX7_find_4 : decode cX7_find 4 = .ok (.getfield 7, 3) := by decide +kernel
theorem dX7_find_7 : decode cX7_find 7 = .ok (.iconst 0, 1) := by decide +kernel
theorem dX7_find_8 : decode cX7_find 8 = .ok (.iaload, 1) := by decide +kernel
theorem dX7_find_9 : decode cX7_find 9 = .ok (.if_icmp .ge 21, 3) := by decide +kernel
theorem dX7_find_12 : decode cX7_find 12 = .ok (.aload_n 0, 1) := by decide +kernel
theorem dX7_find_13 : decode cX7_find 13 = .ok (.iload_n 2, 1) := by decide +kernel
theorem dX7_find_14 : decode cX7_find 14 = .ok (.iconst 0, 1) := by decide +kernel
theorem dX7_find_15 : decode cX7_find 15 = .ok (.invokevirtual 49, 3) := by decide +kernel
theorem dX7_find_18 : decode cX7_find 18 = .ok (.iload_n 1, 1) := by decide +kernel
theorem dX7_find_19 : decode cX7_find 19 = .ok (.if_icmp .ne 5, 3) := by decide +kernel
theorem dX7_find_22 : decode cX7_find 22 = .ok (.iload_n 2, 1) := by decide +kernel
theorem dX7_find_23 : decode cX7_find 23 = .ok (.ireturn, 1) := by decide +kernel
theorem dX7_find_24 : decode cX7_find 24 = .ok (.iinc 2 1, 3) := by decide +kernel
theorem dX7_find_27 : decode cX7_find 27 = .ok (.goto (-25), 3) := by decide +kernel
theorem dX7_find_30 : decode cX7_find 30 = .ok (.iconst (-1), 1) := by decide +kernel
theorem dX7_find_31 : decode cX7_find 31 = .ok (.ireturn, 1) := by decide +kernel
theorem dX7_isTask_0 : decode cX7_isTask 0 = .ok (.aload_n 0, 1) := by decide +kernel
theorem dX7_isTask_1 : decode cX7_isTask 1 = .ok (.aload_n 0, 1) := by decide +kernel
theorem dX7_isTask_2 : decode cX7_isTask 2 = .ok (.iload_n 1, 1) := by decide +kernel
theorem dX7_isTask_3 : decode cX7_isTask 3 = .ok (.invokevirtual 53, 3) := by decide +kernel
theorem dX7_isTask_6 : decode cX7_isTask 6 = .ok (.iconst 1, 1) := by decide +kernel
theorem dX7_isTask_7 : decode cX7_isTask 7 = .ok (.invokevirtual 49, 3) := by decide +kernel
theorem dX7_isTask_10 : decode cX7_isTask 10 = .ok (.iconst 1, 1) := by decide +kernel
theorem dX7_isTask_11 : decode cX7_isTask 11 = .ok (.if_icmp .ne 7, 3) := by decide +kernel
theorem dX7_isTask_14 : decode cX7_isTask 14 = .ok (.iconst 1, 1) := by decide +kernel
theorem dX7_isTask_15 : decode cX7_isTask 15 = .ok (.goto 4, 3) := by decide +kernel
theorem dX7_isTask_18 : decode cX7_isTask 18 = .ok (.iconst 0, 1) := by decide +kernel
theorem dX7_isTask_19 : decode cX7_isTask 19 = .ok (.ireturn, 1) := by decide +kernel
theorem dX7_thrown_0 : decode cX7_thrown 0 = .ok (.aload_n 0, 1) := by decide +kernel
theorem dX7_thrown_1 : decode cX7_thrown 1 = .ok (.getfield 57, 3) := by decide +kernel
theorem dX7_thrown_4 : decode cX7_thrown 4 = .ok (.ireturn, 1) := by decide +kernel
theorem dX7_isRefused_0 : decode cX7_isRefused 0 = .ok (.aload_n 0, 1) := by decide +kernel
theorem dX7_isRefused_1 : decode cX7_isRefused 1 = .ok (.iload_n 1, 1) := by decide +kernel
theorem dX7_isRefused_2 : decode cX7_isRefused 2 = .ok (.putfield 57, 3) := by decide +kernel
theorem dX7_isRefused_5 : decode cX7_isRefused 5 = .ok (.iload_n 1, 1) := by decide +kernel
theorem dX7_isRefused_6 : decode cX7_isRefused 6 = .ok (.ifCond .eq 7, 3) := by decide +kernel
theorem dX7_isRefused_9 : decode cX7_isRefused 9 = .ok (.iconst 1, 1) := by decide +kernel
theorem dX7_isRefused_10 : decode cX7_isRefused 10 = .ok (.goto 4, 3) := by decide +kernel
theorem dX7_isRefused_13 : decode cX7_isRefused 13 = .ok (.iconst 0, 1) := by decide +kernel
theorem dX7_isRefused_14 : decode cX7_isRefused 14 = .ok (.ireturn, 1) := by decide +kernel
theorem dX7_isBarred_0 : decode cX7_isBarred 0 = .ok (.aload_n 0, 1) := by decide +kernel
theorem dX7_isBarred_1 : decode cX7_isBarred 1 = .ok (.iload_n 1, 1) := by decide +kernel
theorem dX7_isBarred_2 : decode cX7_isBarred 2 = .ok (.iconst 3, 1) := by decide +kernel
theorem dX7_isBarred_3 : decode cX7_isBarred 3 = .ok (.if_icmp .ne 7, 3) := by decide +kernel
theorem dX7_isBarred_6 : decode cX7_isBarred 6 = .ok (.iconst 2, 1) := by decide +kernel
theorem dX7_isBarred_7 : decode cX7_isBarred 7 = .ok (.goto 4, 3) := by decide +kernel
theorem dX7_isBarred_10 : decode cX7_isBarred 10 = .ok (.iload_n 1, 1) := by decide +kernel
theorem dX7_isBarred_11 : decode cX7_isBarred 11 = .ok (.invokevirtual 60, 3) := by decide +kernel
theorem dX7_isBarred_14 : decode cX7_isBarred 14 = .ok (.ireturn, 1) := by decide +kernel
theorem dX7_isIn_0 : decode cX7_isIn 0 = .ok (.aload_n 0, 1) := by decide +kernel
theorem dX7_isIn_1 : decode cX7_isIn 1 = .ok (.iload_n 1, 1) := by decide +kernel
theorem dX7_isIn_2 : decode cX7_isIn 2 = .ok (.iconst 2, 1) := by decide +kernel
theorem dX7_isIn_3 : decode cX7_isIn 3 = .ok (.invokevirtual 49, 3) := by decide +kernel
theorem dX7_isIn_6 : decode cX7_isIn 6 = .ok (.iload_n 2, 1) := by decide +kernel
theorem dX7_isIn_7 : decode cX7_isIn 7 = .ok (.if_icmp .ne 17, 3) := by decide +kernel
theorem dX7_isIn_10 : decode cX7_isIn 10 = .ok (.aload_n 0, 1) := by decide +kernel
theorem dX7_isIn_11 : decode cX7_isIn 11 = .ok (.iload_n 1, 1) := by decide +kernel
theorem dX7_isIn_12 : decode cX7_isIn 12 = .ok (.iconst 3, 1) := by decide +kernel
theorem dX7_isIn_13 : decode cX7_isIn 13 = .ok (.invokevirtual 49, 3) := by decide +kernel
theorem dX7_isIn_16 : decode cX7_isIn 16 = .ok (.iload_n 3, 1) := by decide +kernel
theorem dX7_isIn_17 : decode cX7_isIn 17 = .ok (.if_icmp .ne 7, 3) := by decide +kernel
theorem dX7_isIn_20 : decode cX7_isIn 20 = .ok (.iconst 1, 1) := by decide +kernel
theorem dX7_isIn_21 : decode cX7_isIn 21 = .ok (.goto 4, 3) := by decide +kernel
theorem dX7_isIn_24 : decode cX7_isIn 24 = .ok (.iconst 0, 1) := by decide +kernel
theorem dX7_isIn_25 : decode cX7_isIn 25 = .ok (.ireturn, 1) := by decide +kernel
theorem dX7_rowLength_0 : decode cX7_rowLength 0 = .ok (.iconst 0, 1) := by decide +kernel
theorem dX7_rowLength_1 : decode cX7_rowLength 1 = .ok (.istore_n 3, 1) := by decide +kernel
theorem dX7_rowLength_2 : decode cX7_rowLength 2 = .ok (.iconst 0, 1) := by decide +kernel
theorem dX7_rowLength_3 : decode cX7_rowLength 3 = .ok (.istore 4, 2) := by decide +kernel
theorem dX7_rowLength_5 : decode cX7_rowLength 5 = .ok (.iload 4, 2) := by decide +kernel
theorem dX7_rowLength_7 : decode cX7_rowLength 7 = .ok (.aload_n 0, 1) := by decide +kernel
theorem dX7_rowLength_8 : decode cX7_rowLength 8 = .ok (.getfield 7, 3) := by decide +kernel
theorem dX7_rowLength_11 : decode cX7_rowLength 11 = .ok (.iconst 0, 1) := by decide +kernel
theorem dX7_rowLength_12 : decode cX7_rowLength 12 = .ok (.iaload, 1) := by decide +kernel
theorem dX7_rowLength_13 : decode cX7_rowLength 13 = .ok (.if_icmp .ge 34, 3) := by decide +kernel
theorem dX7_rowLength_16 : decode cX7_rowLength 16 = .ok (.iload_n 3, 1) := by decide +kernel
theorem dX7_rowLength_17 : decode cX7_rowLength 17 = .ok (.aload_n 0, 1) := by decide +kernel
theorem dX7_rowLength_18 : decode cX7_rowLength 18 = .ok (.iload 4, 2) := by decide +kernel
theorem dX7_rowLength_20 : decode cX7_rowLength 20 = .ok (.iload_n 1, 1) := by decide +kernel
theorem dX7_rowLength_21 : decode cX7_rowLength 21 = .ok (.iload_n 2, 1) := by decide +kernel
theorem dX7_rowLength_22 : decode cX7_rowLength 22 = .ok (.invokevirtual 64, 3) := by decide +kernel
theorem dX7_rowLength_25 : decode cX7_rowLength 25 = .ok (.ifCond .eq 13, 3) := by decide +kernel
theorem dX7_rowLength_28 : decode cX7_rowLength 28 = .ok (.aload_n 0, 1) := by decide +kernel
theorem dX7_rowLength_29 : decode cX7_rowLength 29 = .ok (.getfield 16, 3) := by decide +kernel
theorem dX7_rowLength_32 : decode cX7_rowLength 32 = .ok (.iload 4, 2) := by decide +kernel
theorem dX7_rowLength_34 : decode cX7_rowLength 34 = .ok (.iaload, 1) := by decide +kernel
theorem dX7_rowLength_35 : decode cX7_rowLength 35 = .ok (.goto 4, 3) := by decide +kernel
theorem dX7_rowLength_38 : decode cX7_rowLength 38 = .ok (.iconst 0, 1) := by decide +kernel
theorem dX7_rowLength_39 : decode cX7_rowLength 39 = .ok (.iadd, 1) := by decide +kernel
theorem dX7_rowLength_40 : decode cX7_rowLength 40 = .ok (.istore_n 3, 1) := by decide +kernel
theorem dX7_rowLength_41 : decode cX7_rowLength 41 = .ok (.iinc 4 1, 3) := by decide +kernel
theorem dX7_rowLength_44 : decode cX7_rowLength 44 = .ok (.goto (-39), 3) := by decide +kernel
theorem dX7_rowLength_47 : decode cX7_rowLength 47 = .ok (.iload_n 3, 1) := by decide +kernel
theorem dX7_rowLength_48 : decode cX7_rowLength 48 = .ok (.ireturn, 1) := by decide +kernel
theorem dX7_layOrder_0 : decode cX7_layOrder 0 = .ok (.iconst 1, 1) := by decide +kernel
theorem dX7_layOrder_1 : decode cX7_layOrder 1 = .ok (.istore_n 1, 1) := by decide +kernel
theorem dX7_layOrder_2 : decode cX7_layOrder 2 = .ok (.aload_n 0, 1) := by decide +kernel
theorem dX7_layOrder_3 : decode cX7_layOrder 3 = .ok (.getfield 28, 3) := by decide +kernel
theorem dX7_layOrder_6 : decode cX7_layOrder 6 = .ok (.iconst 0, 1) := by decide +kernel
theorem dX7_layOrder_7 : decode cX7_layOrder 7 = .ok (.iconst 0, 1) := by decide +kernel
theorem dX7_layOrder_8 : decode cX7_layOrder 8 = .ok (.iastore, 1) := by decide +kernel
theorem dX7_layOrder_9 : decode cX7_layOrder 9 = .ok (.iconst 0, 1) := by decide +kernel
theorem dX7_layOrder_10 : decode cX7_layOrder 10 = .ok (.istore_n 2, 1) := by decide +kernel
theorem dX7_layOrder_11 : decode cX7_layOrder 11 = .ok (.iload_n 2, 1) := by decide +kernel
theorem dX7_layOrder_12 : decode cX7_layOrder 12 = .ok (.iload_n 1, 1) := by decide +kernel
theorem dX7_layOrder_13 : decode cX7_layOrder 13 = .ok (.if_icmp .ge 63, 3) := by decide +kernel
theorem dX7_layOrder_16 : decode cX7_layOrder 16 = .ok (.aload_n 0, 1) := by decide +kernel
theorem dX7_layOrder_17 : decode cX7_layOrder 17 = .ok (.aload_n 0, 1) := by decide +kernel
theorem dX7_layOrder_18 : decode cX7_layOrder 18 = .ok (.getfield 28, 3) := by decide +kernel
theorem dX7_layOrder_21 : decode cX7_layOrder 21 = .ok (.iload_n 2, 1) := by decide +kernel
theorem dX7_layOrder_22 : decode cX7_layOrder 22 = .ok (.iaload, 1) := by decide +kernel
theorem dX7_layOrder_23 : decode cX7_layOrder 23 = .ok (.iconst 0, 1) := by decide +kernel
theorem dX7_layOrder_24 : decode cX7_layOrder 24 = .ok (.invokevirtual 49, 3) := by decide +kernel
theorem dX7_layOrder_27 : decode cX7_layOrder 27 = .ok (.istore_n 3, 1) := by decide +kernel
theorem dX7_layOrder_28 : decode cX7_layOrder 28 = .ok (.iconst 0, 1) := by decide +kernel
theorem dX7_layOrder_29 : decode cX7_layOrder 29 = .ok (.istore 4, 2) := by decide +kernel
theorem dX7_layOrder_31 : decode cX7_layOrder 31 = .ok (.iload 4, 2) := by decide +kernel
theorem dX7_layOrder_33 : decode cX7_layOrder 33 = .ok (.aload_n 0, 1) := by decide +kernel
theorem dX7_layOrder_34 : decode cX7_layOrder 34 = .ok (.getfield 7, 3) := by decide +kernel
theorem dX7_layOrder_37 : decode cX7_layOrder 37 = .ok (.iconst 0, 1) := by decide +kernel
theorem dX7_layOrder_38 : decode cX7_layOrder 38 = .ok (.iaload, 1) := by decide +kernel
theorem dX7_layOrder_39 : decode cX7_layOrder 39 = .ok (.if_icmp .ge 31, 3) := by decide +kernel
theorem dX7_layOrder_42 : decode cX7_layOrder 42 = .ok (.aload_n 0, 1) := by decide +kernel
theorem dX7_layOrder_43 : decode cX7_layOrder 43 = .ok (.iload 4, 2) := by decide +kernel
theorem dX7_layOrder_45 : decode cX7_layOrder 45 = .ok (.iconst 2, 1) := by decide +kernel
theorem dX7_layOrder_46 : decode cX7_layOrder 46 = .ok (.invokevirtual 49, 3) := by decide +kernel
theorem dX7_layOrder_49 : decode cX7_layOrder 49 = .ok (.iload_n 3, 1) := by decide +kernel
theorem dX7_layOrder_50 : decode cX7_layOrder 50 = .ok (.if_icmp .ne 14, 3) := by decide +kernel
theorem dX7_layOrder_53 : decode cX7_layOrder 53 = .ok (.aload_n 0, 1) := by decide +kernel
theorem dX7_layOrder_54 : decode cX7_layOrder 54 = .ok (.getfield 28, 3) := by decide +kernel
theorem dX7_layOrder_57 : decode cX7_layOrder 57 = .ok (.iload_n 1, 1) := by decide +kernel
theorem dX7_layOrder_58 : decode cX7_layOrder 58 = .ok (.iload 4, 2) := by decide +kernel
theorem dX7_layOrder_60 : decode cX7_layOrder 60 = .ok (.iastore, 1) := by decide +kernel
theorem dX7_layOrder_61 : decode cX7_layOrder 61 = .ok (.iinc 1 1, 3) := by decide +kernel
theorem dX7_layOrder_64 : decode cX7_layOrder 64 = .ok (.iinc 4 1, 3) := by decide +kernel
theorem dX7_layOrder_67 : decode cX7_layOrder 67 = .ok (.goto (-36), 3) := by decide +kernel
theorem dX7_layOrder_70 : decode cX7_layOrder 70 = .ok (.iinc 2 1, 3) := by decide +kernel
theorem dX7_layOrder_73 : decode cX7_layOrder 73 = .ok (.goto (-62), 3) := by decide +kernel
theorem dX7_layOrder_76 : decode cX7_layOrder 76 = .ok (.return_, 1) := by decide +kernel
theorem dX7_lengthOf_0 : decode cX7_lengthOf 0 = .ok (.aload_n 0, 1) := by decide +kernel
theorem dX7_lengthOf_1 : decode cX7_lengthOf 1 = .ok (.iload_n 1, 1) := by decide +kernel
theorem dX7_lengthOf_2 : decode cX7_lengthOf 2 = .ok (.iconst 1, 1) := by decide +kernel
theorem dX7_lengthOf_3 : decode cX7_lengthOf 3 = .ok (.invokevirtual 49, 3) := by decide +kernel
theorem dX7_lengthOf_6 : decode cX7_lengthOf 6 = .ok (.iconst 1, 1) := by decide +kernel
theorem dX7_lengthOf_7 : decode cX7_lengthOf 7 = .ok (.if_icmp .ne 18, 3) := by decide +kernel
theorem dX7_lengthOf_10 : decode cX7_lengthOf 10 = .ok (.aload_n 0, 1) := by decide +kernel
theorem dX7_lengthOf_11 : decode cX7_lengthOf 11 = .ok (.iload_n 1, 1) := by decide +kernel
theorem dX7_lengthOf_12 : decode cX7_lengthOf 12 = .ok (.iconst 5, 1) := by decide +kernel
theorem dX7_lengthOf_13 : decode cX7_lengthOf 13 = .ok (.invokevirtual 49, 3) := by decide +kernel
theorem dX7_lengthOf_16 : decode cX7_lengthOf 16 = .ok (.aload_n 0, 1) := by decide +kernel
theorem dX7_lengthOf_17 : decode cX7_lengthOf 17 = .ok (.iload_n 1, 1) := by decide +kernel
theorem dX7_lengthOf_18 : decode cX7_lengthOf 18 = .ok (.bipush 6, 2) := by decide +kernel
theorem dX7_lengthOf_20 : decode cX7_lengthOf 20 = .ok (.invokevirtual 49, 3) := by decide +kernel
theorem dX7_lengthOf_23 : decode cX7_lengthOf 23 = .ok (.iadd, 1) := by decide +kernel
theorem dX7_lengthOf_24 : decode cX7_lengthOf 24 = .ok (.ireturn, 1) := by decide +kernel
theorem dX7_lengthOf_25 : decode cX7_lengthOf 25 = .ok (.iconst 0, 1) := by decide +kernel
theorem dX7_lengthOf_26 : decode cX7_lengthOf 26 = .ok (.istore_n 2, 1) := by decide +kernel
theorem dX7_lengthOf_27 : decode cX7_lengthOf 27 = .ok (.iconst 0, 1) := by decide +kernel
theorem dX7_lengthOf_28 : decode cX7_lengthOf 28 = .ok (.istore_n 3, 1) := by decide +kernel
theorem dX7_lengthOf_29 : decode cX7_lengthOf 29 = .ok (.iload_n 3, 1) := by decide +kernel
theorem dX7_lengthOf_30 : decode cX7_lengthOf 30 = .ok (.iconst 4, 1) := by decide +kernel
theorem dX7_lengthOf_31 : decode cX7_lengthOf 31 = .ok (.if_icmp .ge 35, 3) := by decide +kernel
theorem dX7_lengthOf_34 : decode cX7_lengthOf 34 = .ok (.aload_n 0, 1) := by decide +kernel
theorem dX7_lengthOf_35 : decode cX7_lengthOf 35 = .ok (.aload_n 0, 1) := by decide +kernel
theorem dX7_lengthOf_36 : decode cX7_lengthOf 36 = .ok (.iload_n 1, 1) := by decide +kernel
theorem dX7_lengthOf_37 : decode cX7_lengthOf 37 = .ok (.iconst 0, 1) := by decide +kernel
theorem dX7_lengthOf_38 : decode cX7_lengthOf 38 = .ok (.invokevirtual 49, 3) := by decide +kernel
theorem dX7_lengthOf_41 : decode cX7_lengthOf 41 = .ok (.iload_n 3, 1) := by decide +kernel
theorem dX7_lengthOf_42 : decode cX7_lengthOf 42 = .ok (.invokevirtual 68, 3) := by decide +kernel
theorem dX7_lengthOf_45 : decode cX7_lengthOf 45 = .ok (.istore 4, 2) := by decide +kernel
theorem dX7_lengthOf_47 : decode cX7_lengthOf 47 = .ok (.iload 4, 2) := by decide +kernel
theorem dX7_lengthOf_49 : decode cX7_lengthOf 49 = .ok (.iload_n 2, 1) := by decide +kernel
theorem dX7_lengthOf_50 : decode cX7_lengthOf 50 = .ok (.if_icmp .le 8, 3) := by decide +kernel
theorem dX7_lengthOf_53 : decode cX7_lengthOf 53 = .ok (.iload 4, 2) := by decide +kernel
theorem dX7_lengthOf_55 : decode cX7_lengthOf 55 = .ok (.goto 4, 3) := by decide +kernel
theorem dX7_lengthOf_58 : decode cX7_lengthOf 58 = .ok (.iload_n 2, 1) := by decide +kernel
theorem dX7_lengthOf_59 : decode cX7_lengthOf 59 = .ok (.istore_n 2, 1) := by decide +kernel
theorem dX7_lengthOf_60 : decode cX7_lengthOf 60 = .ok (.iinc 3 1, 3) := by decide +kernel
theorem dX7_lengthOf_63 : decode cX7_lengthOf 63 = .ok (.goto (-34), 3) := by decide +kernel
theorem dX7_lengthOf_66 : decode cX7_lengthOf 66 = .ok (.iload_n 2, 1) := by decide +kernel
theorem dX7_lengthOf_67 : decode cX7_lengthOf 67 = .ok (.ireturn, 1) := by decide +kernel
theorem dX7_rowSlack_0 : decode cX7_rowSlack 0 = .ok (.aload_n 0, 1) := by decide +kernel
theorem dX7_rowSlack_1 : decode cX7_rowSlack 1 = .ok (.getfield 16, 3) := by decide +kernel
theorem dX7_rowSlack_4 : decode cX7_rowSlack 4 = .ok (.aload_n 0, 1) := by decide +kernel
theorem dX7_rowSlack_5 : decode cX7_rowSlack 5 = .ok (.iload_n 1, 1) := by decide +kernel
theorem dX7_rowSlack_6 : decode cX7_rowSlack 6 = .ok (.invokevirtual 53, 3) := by decide +kernel
theorem dX7_rowSlack_9 : decode cX7_rowSlack 9 = .ok (.iaload, 1) := by decide +kernel
theorem dX7_rowSlack_10 : decode cX7_rowSlack 10 = .ok (.aload_n 0, 1) := by decide +kernel
theorem dX7_rowSlack_11 : decode cX7_rowSlack 11 = .ok (.iload_n 1, 1) := by decide +kernel
theorem dX7_rowSlack_12 : decode cX7_rowSlack 12 = .ok (.iload_n 2, 1) := by decide +kernel
theorem dX7_rowSlack_13 : decode cX7_rowSlack 13 = .ok (.invokevirtual 68, 3) := by decide +kernel
theorem dX7_rowSlack_16 : decode cX7_rowSlack 16 = .ok (.isub, 1) := by decide +kernel
theorem dX7_rowSlack_17 : decode cX7_rowSlack 17 = .ok (.ireturn, 1) := by decide +kernel
theorem dX7_layTimes_0 : decode cX7_layTimes 0 = .ok (.aload_n 0, 1) := by decide +kernel
theorem dX7_layTimes_1 : decode cX7_layTimes 1 = .ok (.iload_n 1, 1) := by decide +kernel
theorem dX7_layTimes_2 : decode cX7_layTimes 2 = .ok (.iconst 2, 1) := by decide +kernel
theorem dX7_layTimes_3 : decode cX7_layTimes 3 = .ok (.invokevirtual 49, 3) := by decide +kernel
theorem dX7_layTimes_6 : decode cX7_layTimes 6 = .ok (.istore_n 2, 1) := by decide +kernel
theorem dX7_layTimes_7 : decode cX7_layTimes 7 = .ok (.aload_n 0, 1) := by decide +kernel
theorem dX7_layTimes_8 : decode cX7_layTimes 8 = .ok (.iload_n 2, 1) := by decide +kernel
theorem dX7_layTimes_9 : decode cX7_layTimes 9 = .ok (.invokevirtual 53, 3) := by decide +kernel
theorem dX7_layTimes_12 : decode cX7_layTimes 12 = .ok (.istore_n 3, 1) := by decide +kernel
theorem dX7_layTimes_13 : decode cX7_layTimes 13 = .ok (.iconst 0, 1) := by decide +kernel
theorem dX7_layTimes_14 : decode cX7_layTimes 14 = .ok (.istore 4, 2) := by decide +kernel
theorem dX7_layTimes_16 : decode cX7_layTimes 16 = .ok (.iconst 0, 1) := by decide +kernel
theorem dX7_layTimes_17 : decode cX7_layTimes 17 = .ok (.istore 5, 2) := by decide +kernel
theorem dX7_layTimes_19 : decode cX7_layTimes 19 = .ok (.iload 5, 2) := by decide +kernel
theorem dX7_layTimes_21 : decode cX7_layTimes 21 = .ok (.aload_n 0, 1) := by decide +kernel
theorem dX7_layTimes_22 : decode cX7_layTimes 22 = .ok (.getfield 7, 3) := by decide +kernel
theorem dX7_layTimes_25 : decode cX7_layTimes 25 = .ok (.iconst 0, 1) := by decide +kernel
theorem dX7_layTimes_26 : decode cX7_layTimes 26 = .ok (.iaload, 1) := by decide +kernel
theorem dX7_layTimes_27 : decode cX7_layTimes 27 = .ok (.if_icmp .ge 57, 3) := by decide +kernel
theorem dX7_layTimes_30 : decode cX7_layTimes 30 = .ok (.iload 4, 2) := by decide +kernel
theorem dX7_layTimes_32 : decode cX7_layTimes 32 = .ok (.aload_n 0, 1) := by decide +kernel
theorem dX7_layTimes_33 : decode cX7_layTimes 33 = .ok (.iload 5, 2) := by decide +kernel
theorem dX7_layTimes_35 : decode cX7_layTimes 35 = .ok (.iload_n 2, 1) := by decide +kernel
theorem dX7_layTimes_36 : decode cX7_layTimes 36 = .ok (.aload_n 0, 1) := by decide +kernel
theorem dX7_layTimes_37 : decode cX7_layTimes 37 = .ok (.iload_n 1, 1) := by decide +kernel
theorem dX7_layTimes_38 : decode cX7_layTimes 38 = .ok (.iconst 3, 1) := by decide +kernel
theorem dX7_layTimes_39 : decode cX7_layTimes 39 = .ok (.invokevirtual 49, 3) := by decide +kernel
theorem dX7_layTimes_42 : decode cX7_layTimes 42 = .ok (.invokevirtual 64, 3) := by decide +kernel
theorem dX7_layTimes_45 : decode cX7_layTimes 45 = .ok (.ifCond .eq 29, 3) := by decide +kernel
theorem dX7_layTimes_48 : decode cX7_layTimes 48 = .ok (.aload_n 0, 1) := by decide +kernel
theorem dX7_layTimes_49 : decode cX7_layTimes 49 = .ok (.iload 5, 2) := by decide +kernel
theorem dX7_layTimes_51 : decode cX7_layTimes 51 = .ok (.iconst 4, 1) := by decide +kernel
theorem dX7_layTimes_52 : decode cX7_layTimes 52 = .ok (.invokevirtual 49, 3) := by decide +kernel
theorem dX7_layTimes_55 : decode cX7_layTimes 55 = .ok (.aload_n 0, 1) := by decide +kernel
theorem dX7_layTimes_56 : decode cX7_layTimes 56 = .ok (.iload_n 1, 1) := by decide +kernel
theorem dX7_layTimes_57 : decode cX7_layTimes 57 = .ok (.iconst 4, 1) := by decide +kernel
theorem dX7_layTimes_58 : decode cX7_layTimes 58 = .ok (.invokevirtual 49, 3) := by decide +kernel
theorem dX7_layTimes_61 : decode cX7_layTimes 61 = .ok (.if_icmp .ge 13, 3) := by decide +kernel
theorem dX7_layTimes_64 : decode cX7_layTimes 64 = .ok (.aload_n 0, 1) := by decide +kernel
theorem dX7_layTimes_65 : decode cX7_layTimes 65 = .ok (.getfield 16, 3) := by decide +kernel
theorem dX7_layTimes_68 : decode cX7_layTimes 68 = .ok (.iload 5, 2) := by decide +kernel
theorem dX7_layTimes_70 : decode cX7_layTimes 70 = .ok (.iaload, 1) := by decide +kernel
theorem dX7_layTimes_71 : decode cX7_layTimes 71 = .ok (.goto 4, 3) := by decide +kernel
theorem dX7_layTimes_74 : decode cX7_layTimes 74 = .ok (.iconst 0, 1) := by decide +kernel
theorem dX7_layTimes_75 : decode cX7_layTimes 75 = .ok (.iadd, 1) := by decide +kernel
theorem dX7_layTimes_76 : decode cX7_layTimes 76 = .ok (.istore 4, 2) := by decide +kernel
theorem dX7_layTimes_78 : decode cX7_layTimes 78 = .ok (.iinc 5 1, 3) := by decide +kernel
theorem dX7_layTimes_81 : decode cX7_layTimes 81 = .ok (.goto (-62), 3) := by decide +kernel
theorem dX7_layTimes_84 : decode cX7_layTimes 84 = .ok (.aload_n 0, 1) := by decide +kernel
theorem dX7_layTimes_85 : decode cX7_layTimes 85 = .ok (.getfield 19, 3) := by decide +kernel
theorem dX7_layTimes_88 : decode cX7_layTimes 88 = .ok (.iload_n 1, 1) := by decide +kernel
theorem dX7_layTimes_89 : decode cX7_layTimes 89 = .ok (.aload_n 0, 1) := by decide +kernel
theorem dX7_layTimes_90 : decode cX7_layTimes 90 = .ok (.getfield 19, 3) := by decide +kernel
theorem dX7_layTimes_93 : decode cX7_layTimes 93 = .ok (.iload_n 3, 1) := by decide +kernel
theorem dX7_layTimes_94 : decode cX7_layTimes 94 = .ok (.iaload, 1) := by decide +kernel
theorem dX7_layTimes_95 : decode cX7_layTimes 95 = .ok (.iload 4, 2) := by decide +kernel
theorem dX7_layTimes_97 : decode cX7_layTimes 97 = .ok (.iadd, 1) := by decide +kernel
theorem dX7_layTimes_98 : decode cX7_layTimes 98 = .ok (.iastore, 1) := by decide +kernel
theorem dX7_layTimes_99 : decode cX7_layTimes 99 = .ok (.aload_n 0, 1) := by decide +kernel
theorem dX7_layTimes_100 : decode cX7_layTimes 100 = .ok (.getfield 22, 3) := by decide +kernel
theorem dX7_layTimes_103 : decode cX7_layTimes 103 = .ok (.iload_n 1, 1) := by decide +kernel
theorem dX7_layTimes_104 : decode cX7_layTimes 104 = .ok (.aload_n 0, 1) := by decide +kernel
theorem dX7_layTimes_105 : decode cX7_layTimes 105 = .ok (.getfield 22, 3) := by decide +kernel
theorem dX7_layTimes_108 : decode cX7_layTimes 108 = .ok (.iload_n 3, 1) := by decide +kernel
theorem dX7_layTimes_109 : decode cX7_layTimes 109 = .ok (.iaload, 1) := by decide +kernel
theorem dX7_layTimes_110 : decode cX7_layTimes 110 = .ok (.aload_n 0, 1) := by decide +kernel
theorem dX7_layTimes_111 : decode cX7_layTimes 111 = .ok (.iload_n 2, 1) := by decide +kernel
theorem dX7_layTimes_112 : decode cX7_layTimes 112 = .ok (.aload_n 0, 1) := by decide +kernel
theorem dX7_layTimes_113 : decode cX7_layTimes 113 = .ok (.iload_n 1, 1) := by decide +kernel
theorem dX7_layTimes_114 : decode cX7_layTimes 114 = .ok (.iconst 3, 1) := by decide +kernel
theorem dX7_layTimes_115 : decode cX7_layTimes 115 = .ok (.invokevirtual 49, 3) := by decide +kernel
theorem dX7_layTimes_118 : decode cX7_layTimes 118 = .ok (.invokevirtual 71, 3) := by decide +kernel
theorem dX7_layTimes_121 : decode cX7_layTimes 121 = .ok (.iadd, 1) := by decide +kernel
theorem dX7_layTimes_122 : decode cX7_layTimes 122 = .ok (.iastore, 1) := by decide +kernel
theorem dX7_layTimes_123 : decode cX7_layTimes 123 = .ok (.aload_n 0, 1) := by decide +kernel
theorem dX7_layTimes_124 : decode cX7_layTimes 124 = .ok (.getfield 25, 3) := by decide +kernel
theorem dX7_layTimes_127 : decode cX7_layTimes 127 = .ok (.iload_n 1, 1) := by decide +kernel
theorem dX7_layTimes_128 : decode cX7_layTimes 128 = .ok (.aload_n 0, 1) := by decide +kernel
theorem dX7_layTimes_129 : decode cX7_layTimes 129 = .ok (.getfield 25, 3) := by decide +kernel
theorem dX7_layTimes_132 : decode cX7_layTimes 132 = .ok (.iload_n 3, 1) := by decide +kernel
theorem dX7_layTimes_133 : decode cX7_layTimes 133 = .ok (.iaload, 1) := by decide +kernel
theorem dX7_layTimes_134 : decode cX7_layTimes 134 = .ok (.iconst 1, 1) := by decide +kernel
theorem dX7_layTimes_135 : decode cX7_layTimes 135 = .ok (.iadd, 1) := by decide +kernel
theorem dX7_layTimes_136 : decode cX7_layTimes 136 = .ok (.iastore, 1) := by decide +kernel
theorem dX7_layTimes_137 : decode cX7_layTimes 137 = .ok (.return_, 1) := by decide +kernel
theorem dX7_lay_0 : decode cX7_lay 0 = .ok (.aload_n 0, 1) := by decide +kernel
theorem dX7_lay_1 : decode cX7_lay 1 = .ok (.invokevirtual 74, 3) := by decide +kernel
theorem dX7_lay_4 : decode cX7_lay 4 = .ok (.aload_n 0, 1) := by decide +kernel
theorem dX7_lay_5 : decode cX7_lay 5 = .ok (.getfield 7, 3) := by decide +kernel
theorem dX7_lay_8 : decode cX7_lay 8 = .ok (.iconst 0, 1) := by decide +kernel
theorem dX7_lay_9 : decode cX7_lay 9 = .ok (.iaload, 1) := by decide +kernel
theorem dX7_lay_10 : decode cX7_lay 10 = .ok (.iconst 1, 1) := by decide +kernel
theorem dX7_lay_11 : decode cX7_lay 11 = .ok (.isub, 1) := by decide +kernel
theorem dX7_lay_12 : decode cX7_lay 12 = .ok (.istore_n 1, 1) := by decide +kernel
theorem dX7_lay_13 : decode cX7_lay 13 = .ok (.iload_n 1, 1) := by decide +kernel
theorem dX7_lay_14 : decode cX7_lay 14 = .ok (.ifCond .lt 30, 3) := by decide +kernel
theorem dX7_lay_17 : decode cX7_lay 17 = .ok (.aload_n 0, 1) := by decide +kernel
theorem dX7_lay_18 : decode cX7_lay 18 = .ok (.getfield 16, 3) := by decide +kernel
theorem dX7_lay_21 : decode cX7_lay 21 = .ok (.aload_n 0, 1) := by decide +kernel
theorem dX7_lay_22 : decode cX7_lay 22 = .ok (.getfield 28, 3) := by decide +kernel
theorem dX7_lay_25 : decode cX7_lay 25 = .ok (.iload_n 1, 1) := by decide +kernel
theorem dX7_lay_26 : decode cX7_lay 26 = .ok (.iaload, 1) := by decide +kernel
theorem dX7_lay_27 : decode cX7_lay 27 = .ok (.aload_n 0, 1) := by decide +kernel
theorem dX7_lay_28 : decode cX7_lay 28 = .ok (.aload_n 0, 1) := by decide +kernel
theorem dX7_lay_29 : decode cX7_lay 29 = .ok (.getfield 28, 3) := by decide +kernel
theorem dX7_lay_32 : decode cX7_lay 32 = .ok (.iload_n 1, 1) := by decide +kernel
theorem dX7_lay_33 : decode cX7_lay 33 = .ok (.iaload, 1) := by decide +kernel
theorem dX7_lay_34 : decode cX7_lay 34 = .ok (.invokevirtual 77, 3) := by decide +kernel
theorem dX7_lay_37 : decode cX7_lay 37 = .ok (.iastore, 1) := by decide +kernel
theorem dX7_lay_38 : decode cX7_lay 38 = .ok (.iinc 1 (-1), 3) := by decide +kernel
theorem dX7_lay_41 : decode cX7_lay 41 = .ok (.goto (-28), 3) := by decide +kernel
theorem dX7_lay_44 : decode cX7_lay 44 = .ok (.aload_n 0, 1) := by decide +kernel
theorem dX7_lay_45 : decode cX7_lay 45 = .ok (.getfield 19, 3) := by decide +kernel
theorem dX7_lay_48 : decode cX7_lay 48 = .ok (.iconst 0, 1) := by decide +kernel
theorem dX7_lay_49 : decode cX7_lay 49 = .ok (.iconst 0, 1) := by decide +kernel
theorem dX7_lay_50 : decode cX7_lay 50 = .ok (.iastore, 1) := by decide +kernel
theorem dX7_lay_51 : decode cX7_lay 51 = .ok (.aload_n 0, 1) := by decide +kernel
theorem dX7_lay_52 : decode cX7_lay 52 = .ok (.getfield 22, 3) := by decide +kernel
theorem dX7_lay_55 : decode cX7_lay 55 = .ok (.iconst 0, 1) := by decide +kernel
theorem dX7_lay_56 : decode cX7_lay 56 = .ok (.iconst 0, 1) := by decide +kernel
theorem dX7_lay_57 : decode cX7_lay 57 = .ok (.iastore, 1) := by decide +kernel
theorem dX7_lay_58 : decode cX7_lay 58 = .ok (.aload_n 0, 1) := by decide +kernel
theorem dX7_lay_59 : decode cX7_lay 59 = .ok (.getfield 25, 3) := by decide +kernel
theorem dX7_lay_62 : decode cX7_lay 62 = .ok (.iconst 0, 1) := by decide +kernel
theorem dX7_lay_63 : decode cX7_lay 63 = .ok (.iconst 0, 1) := by decide +kernel
theorem dX7_lay_64 : decode cX7_lay 64 = .ok (.iastore, 1) := by decide +kernel
theorem dX7_lay_65 : decode cX7_lay 65 = .ok (.iconst 1, 1) := by decide +kernel
theorem dX7_lay_66 : decode cX7_lay 66 = .ok (.istore_n 1, 1) := by decide +kernel
theorem dX7_lay_67 : decode cX7_lay 67 = .ok (.iload_n 1, 1) := by decide +kernel
theorem dX7_lay_68 : decode cX7_lay 68 = .ok (.aload_n 0, 1) := by decide +kernel
theorem dX7_lay_69 : decode cX7_lay 69 = .ok (.getfield 7, 3) := by decide +kernel
theorem dX7_lay_72 : decode cX7_lay 72 = .ok (.iconst 0, 1) := by decide +kernel
theorem dX7_lay_73 : decode cX7_lay 73 = .ok (.iaload, 1) := by decide +kernel
theorem dX7_lay_74 : decode cX7_lay 74 = .ok (.if_icmp .ge 19, 3) := by decide +kernel
theorem dX7_lay_77 : decode cX7_lay 77 = .ok (.aload_n 0, 1) := by decide +kernel
theorem dX7_lay_78 : decode cX7_lay 78 = .ok (.aload_n 0, 1) := by decide +kernel
theorem dX7_lay_79 : decode cX7_lay 79 = .ok (.getfield 28, 3) := by decide +kernel
theorem dX7_lay_82 : decode cX7_lay 82 = .ok (.iload_n 1, 1) := by decide +kernel
theorem dX7_lay_83 : decode cX7_lay 83 = .ok (.iaload, 1) := by decide +kernel
theorem dX7_lay_84 : decode cX7_lay 84 = .ok (.invokevirtual 80, 3) := by decide +kernel
theorem dX7_lay_87 : decode cX7_lay 87 = .ok (.iinc 1 1, 3) := by decide +kernel
theorem dX7_lay_90 : decode cX7_lay 90 = .ok (.goto (-23), 3) := by decide +kernel
theorem dX7_lay_93 : decode cX7_lay 93 = .ok (.return_, 1) := by decide +kernel
theorem dX7_end_0 : decode cX7_end 0 = .ok (.aload_n 0, 1) := by decide +kernel
theorem dX7_end_1 : decode cX7_end 1 = .ok (.invokevirtual 84, 3) := by decide +kernel
theorem dX7_end_4 : decode cX7_end 4 = .ok (.aload_n 0, 1) := by decide +kernel
theorem dX7_end_5 : decode cX7_end 5 = .ok (.getfield 16, 3) := by decide +kernel
theorem dX7_end_8 : decode cX7_end 8 = .ok (.iconst 0, 1) := by decide +kernel
theorem dX7_end_9 : decode cX7_end 9 = .ok (.iaload, 1) := by decide +kernel
theorem dX7_end_10 : decode cX7_end 10 = .ok (.ireturn, 1) := by decide +kernel
theorem dX7_lateness_0 : decode cX7_lateness 0 = .ok (.aload_n 0, 1) := by decide +kernel
theorem dX7_lateness_1 : decode cX7_lateness 1 = .ok (.invokevirtual 87, 3) := by decide +kernel
theorem dX7_lateness_4 : decode cX7_lateness 4 = .ok (.aload_n 0, 1) := by decide +kernel
theorem dX7_lateness_5 : decode cX7_lateness 5 = .ok (.getfield 7, 3) := by decide +kernel
theorem dX7_lateness_8 : decode cX7_lateness 8 = .ok (.iconst 2, 1) := by decide +kernel
theorem dX7_lateness_9 : decode cX7_lateness 9 = .ok (.iaload, 1) := by decide +kernel
theorem dX7_lateness_10 : decode cX7_lateness 10 = .ok (.isub, 1) := by decide +kernel
theorem dX7_lateness_11 : decode cX7_lateness 11 = .ok (.istore_n 1, 1) := by decide +kernel
theorem dX7_lateness_12 : decode cX7_lateness 12 = .ok (.iload_n 1, 1) := by decide +kernel
theorem dX7_lateness_13 : decode cX7_lateness 13 = .ok (.ifCond .le 7, 3) := by decide +kernel
theorem dX7_lateness_16 : decode cX7_lateness 16 = .ok (.iload_n 1, 1) := by decide +kernel
theorem dX7_lateness_17 : decode cX7_lateness 17 = .ok (.goto 4, 3) := by decide +kernel
theorem dX7_lateness_20 : decode cX7_lateness 20 = .ok (.iconst 0, 1) := by decide +kernel
theorem dX7_lateness_21 : decode cX7_lateness 21 = .ok (.ireturn, 1) := by decide +kernel
theorem dX7_childrenOf_0 : decode cX7_childrenOf 0 = .ok (.iconst 0, 1) := by decide +kernel
theorem dX7_childrenOf_1 : decode cX7_childrenOf 1 = .ok (.istore_n 3, 1) := by decide +kernel
theorem dX7_childrenOf_2 : decode cX7_childrenOf 2 = .ok (.iconst 0, 1) := by decide +kernel
theorem dX7_childrenOf_3 : decode cX7_childrenOf 3 = .ok (.istore 4, 2) := by decide +kernel
theorem dX7_childrenOf_5 : decode cX7_childrenOf 5 = .ok (.iload 4, 2) := by decide +kernel
theorem dX7_childrenOf_7 : decode cX7_childrenOf 7 = .ok (.aload_n 0, 1) := by decide +kernel
theorem dX7_childrenOf_8 : decode cX7_childrenOf 8 = .ok (.getfield 7, 3) := by decide +kernel
theorem dX7_childrenOf_11 : decode cX7_childrenOf 11 = .ok (.iconst 0, 1) := by decide +kernel
theorem dX7_childrenOf_12 : decode cX7_childrenOf 12 = .ok (.iaload, 1) := by decide +kernel
theorem dX7_childrenOf_13 : decode cX7_childrenOf 13 = .ok (.if_icmp .ge 28, 3) := by decide +kernel
theorem dX7_childrenOf_16 : decode cX7_childrenOf 16 = .ok (.iload_n 3, 1) := by decide +kernel
theorem dX7_childrenOf_17 : decode cX7_childrenOf 17 = .ok (.aload_n 0, 1) := by decide +kernel
theorem dX7_childrenOf_18 : decode cX7_childrenOf 18 = .ok (.iload 4, 2) := by decide +kernel
theorem dX7_childrenOf_20 : decode cX7_childrenOf 20 = .ok (.iload_n 1, 1) := by decide +kernel
theorem dX7_childrenOf_21 : decode cX7_childrenOf 21 = .ok (.iload_n 2, 1) := by decide +kernel
theorem dX7_childrenOf_22 : decode cX7_childrenOf 22 = .ok (.invokevirtual 64, 3) := by decide +kernel
theorem dX7_childrenOf_25 : decode cX7_childrenOf 25 = .ok (.ifCond .eq 7, 3) := by decide +kernel
theorem dX7_childrenOf_28 : decode cX7_childrenOf 28 = .ok (.iconst 1, 1) := by decide +kernel
theorem dX7_childrenOf_29 : decode cX7_childrenOf 29 = .ok (.goto 4, 3) := by decide +kernel
theorem dX7_childrenOf_32 : decode cX7_childrenOf 32 = .ok (.iconst 0, 1) := by decide +kernel
theorem dX7_childrenOf_33 : decode cX7_childrenOf 33 = .ok (.iadd, 1) := by decide +kernel
theorem dX7_childrenOf_34 : decode cX7_childrenOf 34 = .ok (.istore_n 3, 1) := by decide +kernel
theorem dX7_childrenOf_35 : decode cX7_childrenOf 35 = .ok (.iinc 4 1, 3) := by decide +kernel
theorem dX7_childrenOf_38 : decode cX7_childrenOf 38 = .ok (.goto (-33), 3) := by decide +kernel
theorem dX7_childrenOf_41 : decode cX7_childrenOf 41 = .ok (.iload_n 3, 1) := by decide +kernel
theorem dX7_childrenOf_42 : decode cX7_childrenOf 42 = .ok (.ireturn, 1) := by decide +kernel
theorem dX7_whyNotAdd_0 : decode cX7_whyNotAdd 0 = .ok (.aload_n 0, 1) := by decide +kernel
theorem dX7_whyNotAdd_1 : decode cX7_whyNotAdd 1 = .ok (.iload_n 1, 1) := by decide +kernel
theorem dX7_whyNotAdd_2 : decode cX7_whyNotAdd 2 = .ok (.invokevirtual 53, 3) := by decide +kernel
theorem dX7_whyNotAdd_5 : decode cX7_whyNotAdd 5 = .ok (.iconst (-1), 1) := by decide +kernel
theorem dX7_whyNotAdd_6 : decode cX7_whyNotAdd 6 = .ok (.if_icmp .ne 5, 3) := by decide +kernel
theorem dX7_whyNotAdd_9 : decode cX7_whyNotAdd 9 = .ok (.iconst 1, 1) := by decide +kernel
theorem dX7_whyNotAdd_10 : decode cX7_whyNotAdd 10 = .ok (.ireturn, 1) := by decide +kernel
theorem dX7_whyNotAdd_11 : decode cX7_whyNotAdd 11 = .ok (.iload_n 2, 1) := by decide +kernel
theorem dX7_whyNotAdd_12 : decode cX7_whyNotAdd 12 = .ok (.iconst 0, 1) := by decide +kernel
theorem dX7_whyNotAdd_13 : decode cX7_whyNotAdd 13 = .ok (.iconst 3, 1) := by decide +kernel
theorem dX7_whyNotAdd_14 : decode cX7_whyNotAdd 14 = .ok (.invokestatic 91, 3) := by decide +kernel
theorem dX7_whyNotAdd_17 : decode cX7_whyNotAdd 17 = .ok (.ifCond .eq 13, 3) := by decide +kernel
theorem dX7_whyNotAdd_20 : decode cX7_whyNotAdd 20 = .ok (.iload_n 3, 1) := by decide +kernel
theorem dX7_whyNotAdd_21 : decode cX7_whyNotAdd 21 = .ok (.iconst 0, 1) := by decide +kernel
theorem dX7_whyNotAdd_22 : decode cX7_whyNotAdd 22 = .ok (.bipush 60, 2) := by decide +kernel
theorem dX7_whyNotAdd_24 : decode cX7_whyNotAdd 24 = .ok (.invokestatic 91, 3) := by decide +kernel
theorem dX7_whyNotAdd_27 : decode cX7_whyNotAdd 27 = .ok (.ifCond .ne 5, 3) := by decide +kernel
theorem dX7_whyNotAdd_30 : decode cX7_whyNotAdd 30 = .ok (.iconst 2, 1) := by decide +kernel
theorem dX7_whyNotAdd_31 : decode cX7_whyNotAdd 31 = .ok (.ireturn, 1) := by decide +kernel
theorem dX7_whyNotAdd_32 : decode cX7_whyNotAdd 32 = .ok (.aload_n 0, 1) := by decide +kernel
theorem dX7_whyNotAdd_33 : decode cX7_whyNotAdd 33 = .ok (.iload_n 1, 1) := by decide +kernel
theorem dX7_whyNotAdd_34 : decode cX7_whyNotAdd 34 = .ok (.invokevirtual 94, 3) := by decide +kernel
theorem dX7_whyNotAdd_37 : decode cX7_whyNotAdd 37 = .ok (.ifCond .ne 14, 3) := by decide +kernel
theorem dX7_whyNotAdd_40 : decode cX7_whyNotAdd 40 = .ok (.aload_n 0, 1) := by decide +kernel
theorem dX7_whyNotAdd_41 : decode cX7_whyNotAdd 41 = .ok (.getfield 7, 3) := by decide +kernel
theorem dX7_whyNotAdd_44 : decode cX7_whyNotAdd 44 = .ok (.iconst 0, 1) := by decide +kernel
theorem dX7_whyNotAdd_45 : decode cX7_whyNotAdd 45 = .ok (.iaload, 1) := by decide +kernel
theorem dX7_whyNotAdd_46 : decode cX7_whyNotAdd 46 = .ok (.bipush 24, 2) := by decide +kernel
theorem dX7_whyNotAdd_48 : decode cX7_whyNotAdd 48 = .ok (.if_icmp .ne 7, 3) := by decide +kernel
theorem dX7_whyNotAdd_51 : decode cX7_whyNotAdd 51 = .ok (.iconst 3, 1) := by decide +kernel
theorem dX7_whyNotAdd_52 : decode cX7_whyNotAdd 52 = .ok (.goto 4, 3) := by decide +kernel
theorem dX7_whyNotAdd_55 : decode cX7_whyNotAdd 55 = .ok (.iconst 0, 1) := by decide +kernel
theorem dX7_whyNotAdd_56 : decode cX7_whyNotAdd 56 = .ok (.ireturn, 1) := by decide +kernel
theorem dX7_adds_0 : decode cX7_adds 0 = .ok (.aload_n 0, 1) := by decide +kernel
theorem dX7_adds_1 : decode cX7_adds 1 = .ok (.getfield 7, 3) := by decide +kernel
theorem dX7_adds_4 : decode cX7_adds 4 = .ok (.iconst 0, 1) := by decide +kernel
theorem dX7_adds_5 : decode cX7_adds 5 = .ok (.iaload, 1) := by decide +kernel
theorem dX7_adds_6 : decode cX7_adds 6 = .ok (.istore 5, 2) := by decide +kernel
theorem dX7_adds_8 : decode cX7_adds 8 = .ok (.aload_n 0, 1) := by decide +kernel
theorem dX7_adds_9 : decode cX7_adds 9 = .ok (.iload_n 1, 1) := by decide +kernel
theorem dX7_adds_10 : decode cX7_adds 10 = .ok (.iload_n 2, 1) := by decide +kernel
theorem dX7_adds_11 : decode cX7_adds 11 = .ok (.invokevirtual 97, 3) := by decide +kernel
theorem dX7_adds_14 : decode cX7_adds 14 = .ok (.istore 6, 2) := by decide +kernel
theorem dX7_adds_16 : decode cX7_adds 16 = .ok (.aload_n 0, 1) := by decide +kernel
theorem dX7_adds_17 : decode cX7_adds 17 = .ok (.getfield 7, 3) := by decide +kernel
theorem dX7_adds_20 : decode cX7_adds 20 = .ok (.iconst 0, 1) := by decide +kernel
theorem dX7_adds_21 : decode cX7_adds 21 = .ok (.dup2, 1) := by decide +kernel
theorem dX7_adds_22 : decode cX7_adds 22 = .ok (.iaload, 1) := by decide +kernel
theorem dX7_adds_23 : decode cX7_adds 23 = .ok (.iconst 1, 1) := by decide +kernel
theorem dX7_adds_24 : decode cX7_adds 24 = .ok (.iadd, 1) := by decide +kernel
theorem dX7_adds_25 : decode cX7_adds 25 = .ok (.iastore, 1) := by decide +kernel
theorem dX7_adds_26 : decode cX7_adds 26 = .ok (.aload_n 0, 1) := by decide +kernel
theorem dX7_adds_27 : decode cX7_adds 27 = .ok (.iload 5, 2) := by decide +kernel
theorem dX7_adds_29 : decode cX7_adds 29 = .ok (.iconst 0, 1) := by decide +kernel
theorem dX7_adds_30 : decode cX7_adds 30 = .ok (.aload_n 0, 1) := by decide +kernel
theorem dX7_adds_31 : decode cX7_adds 31 = .ok (.getfield 7, 3) := by decide +kernel
theorem dX7_adds_34 : decode cX7_adds 34 = .ok (.iconst 1, 1) := by decide +kernel
theorem dX7_adds_35 : decode cX7_adds 35 = .ok (.iaload, 1) := by decide +kernel
theorem dX7_adds_36 : decode cX7_adds 36 = .ok (.invokevirtual 100, 3) := by decide +kernel
theorem dX7_adds_39 : decode cX7_adds 39 = .ok (.aload_n 0, 1) := by decide +kernel
theorem dX7_adds_40 : decode cX7_adds 40 = .ok (.iload 5, 2) := by decide +kernel
theorem dX7_adds_42 : decode cX7_adds 42 = .ok (.iconst 1, 1) := by decide +kernel
theorem dX7_adds_43 : decode cX7_adds 43 = .ok (.iload_n 3, 1) := by decide +kernel
theorem dX7_adds_44 : decode cX7_adds 44 = .ok (.invokevirtual 100, 3) := by decide +kernel
theorem dX7_adds_47 : decode cX7_adds 47 = .ok (.aload_n 0, 1) := by decide +kernel
theorem dX7_adds_48 : decode cX7_adds 48 = .ok (.iload 5, 2) := by decide +kernel
theorem dX7_adds_50 : decode cX7_adds 50 = .ok (.iconst 2, 1) := by decide +kernel
theorem dX7_adds_51 : decode cX7_adds 51 = .ok (.iload_n 1, 1) := by decide +kernel
theorem dX7_adds_52 : decode cX7_adds 52 = .ok (.invokevirtual 100, 3) := by decide +kernel
theorem dX7_adds_55 : decode cX7_adds 55 = .ok (.aload_n 0, 1) := by decide +kernel
theorem dX7_adds_56 : decode cX7_adds 56 = .ok (.iload 5, 2) := by decide +kernel
theorem dX7_adds_58 : decode cX7_adds 58 = .ok (.iconst 3, 1) := by decide +kernel
theorem dX7_adds_59 : decode cX7_adds 59 = .ok (.iload_n 2, 1) := by decide +kernel
theorem dX7_adds_60 : decode cX7_adds 60 = .ok (.invokevirtual 100, 3) := by decide +kernel
theorem dX7_adds_63 : decode cX7_adds 63 = .ok (.aload_n 0, 1) := by decide +kernel
theorem dX7_adds_64 : decode cX7_adds 64 = .ok (.iload 5, 2) := by decide +kernel
theorem dX7_adds_66 : decode cX7_adds 66 = .ok (.iconst 4, 1) := by decide +kernel
theorem dX7_adds_67 : decode cX7_adds 67 = .ok (.iload 6, 2) := by decide +kernel
theorem dX7_adds_69 : decode cX7_adds 69 = .ok (.invokevirtual 100, 3) := by decide +kernel
theorem dX7_adds_72 : decode cX7_adds 72 = .ok (.aload_n 0, 1) := by decide +kernel
theorem dX7_adds_73 : decode cX7_adds 73 = .ok (.iload 5, 2) := by decide +kernel
theorem dX7_adds_75 : decode cX7_adds 75 = .ok (.iconst 5, 1) := by decide +kernel
theorem dX7_adds_76 : decode cX7_adds 76 = .ok (.iload 4, 2) := by decide +kernel
theorem dX7_adds_78 : decode cX7_adds 78 = .ok (.invokevirtual 100, 3) := by decide +kernel
theorem dX7_adds_81 : decode cX7_adds 81 = .ok (.aload_n 0, 1) := by decide +kernel
theorem dX7_adds_82 : decode cX7_adds 82 = .ok (.iload 5, 2) := by decide +kernel
theorem dX7_adds_84 : decode cX7_adds 84 = .ok (.bipush 6, 2) := by decide +kernel
theorem dX7_adds_86 : decode cX7_adds 86 = .ok (.iconst 0, 1) := by decide +kernel
theorem dX7_adds_87 : decode cX7_adds 87 = .ok (.invokevirtual 100, 3) := by decide +kernel
theorem dX7_adds_90 : decode cX7_adds 90 = .ok (.aload_n 0, 1) := by decide +kernel
theorem dX7_adds_91 : decode cX7_adds 91 = .ok (.getfield 7, 3) := by decide +kernel
theorem dX7_adds_94 : decode cX7_adds 94 = .ok (.iconst 1, 1) := by decide +kernel
theorem dX7_adds_95 : decode cX7_adds 95 = .ok (.dup2, 1) := by decide +kernel
theorem dX7_adds_96 : decode cX7_adds 96 = .ok (.iaload, 1) := by decide +kernel
theorem dX7_adds_97 : decode cX7_adds 97 = .ok (.iconst 1, 1) := by decide +kernel
theorem dX7_adds_98 : decode cX7_adds 98 = .ok (.iadd, 1) := by decide +kernel
theorem dX7_adds_99 : decode cX7_adds 99 = .ok (.iastore, 1) := by decide +kernel
theorem dX7_adds_100 : decode cX7_adds 100 = .ok (.aload_n 0, 1) := by decide +kernel
theorem dX7_adds_101 : decode cX7_adds 101 = .ok (.getfield 7, 3) := by decide +kernel
theorem dX7_adds_104 : decode cX7_adds 104 = .ok (.iconst 1, 1) := by decide +kernel
theorem dX7_adds_105 : decode cX7_adds 105 = .ok (.iaload, 1) := by decide +kernel
theorem dX7_adds_106 : decode cX7_adds 106 = .ok (.iconst 1, 1) := by decide +kernel
theorem dX7_adds_107 : decode cX7_adds 107 = .ok (.isub, 1) := by decide +kernel
theorem dX7_adds_108 : decode cX7_adds 108 = .ok (.ireturn, 1) := by decide +kernel
theorem dX7_addGroup_0 : decode cX7_addGroup 0 = .ok (.aload_n 0, 1) := by decide +kernel
theorem dX7_addGroup_1 : decode cX7_addGroup 1 = .ok (.aload_n 0, 1) := by decide +kernel
theorem dX7_addGroup_2 : decode cX7_addGroup 2 = .ok (.iload_n 1, 1) := by decide +kernel
theorem dX7_addGroup_3 : decode cX7_addGroup 3 = .ok (.iload_n 2, 1) := by decide +kernel
theorem dX7_addGroup_4 : decode cX7_addGroup 4 = .ok (.iconst 0, 1) := by decide +kernel
theorem dX7_addGroup_5 : decode cX7_addGroup 5 = .ok (.invokevirtual 104, 3) := by decide +kernel
theorem dX7_addGroup_8 : decode cX7_addGroup 8 = .ok (.invokevirtual 60, 3) := by decide +kernel
theorem dX7_addGroup_11 : decode cX7_addGroup 11 = .ok (.ifCond .eq 5, 3) := by decide +kernel
theorem dX7_addGroup_14 : decode cX7_addGroup 14 = .ok (.iconst 0, 1) := by decide +kernel
theorem dX7_addGroup_15 : decode cX7_addGroup 15 = .ok (.ireturn, 1) := by decide +kernel
theorem dX7_addGroup_16 : decode cX7_addGroup 16 = .ok (.aload_n 0, 1) := by decide +kernel
theorem dX7_addGroup_17 : decode cX7_addGroup 17 = .ok (.invokevirtual 108, 3) := by decide +kernel
theorem dX7_addGroup_20 : decode cX7_addGroup 20 = .ok (.aload_n 0, 1) := by decide +kernel
theorem dX7_addGroup_21 : decode cX7_addGroup 21 = .ok (.iload_n 1, 1) := by decide +kernel
theorem dX7_addGroup_22 : decode cX7_addGroup 22 = .ok (.iload_n 2, 1) := by decide +kernel
theorem dX7_addGroup_23 : decode cX7_addGroup 23 = .ok (.iconst 0, 1) := by decide +kernel
theorem dX7_addGroup_24 : decode cX7_addGroup 24 = .ok (.iconst 0, 1) := by decide +kernel
theorem dX7_addGroup_25 : decode cX7_addGroup 25 = .ok (.invokevirtual 111, 3) := by decide +kernel
theorem dX7_addGroup_28 : decode cX7_addGroup 28 = .ok (.ireturn, 1) := by decide +kernel
theorem dX7_addTask_0 : decode cX7_addTask 0 = .ok (.aload_n 0, 1) := by decide +kernel
theorem dX7_addTask_1 : decode cX7_addTask 1 = .ok (.aload_n 0, 1) := by decide +kernel
theorem dX7_addTask_2 : decode cX7_addTask 2 = .ok (.iload_n 1, 1) := by decide +kernel
theorem dX7_addTask_3 : decode cX7_addTask 3 = .ok (.iload_n 2, 1) := by decide +kernel
theorem dX7_addTask_4 : decode cX7_addTask 4 = .ok (.iload_n 3, 1) := by decide +kernel
theorem dX7_addTask_5 : decode cX7_addTask 5 = .ok (.invokevirtual 104, 3) := by decide +kernel
theorem dX7_addTask_8 : decode cX7_addTask 8 = .ok (.invokevirtual 60, 3) := by decide +kernel
theorem dX7_addTask_11 : decode cX7_addTask 11 = .ok (.ifCond .eq 5, 3) := by decide +kernel
theorem dX7_addTask_14 : decode cX7_addTask 14 = .ok (.iconst 0, 1) := by decide +kernel
theorem dX7_addTask_15 : decode cX7_addTask 15 = .ok (.ireturn, 1) := by decide +kernel
theorem dX7_addTask_16 : decode cX7_addTask 16 = .ok (.aload_n 0, 1) := by decide +kernel
theorem dX7_addTask_17 : decode cX7_addTask 17 = .ok (.invokevirtual 108, 3) := by decide +kernel
theorem dX7_addTask_20 : decode cX7_addTask 20 = .ok (.aload_n 0, 1) := by decide +kernel
theorem dX7_addTask_21 : decode cX7_addTask 21 = .ok (.iload_n 1, 1) := by decide +kernel
theorem dX7_addTask_22 : decode cX7_addTask 22 = .ok (.iload_n 2, 1) := by decide +kernel
theorem dX7_addTask_23 : decode cX7_addTask 23 = .ok (.iconst 1, 1) := by decide +kernel
theorem dX7_addTask_24 : decode cX7_addTask 24 = .ok (.iload_n 3, 1) := by decide +kernel
theorem dX7_addTask_25 : decode cX7_addTask 25 = .ok (.invokevirtual 111, 3) := by decide +kernel
theorem dX7_addTask_28 : decode cX7_addTask 28 = .ok (.ireturn, 1) := by decide +kernel
theorem dX7_isBelow_0 : decode cX7_isBelow 0 = .ok (.iload_n 1, 1) := by decide +kernel
theorem dX7_isBelow_1 : decode cX7_isBelow 1 = .ok (.istore_n 3, 1) := by decide +kernel
theorem dX7_isBelow_2 : decode cX7_isBelow 2 = .ok (.iload_n 3, 1) := by decide +kernel
theorem dX7_isBelow_3 : decode cX7_isBelow 3 = .ok (.iconst (-1), 1) := by decide +kernel
theorem dX7_isBelow_4 : decode cX7_isBelow 4 = .ok (.if_icmp .eq 22, 3) := by decide +kernel
theorem dX7_isBelow_7 : decode cX7_isBelow 7 = .ok (.iload_n 3, 1) := by decide +kernel
theorem dX7_isBelow_8 : decode cX7_isBelow 8 = .ok (.iload_n 2, 1) := by decide +kernel
theorem dX7_isBelow_9 : decode cX7_isBelow 9 = .ok (.if_icmp .eq 17, 3) := by decide +kernel
theorem dX7_isBelow_12 : decode cX7_isBelow 12 = .ok (.aload_n 0, 1) := by decide +kernel
theorem dX7_isBelow_13 : decode cX7_isBelow 13 = .ok (.aload_n 0, 1) := by decide +kernel
theorem dX7_isBelow_14 : decode cX7_isBelow 14 = .ok (.iload_n 3, 1) := by decide +kernel
theorem dX7_isBelow_15 : decode cX7_isBelow 15 = .ok (.invokevirtual 53, 3) := by decide +kernel
theorem dX7_isBelow_18 : decode cX7_isBelow 18 = .ok (.iconst 2, 1) := by decide +kernel
theorem dX7_isBelow_19 : decode cX7_isBelow 19 = .ok (.invokevirtual 49, 3) := by decide +kernel
theorem dX7_isBelow_22 : decode cX7_isBelow 22 = .ok (.istore_n 3, 1) := by decide +kernel
theorem dX7_isBelow_23 : decode cX7_isBelow 23 = .ok (.goto (-21), 3) := by decide +kernel
theorem dX7_isBelow_26 : decode cX7_isBelow 26 = .ok (.iload_n 3, 1) := by decide +kernel
theorem dX7_isBelow_27 : decode cX7_isBelow 27 = .ok (.iload_n 2, 1) := by decide +kernel
theorem dX7_isBelow_28 : decode cX7_isBelow 28 = .ok (.if_icmp .ne 7, 3) := by decide +kernel
theorem dX7_isBelow_31 : decode cX7_isBelow 31 = .ok (.iconst 1, 1) := by decide +kernel
theorem dX7_isBelow_32 : decode cX7_isBelow 32 = .ok (.goto 4, 3) := by decide +kernel
theorem dX7_isBelow_35 : decode cX7_isBelow 35 = .ok (.iconst 0, 1) := by decide +kernel
theorem dX7_isBelow_36 : decode cX7_isBelow 36 = .ok (.ireturn, 1) := by decide +kernel
theorem dX7_reasonOf_0 : decode cX7_reasonOf 0 = .ok (.iload_n 1, 1) := by decide +kernel
theorem dX7_reasonOf_1 : decode cX7_reasonOf 1 = .ok (.ifCond .ne 7, 3) := by decide +kernel
theorem dX7_reasonOf_4 : decode cX7_reasonOf 4 = .ok (.iconst 1, 1) := by decide +kernel
theorem dX7_reasonOf_5 : decode cX7_reasonOf 5 = .ok (.goto 29, 3) := by decide +kernel
theorem dX7_reasonOf_8 : decode cX7_reasonOf 8 = .ok (.aload_n 0, 1) := by decide +kernel
theorem dX7_reasonOf_9 : decode cX7_reasonOf 9 = .ok (.iload_n 2, 1) := by decide +kernel
theorem dX7_reasonOf_10 : decode cX7_reasonOf 10 = .ok (.invokevirtual 94, 3) := by decide +kernel
theorem dX7_reasonOf_13 : decode cX7_reasonOf 13 = .ok (.ifCond .eq 7, 3) := by decide +kernel
theorem dX7_reasonOf_16 : decode cX7_reasonOf 16 = .ok (.iconst 2, 1) := by decide +kernel
theorem dX7_reasonOf_17 : decode cX7_reasonOf 17 = .ok (.goto 17, 3) := by decide +kernel
theorem dX7_reasonOf_20 : decode cX7_reasonOf 20 = .ok (.aload_n 0, 1) := by decide +kernel
theorem dX7_reasonOf_21 : decode cX7_reasonOf 21 = .ok (.iload_n 2, 1) := by decide +kernel
theorem dX7_reasonOf_22 : decode cX7_reasonOf 22 = .ok (.iload_n 1, 1) := by decide +kernel
theorem dX7_reasonOf_23 : decode cX7_reasonOf 23 = .ok (.invokevirtual 115, 3) := by decide +kernel
theorem dX7_reasonOf_26 : decode cX7_reasonOf 26 = .ok (.ifCond .eq 7, 3) := by decide +kernel
theorem dX7_reasonOf_29 : decode cX7_reasonOf 29 = .ok (.iconst 3, 1) := by decide +kernel
theorem dX7_reasonOf_30 : decode cX7_reasonOf 30 = .ok (.goto 4, 3) := by decide +kernel
theorem dX7_reasonOf_33 : decode cX7_reasonOf 33 = .ok (.iconst 0, 1) := by decide +kernel
theorem dX7_reasonOf_34 : decode cX7_reasonOf 34 = .ok (.ireturn, 1) := by decide +kernel
theorem dX7_whyNotMove_0 : decode cX7_whyNotMove 0 = .ok (.aload_n 0, 1) := by decide +kernel
theorem dX7_whyNotMove_1 : decode cX7_whyNotMove 1 = .ok (.iload_n 1, 1) := by decide +kernel
theorem dX7_whyNotMove_2 : decode cX7_whyNotMove 2 = .ok (.invokevirtual 53, 3) := by decide +kernel
theorem dX7_whyNotMove_5 : decode cX7_whyNotMove 5 = .ok (.iconst (-1), 1) := by decide +kernel
theorem dX7_whyNotMove_6 : decode cX7_whyNotMove 6 = .ok (.if_icmp .eq 12, 3) := by decide +kernel
theorem dX7_whyNotMove_9 : decode cX7_whyNotMove 9 = .ok (.aload_n 0, 1) := by decide +kernel
theorem dX7_whyNotMove_10 : decode cX7_whyNotMove 10 = .ok (.iload_n 2, 1) := by decide +kernel
theorem dX7_whyNotMove_11 : decode cX7_whyNotMove 11 = .ok (.invokevirtual 53, 3) := by decide +kernel
theorem dX7_whyNotMove_14 : decode cX7_whyNotMove 14 = .ok (.iconst (-1), 1) := by decide +kernel
theorem dX7_whyNotMove_15 : decode cX7_whyNotMove 15 = .ok (.if_icmp .ne 5, 3) := by decide +kernel
theorem dX7_whyNotMove_18 : decode cX7_whyNotMove 18 = .ok (.iconst 1, 1) := by decide +kernel
theorem dX7_whyNotMove_19 : decode cX7_whyNotMove 19 = .ok (.ireturn, 1) := by decide +kernel
theorem dX7_whyNotMove_20 : decode cX7_whyNotMove 20 = .ok (.iload_n 3, 1) := by decide +kernel
theorem dX7_whyNotMove_21 : decode cX7_whyNotMove 21 = .ok (.iconst 0, 1) := by decide +kernel
theorem dX7_whyNotMove_22 : decode cX7_whyNotMove 22 = .ok (.iconst 3, 1) := by decide +kernel
theorem dX7_whyNotMove_23 : decode cX7_whyNotMove 23 = .ok (.invokestatic 91, 3) := by decide +kernel
theorem dX7_whyNotMove_26 : decode cX7_whyNotMove 26 = .ok (.ifCond .ne 7, 3) := by decide +kernel
theorem dX7_whyNotMove_29 : decode cX7_whyNotMove 29 = .ok (.iconst 2, 1) := by decide +kernel
theorem dX7_whyNotMove_30 : decode cX7_whyNotMove 30 = .ok (.goto 17, 3) := by decide +kernel
theorem dX7_whyNotMove_33 : decode cX7_whyNotMove 33 = .ok (.aload_n 0, 1) := by decide +kernel
theorem dX7_whyNotMove_34 : decode cX7_whyNotMove 34 = .ok (.iload_n 1, 1) := by decide +kernel
theorem dX7_whyNotMove_35 : decode cX7_whyNotMove 35 = .ok (.iload_n 2, 1) := by decide +kernel
theorem dX7_whyNotMove_36 : decode cX7_whyNotMove 36 = .ok (.invokevirtual 119, 3) := by decide +kernel
theorem dX7_whyNotMove_39 : decode cX7_whyNotMove 39 = .ok (.ifCond .le 7, 3) := by decide +kernel
theorem dX7_whyNotMove_42 : decode cX7_whyNotMove 42 = .ok (.iconst 3, 1) := by decide +kernel
theorem dX7_whyNotMove_43 : decode cX7_whyNotMove 43 = .ok (.goto 4, 3) := by decide +kernel
theorem dX7_whyNotMove_46 : decode cX7_whyNotMove 46 = .ok (.iconst 0, 1) := by decide +kernel
theorem dX7_whyNotMove_47 : decode cX7_whyNotMove 47 = .ok (.ireturn, 1) := by decide +kernel
theorem dX7_leaves_0 : decode cX7_leaves 0 = .ok (.aload_n 0, 1) := by decide +kernel
theorem dX7_leaves_1 : decode cX7_leaves 1 = .ok (.iload_n 1, 1) := by decide +kernel
theorem dX7_leaves_2 : decode cX7_leaves 2 = .ok (.iconst 2, 1) := by decide +kernel
theorem dX7_leaves_3 : decode cX7_leaves 3 = .ok (.invokevirtual 49, 3) := by decide +kernel
theorem dX7_leaves_6 : decode cX7_leaves 6 = .ok (.istore_n 2, 1) := by decide +kernel
theorem dX7_leaves_7 : decode cX7_leaves 7 = .ok (.aload_n 0, 1) := by decide +kernel
theorem dX7_leaves_8 : decode cX7_leaves 8 = .ok (.iload_n 1, 1) := by decide +kernel
theorem dX7_leaves_9 : decode cX7_leaves 9 = .ok (.iconst 3, 1) := by decide +kernel
theorem dX7_leaves_10 : decode cX7_leaves 10 = .ok (.invokevirtual 49, 3) := by decide +kernel
theorem dX7_leaves_13 : decode cX7_leaves 13 = .ok (.istore_n 3, 1) := by decide +kernel
theorem dX7_leaves_14 : decode cX7_leaves 14 = .ok (.iconst 0, 1) := by decide +kernel
theorem dX7_leaves_15 : decode cX7_leaves 15 = .ok (.istore 4, 2) := by decide +kernel
theorem dX7_leaves_17 : decode cX7_leaves 17 = .ok (.iload 4, 2) := by decide +kernel
theorem dX7_leaves_19 : decode cX7_leaves 19 = .ok (.aload_n 0, 1) := by decide +kernel
theorem dX7_leaves_20 : decode cX7_leaves 20 = .ok (.getfield 7, 3) := by decide +kernel
theorem dX7_leaves_23 : decode cX7_leaves 23 = .ok (.iconst 0, 1) := by decide +kernel
theorem dX7_leaves_24 : decode cX7_leaves 24 = .ok (.iaload, 1) := by decide +kernel
theorem dX7_leaves_25 : decode cX7_leaves 25 = .ok (.if_icmp .ge 52, 3) := by decide +kernel
theorem dX7_leaves_28 : decode cX7_leaves 28 = .ok (.aload_n 0, 1) := by decide +kernel
theorem dX7_leaves_29 : decode cX7_leaves 29 = .ok (.iload 4, 2) := by decide +kernel
theorem dX7_leaves_31 : decode cX7_leaves 31 = .ok (.iload_n 2, 1) := by decide +kernel
theorem dX7_leaves_32 : decode cX7_leaves 32 = .ok (.iload_n 3, 1) := by decide +kernel
theorem dX7_leaves_33 : decode cX7_leaves 33 = .ok (.invokevirtual 64, 3) := by decide +kernel
theorem dX7_leaves_36 : decode cX7_leaves 36 = .ok (.ifCond .eq 35, 3) := by decide +kernel
theorem dX7_leaves_39 : decode cX7_leaves 39 = .ok (.aload_n 0, 1) := by decide +kernel
theorem dX7_leaves_40 : decode cX7_leaves 40 = .ok (.iload 4, 2) := by decide +kernel
theorem dX7_leaves_42 : decode cX7_leaves 42 = .ok (.iconst 4, 1) := by decide +kernel
theorem dX7_leaves_43 : decode cX7_leaves 43 = .ok (.invokevirtual 49, 3) := by decide +kernel
theorem dX7_leaves_46 : decode cX7_leaves 46 = .ok (.aload_n 0, 1) := by decide +kernel
theorem dX7_leaves_47 : decode cX7_leaves 47 = .ok (.iload_n 1, 1) := by decide +kernel
theorem dX7_leaves_48 : decode cX7_leaves 48 = .ok (.iconst 4, 1) := by decide +kernel
theorem dX7_leaves_49 : decode cX7_leaves 49 = .ok (.invokevirtual 49, 3) := by decide +kernel
theorem dX7_leaves_52 : decode cX7_leaves 52 = .ok (.if_icmp .le 19, 3) := by decide +kernel
theorem dX7_leaves_55 : decode cX7_leaves 55 = .ok (.aload_n 0, 1) := by decide +kernel
theorem dX7_leaves_56 : decode cX7_leaves 56 = .ok (.iload 4, 2) := by decide +kernel
theorem dX7_leaves_58 : decode cX7_leaves 58 = .ok (.iconst 4, 1) := by decide +kernel
theorem dX7_leaves_59 : decode cX7_leaves 59 = .ok (.aload_n 0, 1) := by decide +kernel
theorem dX7_leaves_60 : decode cX7_leaves 60 = .ok (.iload 4, 2) := by decide +kernel
theorem dX7_leaves_62 : decode cX7_leaves 62 = .ok (.iconst 4, 1) := by decide +kernel
theorem dX7_leaves_63 : decode cX7_leaves 63 = .ok (.invokevirtual 49, 3) := by decide +kernel
theorem dX7_leaves_66 : decode cX7_leaves 66 = .ok (.iconst 1, 1) := by decide +kernel
theorem dX7_leaves_67 : decode cX7_leaves 67 = .ok (.isub, 1) := by decide +kernel
theorem dX7_leaves_68 : decode cX7_leaves 68 = .ok (.invokevirtual 100, 3) := by decide +kernel
theorem dX7_leaves_71 : decode cX7_leaves 71 = .ok (.iinc 4 1, 3) := by decide +kernel
theorem dX7_leaves_74 : decode cX7_leaves 74 = .ok (.goto (-57), 3) := by decide +kernel
theorem dX7_leaves_77 : decode cX7_leaves 77 = .ok (.aload_n 0, 1) := by decide +kernel
theorem dX7_leaves_78 : decode cX7_leaves 78 = .ok (.iload_n 1, 1) := by decide +kernel
theorem dX7_leaves_79 : decode cX7_leaves 79 = .ok (.iconst 2, 1) := by decide +kernel
theorem dX7_leaves_80 : decode cX7_leaves 80 = .ok (.iconst (-1), 1) := by decide +kernel
theorem dX7_leaves_81 : decode cX7_leaves 81 = .ok (.invokevirtual 100, 3) := by decide +kernel
theorem dX7_leaves_84 : decode cX7_leaves 84 = .ok (.return_, 1) := by decide +kernel
theorem dX7_moves_0 : decode cX7_moves 0 = .ok (.aload_n 0, 1) := by decide +kernel
theorem dX7_moves_1 : decode cX7_moves 1 = .ok (.iload_n 1, 1) := by decide +kernel
theorem dX7_moves_2 : decode cX7_moves 2 = .ok (.invokevirtual 53, 3) := by decide +kernel
theorem dX7_moves_5 : decode cX7_moves 5 = .ok (.istore 4, 2) := by decide +kernel
theorem dX7_moves_7 : decode cX7_moves 7 = .ok (.aload_n 0, 1) := by decide +kernel
theorem dX7_moves_8 : decode cX7_moves 8 = .ok (.iload 4, 2) := by decide +kernel
theorem dX7_moves_10 : decode cX7_moves 10 = .ok (.invokevirtual 122, 3) := by decide +kernel
theorem dX7_moves_13 : decode cX7_moves 13 = .ok (.aload_n 0, 1) := by decide +kernel
theorem dX7_moves_14 : decode cX7_moves 14 = .ok (.iload_n 2, 1) := by decide +kernel
theorem dX7_moves_15 : decode cX7_moves 15 = .ok (.iload_n 3, 1) := by decide +kernel
theorem dX7_moves_16 : decode cX7_moves 16 = .ok (.invokevirtual 97, 3) := by decide +kernel
theorem dX7_moves_19 : decode cX7_moves 19 = .ok (.istore 5, 2) := by decide +kernel
theorem dX7_moves_21 : decode cX7_moves 21 = .ok (.aload_n 0, 1) := by decide +kernel
theorem dX7_moves_22 : decode cX7_moves 22 = .ok (.iload 4, 2) := by decide +kernel
theorem dX7_moves_24 : decode cX7_moves 24 = .ok (.iconst 2, 1) := by decide +kernel
theorem dX7_moves_25 : decode cX7_moves 25 = .ok (.iload_n 2, 1) := by decide +kernel
theorem dX7_moves_26 : decode cX7_moves 26 = .ok (.invokevirtual 100, 3) := by decide +kernel
theorem dX7_moves_29 : decode cX7_moves 29 = .ok (.aload_n 0, 1) := by decide +kernel
theorem dX7_moves_30 : decode cX7_moves 30 = .ok (.iload 4, 2) := by decide +kernel
theorem dX7_moves_32 : decode cX7_moves 32 = .ok (.iconst 3, 1) := by decide +kernel
theorem dX7_moves_33 : decode cX7_moves 33 = .ok (.iload_n 3, 1) := by decide +kernel
theorem dX7_moves_34 : decode cX7_moves 34 = .ok (.invokevirtual 100, 3) := by decide +kernel
theorem dX7_moves_37 : decode cX7_moves 37 = .ok (.aload_n 0, 1) := by decide +kernel
theorem dX7_moves_38 : decode cX7_moves 38 = .ok (.iload 4, 2) := by decide +kernel
theorem dX7_moves_40 : decode cX7_moves 40 = .ok (.iconst 4, 1) := by decide +kernel
theorem dX7_moves_41 : decode cX7_moves 41 = .ok (.iload 5, 2) := by decide +kernel
theorem dX7_moves_43 : decode cX7_moves 43 = .ok (.invokevirtual 100, 3) := by decide +kernel
theorem dX7_moves_46 : decode cX7_moves 46 = .ok (.iload 5, 2) := by decide +kernel
theorem dX7_moves_48 : decode cX7_moves 48 = .ok (.ireturn, 1) := by decide +kernel
theorem dX7_move_0 : decode cX7_move 0 = .ok (.aload_n 0, 1) := by decide +kernel
theorem dX7_move_1 : decode cX7_move 1 = .ok (.aload_n 0, 1) := by decide +kernel
theorem dX7_move_2 : decode cX7_move 2 = .ok (.iload_n 1, 1) := by decide +kernel
theorem dX7_move_3 : decode cX7_move 3 = .ok (.iload_n 2, 1) := by decide +kernel
theorem dX7_move_4 : decode cX7_move 4 = .ok (.iload_n 3, 1) := by decide +kernel
theorem dX7_move_5 : decode cX7_move 5 = .ok (.invokevirtual 125, 3) := by decide +kernel
theorem dX7_move_8 : decode cX7_move 8 = .ok (.invokevirtual 60, 3) := by decide +kernel
theorem dX7_move_11 : decode cX7_move 11 = .ok (.ifCond .eq 5, 3) := by decide +kernel
theorem dX7_move_14 : decode cX7_move 14 = .ok (.iconst 0, 1) := by decide +kernel
theorem dX7_move_15 : decode cX7_move 15 = .ok (.ireturn, 1) := by decide +kernel
theorem dX7_move_16 : decode cX7_move 16 = .ok (.aload_n 0, 1) := by decide +kernel
theorem dX7_move_17 : decode cX7_move 17 = .ok (.invokevirtual 108, 3) := by decide +kernel
theorem dX7_move_20 : decode cX7_move 20 = .ok (.aload_n 0, 1) := by decide +kernel
theorem dX7_move_21 : decode cX7_move 21 = .ok (.iload_n 1, 1) := by decide +kernel
theorem dX7_move_22 : decode cX7_move 22 = .ok (.iload_n 2, 1) := by decide +kernel
theorem dX7_move_23 : decode cX7_move 23 = .ok (.iload_n 3, 1) := by decide +kernel
theorem dX7_move_24 : decode cX7_move 24 = .ok (.invokevirtual 128, 3) := by decide +kernel
theorem dX7_move_27 : decode cX7_move 27 = .ok (.ireturn, 1) := by decide +kernel
theorem dX7_whyNotRemove_0 : decode cX7_whyNotRemove 0 = .ok (.aload_n 0, 1) := by decide +kernel
theorem dX7_whyNotRemove_1 : decode cX7_whyNotRemove 1 = .ok (.iload_n 1, 1) := by decide +kernel
theorem dX7_whyNotRemove_2 : decode cX7_whyNotRemove 2 = .ok (.invokevirtual 53, 3) := by decide +kernel
theorem dX7_whyNotRemove_5 : decode cX7_whyNotRemove 5 = .ok (.iconst (-1), 1) := by decide +kernel
theorem dX7_whyNotRemove_6 : decode cX7_whyNotRemove 6 = .ok (.if_icmp .ne 7, 3) := by decide +kernel
theorem dX7_whyNotRemove_9 : decode cX7_whyNotRemove 9 = .ok (.iconst 1, 1) := by decide +kernel
theorem dX7_whyNotRemove_10 : decode cX7_whyNotRemove 10 = .ok (.goto 12, 3) := by decide +kernel
theorem dX7_whyNotRemove_13 : decode cX7_whyNotRemove 13 = .ok (.iload_n 1, 1) := by decide +kernel
theorem dX7_whyNotRemove_14 : decode cX7_whyNotRemove 14 = .ok (.ifCond .ne 7, 3) := by decide +kernel
theorem dX7_whyNotRemove_17 : decode cX7_whyNotRemove 17 = .ok (.iconst 3, 1) := by decide +kernel
theorem dX7_whyNotRemove_18 : decode cX7_whyNotRemove 18 = .ok (.goto 4, 3) := by decide +kernel
theorem dX7_whyNotRemove_21 : decode cX7_whyNotRemove 21 = .ok (.iconst 0, 1) := by decide +kernel
theorem dX7_whyNotRemove_22 : decode cX7_whyNotRemove 22 = .ok (.ireturn, 1) := by decide +kernel
theorem dX7_removes_0 : decode cX7_removes 0 = .ok (.aload_n 0, 1) := by decide +kernel
theorem dX7_removes_1 : decode cX7_removes 1 = .ok (.aload_n 0, 1) := by decide +kernel
theorem dX7_removes_2 : decode cX7_removes 2 = .ok (.iload_n 1, 1) := by decide +kernel
theorem dX7_removes_3 : decode cX7_removes 3 = .ok (.invokevirtual 53, 3) := by decide +kernel
theorem dX7_removes_6 : decode cX7_removes 6 = .ok (.invokevirtual 122, 3) := by decide +kernel
theorem dX7_removes_9 : decode cX7_removes 9 = .ok (.iconst 0, 1) := by decide +kernel
theorem dX7_removes_10 : decode cX7_removes 10 = .ok (.istore_n 2, 1) := by decide +kernel
theorem dX7_removes_11 : decode cX7_removes 11 = .ok (.iconst 0, 1) := by decide +kernel
theorem dX7_removes_12 : decode cX7_removes 12 = .ok (.istore_n 3, 1) := by decide +kernel
theorem dX7_removes_13 : decode cX7_removes 13 = .ok (.iload_n 3, 1) := by decide +kernel
theorem dX7_removes_14 : decode cX7_removes 14 = .ok (.aload_n 0, 1) := by decide +kernel
theorem dX7_removes_15 : decode cX7_removes 15 = .ok (.getfield 7, 3) := by decide +kernel
theorem dX7_removes_18 : decode cX7_removes 18 = .ok (.iconst 0, 1) := by decide +kernel
theorem dX7_removes_19 : decode cX7_removes 19 = .ok (.iaload, 1) := by decide +kernel
theorem dX7_removes_20 : decode cX7_removes 20 = .ok (.if_icmp .ge 26, 3) := by decide +kernel
theorem dX7_removes_23 : decode cX7_removes 23 = .ok (.aload_n 0, 1) := by decide +kernel
theorem dX7_removes_24 : decode cX7_removes 24 = .ok (.getfield 31, 3) := by decide +kernel
theorem dX7_removes_27 : decode cX7_removes 27 = .ok (.iload_n 3, 1) := by decide +kernel
theorem dX7_removes_28 : decode cX7_removes 28 = .ok (.aload_n 0, 1) := by decide +kernel
theorem dX7_removes_29 : decode cX7_removes 29 = .ok (.aload_n 0, 1) := by decide +kernel
theorem dX7_removes_30 : decode cX7_removes 30 = .ok (.iload_n 3, 1) := by decide +kernel
theorem dX7_removes_31 : decode cX7_removes 31 = .ok (.iconst 0, 1) := by decide +kernel
theorem dX7_removes_32 : decode cX7_removes 32 = .ok (.invokevirtual 49, 3) := by decide +kernel
theorem dX7_removes_35 : decode cX7_removes 35 = .ok (.iload_n 1, 1) := by decide +kernel
theorem dX7_removes_36 : decode cX7_removes 36 = .ok (.invokevirtual 115, 3) := by decide +kernel
theorem dX7_removes_39 : decode cX7_removes 39 = .ok (.bastore, 1) := by decide +kernel
theorem dX7_removes_40 : decode cX7_removes 40 = .ok (.iinc 3 1, 3) := by decide +kernel
theorem dX7_removes_43 : decode cX7_removes 43 = .ok (.goto (-30), 3) := by decide +kernel
theorem dX7_removes_46 : decode cX7_removes 46 = .ok (.aload_n 0, 1) := by decide +kernel
theorem dX7_removes_47 : decode cX7_removes 47 = .ok (.getfield 7, 3) := by decide +kernel
theorem dX7_removes_50 : decode cX7_removes 50 = .ok (.iconst 0, 1) := by decide +kernel
theorem dX7_removes_51 : decode cX7_removes 51 = .ok (.iaload, 1) := by decide +kernel
theorem dX7_removes_52 : decode cX7_removes 52 = .ok (.istore_n 3, 1) := by decide +kernel
theorem dX7_removes_53 : decode cX7_removes 53 = .ok (.iconst 0, 1) := by decide +kernel
theorem dX7_removes_54 : decode cX7_removes 54 = .ok (.istore 4, 2) := by decide +kernel
theorem dX7_removes_56 : decode cX7_removes 56 = .ok (.iload 4, 2) := by decide +kernel
theorem dX7_removes_58 : decode cX7_removes 58 = .ok (.iload_n 3, 1) := by decide +kernel
theorem dX7_removes_59 : decode cX7_removes 59 = .ok (.if_icmp .ge 59, 3) := by decide +kernel
theorem dX7_removes_62 : decode cX7_removes 62 = .ok (.aload_n 0, 1) := by decide +kernel
theorem dX7_removes_63 : decode cX7_removes 63 = .ok (.getfield 31, 3) := by decide +kernel
theorem dX7_removes_66 : decode cX7_removes 66 = .ok (.iload 4, 2) := by decide +kernel
theorem dX7_removes_68 : decode cX7_removes 68 = .ok (.baload, 1) := by decide +kernel
theorem dX7_removes_69 : decode cX7_removes 69 = .ok (.ifCond .eq 9, 3) := by decide +kernel
theorem dX7_removes_72 : decode cX7_removes 72 = .ok (.iinc 2 1, 3) := by decide +kernel
theorem dX7_removes_75 : decode cX7_removes 75 = .ok (.goto 37, 3) := by decide +kernel
theorem dX7_removes_78 : decode cX7_removes 78 = .ok (.iconst 0, 1) := by decide +kernel
theorem dX7_removes_79 : decode cX7_removes 79 = .ok (.istore 5, 2) := by decide +kernel
theorem dX7_removes_81 : decode cX7_removes 81 = .ok (.iload 5, 2) := by decide +kernel
theorem dX7_removes_83 : decode cX7_removes 83 = .ok (.bipush 7, 2) := by decide +kernel
theorem dX7_removes_85 : decode cX7_removes 85 = .ok (.if_icmp .ge 27, 3) := by decide +kernel
theorem dX7_removes_88 : decode cX7_removes 88 = .ok (.aload_n 0, 1) := by decide +kernel
theorem dX7_removes_89 : decode cX7_removes 89 = .ok (.iload 4, 2) := by decide +kernel
theorem dX7_removes_91 : decode cX7_removes 91 = .ok (.iload_n 2, 1) := by decide +kernel
theorem dX7_removes_92 : decode cX7_removes 92 = .ok (.isub, 1) := by decide +kernel
theorem dX7_removes_93 : decode cX7_removes 93 = .ok (.iload 5, 2) := by decide +kernel
theorem dX7_removes_95 : decode cX7_removes 95 = .ok (.aload_n 0, 1) := by decide +kernel
theorem dX7_removes_96 : decode cX7_removes 96 = .ok (.iload 4, 2) := by decide +kernel
theorem dX7_removes_98 : decode cX7_removes 98 = .ok (.iload 5, 2) := by decide +kernel
theorem dX7_removes_100 : decode cX7_removes 100 = .ok (.invokevirtual 49, 3) := by decide +kernel
theorem dX7_removes_103 : decode cX7_removes 103 = .ok (.invokevirtual 100, 3) := by decide +kernel
theorem dX7_removes_106 : decode cX7_removes 106 = .ok (.iinc 5 1, 3) := by decide +kernel
theorem dX7_removes_109 : decode cX7_removes 109 = .ok (.goto (-28), 3) := by decide +kernel
theorem dX7_removes_112 : decode cX7_removes 112 = .ok (.iinc 4 1, 3) := by decide +kernel
theorem dX7_removes_115 : decode cX7_removes 115 = .ok (.goto (-59), 3) := by decide +kernel
theorem dX7_removes_118 : decode cX7_removes 118 = .ok (.aload_n 0, 1) := by decide +kernel
theorem dX7_removes_119 : decode cX7_removes 119 = .ok (.getfield 7, 3) := by decide +kernel
theorem dX7_removes_122 : decode cX7_removes 122 = .ok (.iconst 0, 1) := by decide +kernel
theorem dX7_removes_123 : decode cX7_removes 123 = .ok (.iload_n 3, 1) := by decide +kernel
theorem dX7_removes_124 : decode cX7_removes 124 = .ok (.iload_n 2, 1) := by decide +kernel
theorem dX7_removes_125 : decode cX7_removes 125 = .ok (.isub, 1) := by decide +kernel
theorem dX7_removes_126 : decode cX7_removes 126 = .ok (.iastore, 1) := by decide +kernel
theorem dX7_removes_127 : decode cX7_removes 127 = .ok (.iload_n 2, 1) := by decide +kernel
theorem dX7_removes_128 : decode cX7_removes 128 = .ok (.ireturn, 1) := by decide +kernel
theorem dX7_remove_0 : decode cX7_remove 0 = .ok (.aload_n 0, 1) := by decide +kernel
theorem dX7_remove_1 : decode cX7_remove 1 = .ok (.aload_n 0, 1) := by decide +kernel
theorem dX7_remove_2 : decode cX7_remove 2 = .ok (.iload_n 1, 1) := by decide +kernel
theorem dX7_remove_3 : decode cX7_remove 3 = .ok (.invokevirtual 131, 3) := by decide +kernel
theorem dX7_remove_6 : decode cX7_remove 6 = .ok (.invokevirtual 134, 3) := by decide +kernel
theorem dX7_remove_9 : decode cX7_remove 9 = .ok (.ifCond .eq 5, 3) := by decide +kernel
theorem dX7_remove_12 : decode cX7_remove 12 = .ok (.iconst 0, 1) := by decide +kernel
theorem dX7_remove_13 : decode cX7_remove 13 = .ok (.ireturn, 1) := by decide +kernel
theorem dX7_remove_14 : decode cX7_remove 14 = .ok (.aload_n 0, 1) := by decide +kernel
theorem dX7_remove_15 : decode cX7_remove 15 = .ok (.invokevirtual 108, 3) := by decide +kernel
theorem dX7_remove_18 : decode cX7_remove 18 = .ok (.aload_n 0, 1) := by decide +kernel
theorem dX7_remove_19 : decode cX7_remove 19 = .ok (.iload_n 1, 1) := by decide +kernel
theorem dX7_remove_20 : decode cX7_remove 20 = .ok (.invokevirtual 137, 3) := by decide +kernel
theorem dX7_remove_23 : decode cX7_remove 23 = .ok (.ireturn, 1) := by decide +kernel
theorem dX7_whyNotTask_0 : decode cX7_whyNotTask 0 = .ok (.aload_n 0, 1) := by decide +kernel
theorem dX7_whyNotTask_1 : decode cX7_whyNotTask 1 = .ok (.iload_n 1, 1) := by decide +kernel
theorem dX7_whyNotTask_2 : decode cX7_whyNotTask 2 = .ok (.invokevirtual 53, 3) := by decide +kernel
theorem dX7_whyNotTask_5 : decode cX7_whyNotTask 5 = .ok (.iconst (-1), 1) := by decide +kernel
theorem dX7_whyNotTask_6 : decode cX7_whyNotTask 6 = .ok (.if_icmp .ne 7, 3) := by decide +kernel
theorem dX7_whyNotTask_9 : decode cX7_whyNotTask 9 = .ok (.iconst 1, 1) := by decide +kernel
theorem dX7_whyNotTask_10 : decode cX7_whyNotTask 10 = .ok (.goto 24, 3) := by decide +kernel
theorem dX7_whyNotTask_13 : decode cX7_whyNotTask 13 = .ok (.iload_n 2, 1) := by decide +kernel
theorem dX7_whyNotTask_14 : decode cX7_whyNotTask 14 = .ok (.ifCond .ne 7, 3) := by decide +kernel
theorem dX7_whyNotTask_17 : decode cX7_whyNotTask 17 = .ok (.iconst 2, 1) := by decide +kernel
theorem dX7_whyNotTask_18 : decode cX7_whyNotTask 18 = .ok (.goto 16, 3) := by decide +kernel
theorem dX7_whyNotTask_21 : decode cX7_whyNotTask 21 = .ok (.aload_n 0, 1) := by decide +kernel
theorem dX7_whyNotTask_22 : decode cX7_whyNotTask 22 = .ok (.iload_n 1, 1) := by decide +kernel
theorem dX7_whyNotTask_23 : decode cX7_whyNotTask 23 = .ok (.invokevirtual 94, 3) := by decide +kernel
theorem dX7_whyNotTask_26 : decode cX7_whyNotTask 26 = .ok (.ifCond .eq 7, 3) := by decide +kernel
theorem dX7_whyNotTask_29 : decode cX7_whyNotTask 29 = .ok (.iconst 0, 1) := by decide +kernel
theorem dX7_whyNotTask_30 : decode cX7_whyNotTask 30 = .ok (.goto 4, 3) := by decide +kernel
theorem dX7_whyNotTask_33 : decode cX7_whyNotTask 33 = .ok (.iconst 3, 1) := by decide +kernel
theorem dX7_whyNotTask_34 : decode cX7_whyNotTask 34 = .ok (.ireturn, 1) := by decide +kernel
theorem dX7_lasts_0 : decode cX7_lasts 0 = .ok (.aload_n 0, 1) := by decide +kernel
theorem dX7_lasts_1 : decode cX7_lasts 1 = .ok (.iload_n 1, 1) := by decide +kernel
theorem dX7_lasts_2 : decode cX7_lasts 2 = .ok (.invokevirtual 53, 3) := by decide +kernel
theorem dX7_lasts_5 : decode cX7_lasts 5 = .ok (.istore_n 3, 1) := by decide +kernel
theorem dX7_lasts_6 : decode cX7_lasts 6 = .ok (.iload_n 2, 1) := by decide +kernel
theorem dX7_lasts_7 : decode cX7_lasts 7 = .ok (.aload_n 0, 1) := by decide +kernel
theorem dX7_lasts_8 : decode cX7_lasts 8 = .ok (.iload_n 3, 1) := by decide +kernel
theorem dX7_lasts_9 : decode cX7_lasts 9 = .ok (.iconst 5, 1) := by decide +kernel
theorem dX7_lasts_10 : decode cX7_lasts 10 = .ok (.invokevirtual 49, 3) := by decide +kernel
theorem dX7_lasts_13 : decode cX7_lasts 13 = .ok (.isub, 1) := by decide +kernel
theorem dX7_lasts_14 : decode cX7_lasts 14 = .ok (.istore 4, 2) := by decide +kernel
theorem dX7_lasts_16 : decode cX7_lasts 16 = .ok (.aload_n 0, 1) := by decide +kernel
theorem dX7_lasts_17 : decode cX7_lasts 17 = .ok (.iload_n 3, 1) := by decide +kernel
theorem dX7_lasts_18 : decode cX7_lasts 18 = .ok (.bipush 6, 2) := by decide +kernel
theorem dX7_lasts_20 : decode cX7_lasts 20 = .ok (.invokevirtual 49, 3) := by decide +kernel
theorem dX7_lasts_23 : decode cX7_lasts 23 = .ok (.iload 4, 2) := by decide +kernel
theorem dX7_lasts_25 : decode cX7_lasts 25 = .ok (.ifCond .le 8, 3) := by decide +kernel
theorem dX7_lasts_28 : decode cX7_lasts 28 = .ok (.iload 4, 2) := by decide +kernel
theorem dX7_lasts_30 : decode cX7_lasts 30 = .ok (.goto 4, 3) := by decide +kernel
theorem dX7_lasts_33 : decode cX7_lasts 33 = .ok (.iconst 0, 1) := by decide +kernel
theorem dX7_lasts_34 : decode cX7_lasts 34 = .ok (.isub, 1) := by decide +kernel
theorem dX7_lasts_35 : decode cX7_lasts 35 = .ok (.istore 5, 2) := by decide +kernel
theorem dX7_lasts_37 : decode cX7_lasts 37 = .ok (.aload_n 0, 1) := by decide +kernel
theorem dX7_lasts_38 : decode cX7_lasts 38 = .ok (.iload_n 3, 1) := by decide +kernel
theorem dX7_lasts_39 : decode cX7_lasts 39 = .ok (.bipush 6, 2) := by decide +kernel
theorem dX7_lasts_41 : decode cX7_lasts 41 = .ok (.iload 5, 2) := by decide +kernel
theorem dX7_lasts_43 : decode cX7_lasts 43 = .ok (.ifCond .le 8, 3) := by decide +kernel
theorem dX7_lasts_46 : decode cX7_lasts 46 = .ok (.iload 5, 2) := by decide +kernel
theorem dX7_lasts_48 : decode cX7_lasts 48 = .ok (.goto 4, 3) := by decide +kernel
theorem dX7_lasts_51 : decode cX7_lasts 51 = .ok (.iconst 0, 1) := by decide +kernel
theorem dX7_lasts_52 : decode cX7_lasts 52 = .ok (.invokevirtual 100, 3) := by decide +kernel
theorem dX7_lasts_55 : decode cX7_lasts 55 = .ok (.aload_n 0, 1) := by decide +kernel
theorem dX7_lasts_56 : decode cX7_lasts 56 = .ok (.iload_n 3, 1) := by decide +kernel
theorem dX7_lasts_57 : decode cX7_lasts 57 = .ok (.iconst 5, 1) := by decide +kernel
theorem dX7_lasts_58 : decode cX7_lasts 58 = .ok (.iload_n 2, 1) := by decide +kernel
theorem dX7_lasts_59 : decode cX7_lasts 59 = .ok (.invokevirtual 100, 3) := by decide +kernel
theorem dX7_lasts_62 : decode cX7_lasts 62 = .ok (.return_, 1) := by decide +kernel
theorem dX7_setDuration_0 : decode cX7_setDuration 0 = .ok (.aload_n 0, 1) := by decide +kernel
theorem dX7_setDuration_1 : decode cX7_setDuration 1 = .ok (.aload_n 0, 1) := by decide +kernel
theorem dX7_setDuration_2 : decode cX7_setDuration 2 = .ok (.iload_n 1, 1) := by decide +kernel
theorem dX7_setDuration_3 : decode cX7_setDuration 3 = .ok (.iload_n 2, 1) := by decide +kernel
theorem dX7_setDuration_4 : decode cX7_setDuration 4 = .ok (.iconst 0, 1) := by decide +kernel
theorem dX7_setDuration_5 : decode cX7_setDuration 5 = .ok (.bipush 60, 2) := by decide +kernel
theorem dX7_setDuration_7 : decode cX7_setDuration 7 = .ok (.invokestatic 91, 3) := by decide +kernel
theorem dX7_setDuration_10 : decode cX7_setDuration 10 = .ok (.invokevirtual 140, 3) := by decide +kernel
theorem dX7_setDuration_13 : decode cX7_setDuration 13 = .ok (.invokevirtual 60, 3) := by decide +kernel
theorem dX7_setDuration_16 : decode cX7_setDuration 16 = .ok (.ifCond .eq 5, 3) := by decide +kernel
theorem dX7_setDuration_19 : decode cX7_setDuration 19 = .ok (.iconst 0, 1) := by decide +kernel
theorem dX7_setDuration_20 : decode cX7_setDuration 20 = .ok (.ireturn, 1) := by decide +kernel
theorem dX7_setDuration_21 : decode cX7_setDuration 21 = .ok (.aload_n 0, 1) := by decide +kernel
theorem dX7_setDuration_22 : decode cX7_setDuration 22 = .ok (.invokevirtual 108, 3) := by decide +kernel
theorem dX7_setDuration_25 : decode cX7_setDuration 25 = .ok (.aload_n 0, 1) := by decide +kernel
theorem dX7_setDuration_26 : decode cX7_setDuration 26 = .ok (.iload_n 1, 1) := by decide +kernel
theorem dX7_setDuration_27 : decode cX7_setDuration 27 = .ok (.iload_n 2, 1) := by decide +kernel
theorem dX7_setDuration_28 : decode cX7_setDuration 28 = .ok (.invokevirtual 144, 3) := by decide +kernel
theorem dX7_setDuration_31 : decode cX7_setDuration 31 = .ok (.aload_n 0, 1) := by decide +kernel
theorem dX7_setDuration_32 : decode cX7_setDuration 32 = .ok (.invokevirtual 87, 3) := by decide +kernel
theorem dX7_setDuration_35 : decode cX7_setDuration 35 = .ok (.ireturn, 1) := by decide +kernel
theorem dX7_slackOf_0 : decode cX7_slackOf 0 = .ok (.aload_n 0, 1) := by decide +kernel
theorem dX7_slackOf_1 : decode cX7_slackOf 1 = .ok (.invokevirtual 84, 3) := by decide +kernel
theorem dX7_slackOf_4 : decode cX7_slackOf 4 = .ok (.aload_n 0, 1) := by decide +kernel
theorem dX7_slackOf_5 : decode cX7_slackOf 5 = .ok (.getfield 22, 3) := by decide +kernel
theorem dX7_slackOf_8 : decode cX7_slackOf 8 = .ok (.aload_n 0, 1) := by decide +kernel
theorem dX7_slackOf_9 : decode cX7_slackOf 9 = .ok (.iload_n 1, 1) := by decide +kernel
theorem dX7_slackOf_10 : decode cX7_slackOf 10 = .ok (.invokevirtual 53, 3) := by decide +kernel
theorem dX7_slackOf_13 : decode cX7_slackOf 13 = .ok (.iaload, 1) := by decide +kernel
theorem dX7_slackOf_14 : decode cX7_slackOf 14 = .ok (.ireturn, 1) := by decide +kernel
theorem dX7_whyNotBorrow_0 : decode cX7_whyNotBorrow 0 = .ok (.aload_n 0, 1) := by decide +kernel
theorem dX7_whyNotBorrow_1 : decode cX7_whyNotBorrow 1 = .ok (.iload_n 1, 1) := by decide +kernel
theorem dX7_whyNotBorrow_2 : decode cX7_whyNotBorrow 2 = .ok (.iload_n 2, 1) := by decide +kernel
theorem dX7_whyNotBorrow_3 : decode cX7_whyNotBorrow 3 = .ok (.iconst 1, 1) := by decide +kernel
theorem dX7_whyNotBorrow_4 : decode cX7_whyNotBorrow 4 = .ok (.bipush 99, 2) := by decide +kernel
theorem dX7_whyNotBorrow_6 : decode cX7_whyNotBorrow 6 = .ok (.invokestatic 91, 3) := by decide +kernel
theorem dX7_whyNotBorrow_9 : decode cX7_whyNotBorrow 9 = .ok (.invokevirtual 140, 3) := by decide +kernel
theorem dX7_whyNotBorrow_12 : decode cX7_whyNotBorrow 12 = .ok (.istore_n 3, 1) := by decide +kernel
theorem dX7_whyNotBorrow_13 : decode cX7_whyNotBorrow 13 = .ok (.iload_n 3, 1) := by decide +kernel
theorem dX7_whyNotBorrow_14 : decode cX7_whyNotBorrow 14 = .ok (.ifCond .eq 7, 3) := by decide +kernel
theorem dX7_whyNotBorrow_17 : decode cX7_whyNotBorrow 17 = .ok (.iload_n 3, 1) := by decide +kernel
theorem dX7_whyNotBorrow_18 : decode cX7_whyNotBorrow 18 = .ok (.goto 17, 3) := by decide +kernel
theorem dX7_whyNotBorrow_21 : decode cX7_whyNotBorrow 21 = .ok (.aload_n 0, 1) := by decide +kernel
theorem dX7_whyNotBorrow_22 : decode cX7_whyNotBorrow 22 = .ok (.iload_n 1, 1) := by decide +kernel
theorem dX7_whyNotBorrow_23 : decode cX7_whyNotBorrow 23 = .ok (.invokevirtual 147, 3) := by decide +kernel
theorem dX7_whyNotBorrow_26 : decode cX7_whyNotBorrow 26 = .ok (.iload_n 2, 1) := by decide +kernel
theorem dX7_whyNotBorrow_27 : decode cX7_whyNotBorrow 27 = .ok (.if_icmp .ge 7, 3) := by decide +kernel
theorem dX7_whyNotBorrow_30 : decode cX7_whyNotBorrow 30 = .ok (.iconst 3, 1) := by decide +kernel
theorem dX7_whyNotBorrow_31 : decode cX7_whyNotBorrow 31 = .ok (.goto 4, 3) := by decide +kernel
theorem dX7_whyNotBorrow_34 : decode cX7_whyNotBorrow 34 = .ok (.iconst 0, 1) := by decide +kernel
theorem dX7_whyNotBorrow_35 : decode cX7_whyNotBorrow 35 = .ok (.ireturn, 1) := by decide +kernel
theorem dX7_whyNotBack_0 : decode cX7_whyNotBack 0 = .ok (.aload_n 0, 1) := by decide +kernel
theorem dX7_whyNotBack_1 : decode cX7_whyNotBack 1 = .ok (.iload_n 1, 1) := by decide +kernel
theorem dX7_whyNotBack_2 : decode cX7_whyNotBack 2 = .ok (.iload_n 2, 1) := by decide +kernel
theorem dX7_whyNotBack_3 : decode cX7_whyNotBack 3 = .ok (.iconst 1, 1) := by decide +kernel
theorem dX7_whyNotBack_4 : decode cX7_whyNotBack 4 = .ok (.bipush 99, 2) := by decide +kernel
theorem dX7_whyNotBack_6 : decode cX7_whyNotBack 6 = .ok (.invokestatic 91, 3) := by decide +kernel
theorem dX7_whyNotBack_9 : decode cX7_whyNotBack 9 = .ok (.invokevirtual 140, 3) := by decide +kernel
theorem dX7_whyNotBack_12 : decode cX7_whyNotBack 12 = .ok (.istore_n 3, 1) := by decide +kernel
theorem dX7_whyNotBack_13 : decode cX7_whyNotBack 13 = .ok (.iload_n 3, 1) := by decide +kernel
theorem dX7_whyNotBack_14 : decode cX7_whyNotBack 14 = .ok (.ifCond .eq 7, 3) := by decide +kernel
theorem dX7_whyNotBack_17 : decode cX7_whyNotBack 17 = .ok (.iload_n 3, 1) := by decide +kernel
theorem dX7_whyNotBack_18 : decode cX7_whyNotBack 18 = .ok (.goto 23, 3) := by decide +kernel
theorem dX7_whyNotBack_21 : decode cX7_whyNotBack 21 = .ok (.aload_n 0, 1) := by decide +kernel
theorem dX7_whyNotBack_22 : decode cX7_whyNotBack 22 = .ok (.aload_n 0, 1) := by decide +kernel
theorem dX7_whyNotBack_23 : decode cX7_whyNotBack 23 = .ok (.iload_n 1, 1) := by decide +kernel
theorem dX7_whyNotBack_24 : decode cX7_whyNotBack 24 = .ok (.invokevirtual 53, 3) := by decide +kernel
theorem dX7_whyNotBack_27 : decode cX7_whyNotBack 27 = .ok (.bipush 6, 2) := by decide +kernel
theorem dX7_whyNotBack_29 : decode cX7_whyNotBack 29 = .ok (.invokevirtual 49, 3) := by decide +kernel
theorem dX7_whyNotBack_32 : decode cX7_whyNotBack 32 = .ok (.iload_n 2, 1) := by decide +kernel
theorem dX7_whyNotBack_33 : decode cX7_whyNotBack 33 = .ok (.if_icmp .ge 7, 3) := by decide +kernel
theorem dX7_whyNotBack_36 : decode cX7_whyNotBack 36 = .ok (.iconst 3, 1) := by decide +kernel
theorem dX7_whyNotBack_37 : decode cX7_whyNotBack 37 = .ok (.goto 4, 3) := by decide +kernel
theorem dX7_whyNotBack_40 : decode cX7_whyNotBack 40 = .ok (.iconst 0, 1) := by decide +kernel
theorem dX7_whyNotBack_41 : decode cX7_whyNotBack 41 = .ok (.ireturn, 1) := by decide +kernel
theorem dX7_reserves_0 : decode cX7_reserves 0 = .ok (.aload_n 0, 1) := by decide +kernel
theorem dX7_reserves_1 : decode cX7_reserves 1 = .ok (.iload_n 1, 1) := by decide +kernel
theorem dX7_reserves_2 : decode cX7_reserves 2 = .ok (.invokevirtual 53, 3) := by decide +kernel
theorem dX7_reserves_5 : decode cX7_reserves 5 = .ok (.istore_n 3, 1) := by decide +kernel
theorem dX7_reserves_6 : decode cX7_reserves 6 = .ok (.aload_n 0, 1) := by decide +kernel
theorem dX7_reserves_7 : decode cX7_reserves 7 = .ok (.iload_n 3, 1) := by decide +kernel
theorem dX7_reserves_8 : decode cX7_reserves 8 = .ok (.bipush 6, 2) := by decide +kernel
theorem dX7_reserves_10 : decode cX7_reserves 10 = .ok (.aload_n 0, 1) := by decide +kernel
theorem dX7_reserves_11 : decode cX7_reserves 11 = .ok (.iload_n 3, 1) := by decide +kernel
theorem dX7_reserves_12 : decode cX7_reserves 12 = .ok (.bipush 6, 2) := by decide +kernel
theorem dX7_reserves_14 : decode cX7_reserves 14 = .ok (.invokevirtual 49, 3) := by decide +kernel
theorem dX7_reserves_17 : decode cX7_reserves 17 = .ok (.iload_n 2, 1) := by decide +kernel
theorem dX7_reserves_18 : decode cX7_reserves 18 = .ok (.iadd, 1) := by decide +kernel
theorem dX7_reserves_19 : decode cX7_reserves 19 = .ok (.invokevirtual 100, 3) := by decide +kernel
theorem dX7_reserves_22 : decode cX7_reserves 22 = .ok (.aload_n 0, 1) := by decide +kernel
theorem dX7_reserves_23 : decode cX7_reserves 23 = .ok (.iload_n 3, 1) := by decide +kernel
theorem dX7_reserves_24 : decode cX7_reserves 24 = .ok (.bipush 6, 2) := by decide +kernel
theorem dX7_reserves_26 : decode cX7_reserves 26 = .ok (.invokevirtual 49, 3) := by decide +kernel
theorem dX7_reserves_29 : decode cX7_reserves 29 = .ok (.ireturn, 1) := by decide +kernel
theorem dX7_borrow_0 : decode cX7_borrow 0 = .ok (.aload_n 0, 1) := by decide +kernel
theorem dX7_borrow_1 : decode cX7_borrow 1 = .ok (.aload_n 0, 1) := by decide +kernel
theorem dX7_borrow_2 : decode cX7_borrow 2 = .ok (.iload_n 1, 1) := by decide +kernel
theorem dX7_borrow_3 : decode cX7_borrow 3 = .ok (.iload_n 2, 1) := by decide +kernel
theorem dX7_borrow_4 : decode cX7_borrow 4 = .ok (.invokevirtual 150, 3) := by decide +kernel
theorem dX7_borrow_7 : decode cX7_borrow 7 = .ok (.invokevirtual 60, 3) := by decide +kernel
theorem dX7_borrow_10 : decode cX7_borrow 10 = .ok (.ifCond .eq 5, 3) := by decide +kernel
theorem dX7_borrow_13 : decode cX7_borrow 13 = .ok (.iconst 0, 1) := by decide +kernel
theorem dX7_borrow_14 : decode cX7_borrow 14 = .ok (.ireturn, 1) := by decide +kernel
theorem dX7_borrow_15 : decode cX7_borrow 15 = .ok (.aload_n 0, 1) := by decide +kernel
theorem dX7_borrow_16 : decode cX7_borrow 16 = .ok (.invokevirtual 108, 3) := by decide +kernel
theorem dX7_borrow_19 : decode cX7_borrow 19 = .ok (.aload_n 0, 1) := by decide +kernel
theorem dX7_borrow_20 : decode cX7_borrow 20 = .ok (.iload_n 1, 1) := by decide +kernel
theorem dX7_borrow_21 : decode cX7_borrow 21 = .ok (.iload_n 2, 1) := by decide +kernel
theorem dX7_borrow_22 : decode cX7_borrow 22 = .ok (.invokevirtual 153, 3) := by decide +kernel
theorem dX7_borrow_25 : decode cX7_borrow 25 = .ok (.ireturn, 1) := by decide +kernel
theorem dX7_giveBack_0 : decode cX7_giveBack 0 = .ok (.aload_n 0, 1) := by decide +kernel
theorem dX7_giveBack_1 : decode cX7_giveBack 1 = .ok (.aload_n 0, 1) := by decide +kernel
theorem dX7_giveBack_2 : decode cX7_giveBack 2 = .ok (.iload_n 1, 1) := by decide +kernel
theorem dX7_giveBack_3 : decode cX7_giveBack 3 = .ok (.iload_n 2, 1) := by decide +kernel
theorem dX7_giveBack_4 : decode cX7_giveBack 4 = .ok (.invokevirtual 156, 3) := by decide +kernel
theorem dX7_giveBack_7 : decode cX7_giveBack 7 = .ok (.invokevirtual 60, 3) := by decide +kernel
theorem dX7_giveBack_10 : decode cX7_giveBack 10 = .ok (.ifCond .eq 5, 3) := by decide +kernel
theorem dX7_giveBack_13 : decode cX7_giveBack 13 = .ok (.iconst 0, 1) := by decide +kernel
theorem dX7_giveBack_14 : decode cX7_giveBack 14 = .ok (.ireturn, 1) := by decide +kernel
theorem dX7_giveBack_15 : decode cX7_giveBack 15 = .ok (.aload_n 0, 1) := by decide +kernel
theorem dX7_giveBack_16 : decode cX7_giveBack 16 = .ok (.invokevirtual 108, 3) := by decide +kernel
theorem dX7_giveBack_19 : decode cX7_giveBack 19 = .ok (.aload_n 0, 1) := by decide +kernel
theorem dX7_giveBack_20 : decode cX7_giveBack 20 = .ok (.iload_n 1, 1) := by decide +kernel
theorem dX7_giveBack_21 : decode cX7_giveBack 21 = .ok (.iload_n 2, 1) := by decide +kernel
theorem dX7_giveBack_22 : decode cX7_giveBack 22 = .ok (.ineg, 1) := by decide +kernel
theorem dX7_giveBack_23 : decode cX7_giveBack 23 = .ok (.invokevirtual 153, 3) := by decide +kernel
theorem dX7_giveBack_26 : decode cX7_giveBack 26 = .ok (.ireturn, 1) := by decide +kernel
theorem dX7_whyNotUntil_0 : decode cX7_whyNotUntil 0 = .ok (.iload_n 0, 1) := by decide +kernel
theorem dX7_whyNotUntil_1 : decode cX7_whyNotUntil 1 = .ok (.iconst 0, 1) := by decide +kernel
theorem dX7_whyNotUntil_2 : decode cX7_whyNotUntil 2 = .ok (.sipush 999, 3) := by decide +kernel
theorem dX7_whyNotUntil_5 : decode cX7_whyNotUntil 5 = .ok (.invokestatic 91, 3) := by decide +kernel
theorem dX7_whyNotUntil_8 : decode cX7_whyNotUntil 8 = .ok (.ifCond .eq 7, 3) := by decide +kernel
theorem dX7_whyNotUntil_11 : decode cX7_whyNotUntil 11 = .ok (.iconst 0, 1) := by decide +kernel
theorem dX7_whyNotUntil_12 : decode cX7_whyNotUntil 12 = .ok (.goto 4, 3) := by decide +kernel
theorem dX7_whyNotUntil_15 : decode cX7_whyNotUntil 15 = .ok (.iconst 2, 1) := by decide +kernel
theorem dX7_whyNotUntil_16 : decode cX7_whyNotUntil 16 = .ok (.ireturn, 1) := by decide +kernel
theorem dX7_setDeadline_0 : decode cX7_setDeadline 0 = .ok (.aload_n 0, 1) := by decide +kernel
theorem dX7_setDeadline_1 : decode cX7_setDeadline 1 = .ok (.iload_n 1, 1) := by decide +kernel
theorem dX7_setDeadline_2 : decode cX7_setDeadline 2 = .ok (.invokestatic 159, 3) := by decide +kernel
theorem dX7_setDeadline_5 : decode cX7_setDeadline 5 = .ok (.ifCond .ne 7, 3) := by decide +kernel
theorem dX7_setDeadline_8 : decode cX7_setDeadline 8 = .ok (.iconst 0, 1) := by decide +kernel
theorem dX7_setDeadline_9 : decode cX7_setDeadline 9 = .ok (.goto 4, 3) := by decide +kernel
theorem dX7_setDeadline_12 : decode cX7_setDeadline 12 = .ok (.iconst 1, 1) := by decide +kernel
theorem dX7_setDeadline_13 : decode cX7_setDeadline 13 = .ok (.invokevirtual 60, 3) := by decide +kernel
theorem dX7_setDeadline_16 : decode cX7_setDeadline 16 = .ok (.ifCond .eq 5, 3) := by decide +kernel
theorem dX7_setDeadline_19 : decode cX7_setDeadline 19 = .ok (.iconst 0, 1) := by decide +kernel
theorem dX7_setDeadline_20 : decode cX7_setDeadline 20 = .ok (.ireturn, 1) := by decide +kernel
theorem dX7_setDeadline_21 : decode cX7_setDeadline 21 = .ok (.aload_n 0, 1) := by decide +kernel
theorem dX7_setDeadline_22 : decode cX7_setDeadline 22 = .ok (.invokevirtual 108, 3) := by decide +kernel
theorem dX7_setDeadline_25 : decode cX7_setDeadline 25 = .ok (.aload_n 0, 1) := by decide +kernel
theorem dX7_setDeadline_26 : decode cX7_setDeadline 26 = .ok (.getfield 7, 3) := by decide +kernel
theorem dX7_setDeadline_29 : decode cX7_setDeadline 29 = .ok (.iconst 2, 1) := by decide +kernel
theorem dX7_setDeadline_30 : decode cX7_setDeadline 30 = .ok (.iload_n 1, 1) := by decide +kernel
theorem dX7_setDeadline_31 : decode cX7_setDeadline 31 = .ok (.iastore, 1) := by decide +kernel
theorem dX7_setDeadline_32 : decode cX7_setDeadline 32 = .ok (.aload_n 0, 1) := by decide +kernel
theorem dX7_setDeadline_33 : decode cX7_setDeadline 33 = .ok (.invokevirtual 162, 3) := by decide +kernel
theorem dX7_setDeadline_36 : decode cX7_setDeadline 36 = .ok (.ireturn, 1) := by decide +kernel
theorem dX7_nodeValue_0 : decode cX7_nodeValue 0 = .ok (.aload_n 0, 1) := by decide +kernel
theorem dX7_nodeValue_1 : decode cX7_nodeValue 1 = .ok (.iload_n 1, 1) := by decide +kernel
theorem dX7_nodeValue_2 : decode cX7_nodeValue 2 = .ok (.iconst 1, 1) := by decide +kernel
theorem dX7_nodeValue_3 : decode cX7_nodeValue 3 = .ok (.invokevirtual 49, 3) := by decide +kernel
theorem dX7_nodeValue_6 : decode cX7_nodeValue 6 = .ok (.iconst 1, 1) := by decide +kernel
theorem dX7_nodeValue_7 : decode cX7_nodeValue 7 = .ok (.if_icmp .ne 7, 3) := by decide +kernel
theorem dX7_nodeValue_10 : decode cX7_nodeValue 10 = .ok (.iconst 1, 1) := by decide +kernel
theorem dX7_nodeValue_11 : decode cX7_nodeValue 11 = .ok (.goto 4, 3) := by decide +kernel
theorem dX7_nodeValue_14 : decode cX7_nodeValue 14 = .ok (.iconst 0, 1) := by decide +kernel
theorem dX7_nodeValue_15 : decode cX7_nodeValue 15 = .ok (.istore_n 3, 1) := by decide +kernel
theorem dX7_nodeValue_16 : decode cX7_nodeValue 16 = .ok (.iload_n 2, 1) := by decide +kernel
theorem dX7_nodeValue_17 : decode cX7_nodeValue 17 = .ok (.tableswitch 195 0 11 #[63, 70, 70, 70, 89, 104, 120, 127, 134, 148, 155, 180], 63) := by decide +kernel
theorem dX7_nodeValue_80 : decode cX7_nodeValue 80 = .ok (.aload_n 0, 1) := by decide +kernel
theorem dX7_nodeValue_81 : decode cX7_nodeValue 81 = .ok (.iload_n 1, 1) := by decide +kernel
theorem dX7_nodeValue_82 : decode cX7_nodeValue 82 = .ok (.iconst 1, 1) := by decide +kernel
theorem dX7_nodeValue_83 : decode cX7_nodeValue 83 = .ok (.invokevirtual 49, 3) := by decide +kernel
theorem dX7_nodeValue_86 : decode cX7_nodeValue 86 = .ok (.ireturn, 1) := by decide +kernel
theorem dX7_nodeValue_87 : decode cX7_nodeValue 87 = .ok (.iload_n 1, 1) := by decide +kernel
theorem dX7_nodeValue_88 : decode cX7_nodeValue 88 = .ok (.ifCond .ne 7, 3) := by decide +kernel
theorem dX7_nodeValue_91 : decode cX7_nodeValue 91 = .ok (.iconst (-1), 1) := by decide +kernel
theorem dX7_nodeValue_92 : decode cX7_nodeValue 92 = .ok (.goto 13, 3) := by decide +kernel
theorem dX7_nodeValue_95 : decode cX7_nodeValue 95 = .ok (.aload_n 0, 1) := by decide +kernel
theorem dX7_nodeValue_96 : decode cX7_nodeValue 96 = .ok (.iload_n 1, 1) := by decide +kernel
theorem dX7_nodeValue_97 : decode cX7_nodeValue 97 = .ok (.iconst 2, 1) := by decide +kernel
theorem dX7_nodeValue_98 : decode cX7_nodeValue 98 = .ok (.iload_n 2, 1) := by decide +kernel
theorem dX7_nodeValue_99 : decode cX7_nodeValue 99 = .ok (.iadd, 1) := by decide +kernel
theorem dX7_nodeValue_100 : decode cX7_nodeValue 100 = .ok (.iconst 1, 1) := by decide +kernel
theorem dX7_nodeValue_101 : decode cX7_nodeValue 101 = .ok (.isub, 1) := by decide +kernel
theorem dX7_nodeValue_102 : decode cX7_nodeValue 102 = .ok (.invokevirtual 49, 3) := by decide +kernel
theorem dX7_nodeValue_105 : decode cX7_nodeValue 105 = .ok (.ireturn, 1) := by decide +kernel
theorem dX7_nodeValue_106 : decode cX7_nodeValue 106 = .ok (.iload_n 3, 1) := by decide +kernel
theorem dX7_nodeValue_107 : decode cX7_nodeValue 107 = .ok (.ifCond .eq 12, 3) := by decide +kernel
theorem dX7_nodeValue_110 : decode cX7_nodeValue 110 = .ok (.aload_n 0, 1) := by decide +kernel
theorem dX7_nodeValue_111 : decode cX7_nodeValue 111 = .ok (.iload_n 1, 1) := by decide +kernel
theorem dX7_nodeValue_112 : decode cX7_nodeValue 112 = .ok (.iconst 5, 1) := by decide +kernel
theorem dX7_nodeValue_113 : decode cX7_nodeValue 113 = .ok (.invokevirtual 49, 3) := by decide +kernel
theorem dX7_nodeValue_116 : decode cX7_nodeValue 116 = .ok (.goto 4, 3) := by decide +kernel
theorem dX7_nodeValue_119 : decode cX7_nodeValue 119 = .ok (.iconst (-1), 1) := by decide +kernel
theorem dX7_nodeValue_120 : decode cX7_nodeValue 120 = .ok (.ireturn, 1) := by decide +kernel
theorem dX7_nodeValue_121 : decode cX7_nodeValue 121 = .ok (.iload_n 3, 1) := by decide +kernel
theorem dX7_nodeValue_122 : decode cX7_nodeValue 122 = .ok (.ifCond .eq 13, 3) := by decide +kernel
theorem dX7_nodeValue_125 : decode cX7_nodeValue 125 = .ok (.aload_n 0, 1) := by decide +kernel
theorem dX7_nodeValue_126 : decode cX7_nodeValue 126 = .ok (.iload_n 1, 1) := by decide +kernel
theorem dX7_nodeValue_127 : decode cX7_nodeValue 127 = .ok (.bipush 6, 2) := by decide +kernel
theorem dX7_nodeValue_129 : decode cX7_nodeValue 129 = .ok (.invokevirtual 49, 3) := by decide +kernel
theorem dX7_nodeValue_132 : decode cX7_nodeValue 132 = .ok (.goto 4, 3) := by decide +kernel
theorem dX7_nodeValue_135 : decode cX7_nodeValue 135 = .ok (.iconst (-1), 1) := by decide +kernel
theorem dX7_nodeValue_136 : decode cX7_nodeValue 136 = .ok (.ireturn, 1) := by decide +kernel
theorem dX7_nodeValue_137 : decode cX7_nodeValue 137 = .ok (.aload_n 0, 1) := by decide +kernel
theorem dX7_nodeValue_138 : decode cX7_nodeValue 138 = .ok (.getfield 16, 3) := by decide +kernel
theorem dX7_nodeValue_141 : decode cX7_nodeValue 141 = .ok (.iload_n 1, 1) := by decide +kernel
theorem dX7_nodeValue_142 : decode cX7_nodeValue 142 = .ok (.iaload, 1) := by decide +kernel
theorem dX7_nodeValue_143 : decode cX7_nodeValue 143 = .ok (.ireturn, 1) := by decide +kernel
theorem dX7_nodeValue_144 : decode cX7_nodeValue 144 = .ok (.aload_n 0, 1) := by decide +kernel
theorem dX7_nodeValue_145 : decode cX7_nodeValue 145 = .ok (.getfield 19, 3) := by decide +kernel
theorem dX7_nodeValue_148 : decode cX7_nodeValue 148 = .ok (.iload_n 1, 1) := by decide +kernel
theorem dX7_nodeValue_149 : decode cX7_nodeValue 149 = .ok (.iaload, 1) := by decide +kernel
theorem dX7_nodeValue_150 : decode cX7_nodeValue 150 = .ok (.ireturn, 1) := by decide +kernel
theorem dX7_nodeValue_151 : decode cX7_nodeValue 151 = .ok (.aload_n 0, 1) := by decide +kernel
theorem dX7_nodeValue_152 : decode cX7_nodeValue 152 = .ok (.getfield 19, 3) := by decide +kernel
theorem dX7_nodeValue_155 : decode cX7_nodeValue 155 = .ok (.iload_n 1, 1) := by decide +kernel
theorem dX7_nodeValue_156 : decode cX7_nodeValue 156 = .ok (.iaload, 1) := by decide +kernel
theorem dX7_nodeValue_157 : decode cX7_nodeValue 157 = .ok (.aload_n 0, 1) := by decide +kernel
theorem dX7_nodeValue_158 : decode cX7_nodeValue 158 = .ok (.getfield 22, 3) := by decide +kernel
theorem dX7_nodeValue_161 : decode cX7_nodeValue 161 = .ok (.iload_n 1, 1) := by decide +kernel
theorem dX7_nodeValue_162 : decode cX7_nodeValue 162 = .ok (.iaload, 1) := by decide +kernel
theorem dX7_nodeValue_163 : decode cX7_nodeValue 163 = .ok (.iadd, 1) := by decide +kernel
theorem dX7_nodeValue_164 : decode cX7_nodeValue 164 = .ok (.ireturn, 1) := by decide +kernel
theorem dX7_nodeValue_165 : decode cX7_nodeValue 165 = .ok (.aload_n 0, 1) := by decide +kernel
theorem dX7_nodeValue_166 : decode cX7_nodeValue 166 = .ok (.getfield 22, 3) := by decide +kernel
theorem dX7_nodeValue_169 : decode cX7_nodeValue 169 = .ok (.iload_n 1, 1) := by decide +kernel
theorem dX7_nodeValue_170 : decode cX7_nodeValue 170 = .ok (.iaload, 1) := by decide +kernel
theorem dX7_nodeValue_171 : decode cX7_nodeValue 171 = .ok (.ireturn, 1) := by decide +kernel
theorem dX7_nodeValue_172 : decode cX7_nodeValue 172 = .ok (.iload_n 1, 1) := by decide +kernel
theorem dX7_nodeValue_173 : decode cX7_nodeValue 173 = .ok (.ifCond .ne 7, 3) := by decide +kernel
theorem dX7_nodeValue_176 : decode cX7_nodeValue 176 = .ok (.iconst 0, 1) := by decide +kernel
theorem dX7_nodeValue_177 : decode cX7_nodeValue 177 = .ok (.goto 19, 3) := by decide +kernel
theorem dX7_nodeValue_180 : decode cX7_nodeValue 180 = .ok (.aload_n 0, 1) := by decide +kernel
theorem dX7_nodeValue_181 : decode cX7_nodeValue 181 = .ok (.aload_n 0, 1) := by decide +kernel
theorem dX7_nodeValue_182 : decode cX7_nodeValue 182 = .ok (.iload_n 1, 1) := by decide +kernel
theorem dX7_nodeValue_183 : decode cX7_nodeValue 183 = .ok (.iconst 2, 1) := by decide +kernel
theorem dX7_nodeValue_184 : decode cX7_nodeValue 184 = .ok (.invokevirtual 49, 3) := by decide +kernel
theorem dX7_nodeValue_187 : decode cX7_nodeValue 187 = .ok (.aload_n 0, 1) := by decide +kernel
theorem dX7_nodeValue_188 : decode cX7_nodeValue 188 = .ok (.iload_n 1, 1) := by decide +kernel
theorem dX7_nodeValue_189 : decode cX7_nodeValue 189 = .ok (.iconst 3, 1) := by decide +kernel
theorem dX7_nodeValue_190 : decode cX7_nodeValue 190 = .ok (.invokevirtual 49, 3) := by decide +kernel
theorem dX7_nodeValue_193 : decode cX7_nodeValue 193 = .ok (.invokevirtual 71, 3) := by decide +kernel
theorem dX7_nodeValue_196 : decode cX7_nodeValue 196 = .ok (.ireturn, 1) := by decide +kernel
theorem dX7_nodeValue_197 : decode cX7_nodeValue 197 = .ok (.aload_n 0, 1) := by decide +kernel
theorem dX7_nodeValue_198 : decode cX7_nodeValue 198 = .ok (.getfield 22, 3) := by decide +kernel
theorem dX7_nodeValue_201 : decode cX7_nodeValue 201 = .ok (.iload_n 1, 1) := by decide +kernel
theorem dX7_nodeValue_202 : decode cX7_nodeValue 202 = .ok (.iaload, 1) := by decide +kernel
theorem dX7_nodeValue_203 : decode cX7_nodeValue 203 = .ok (.ifCond .ne 7, 3) := by decide +kernel
theorem dX7_nodeValue_206 : decode cX7_nodeValue 206 = .ok (.iconst 1, 1) := by decide +kernel
theorem dX7_nodeValue_207 : decode cX7_nodeValue 207 = .ok (.goto 4, 3) := by decide +kernel
theorem dX7_nodeValue_210 : decode cX7_nodeValue 210 = .ok (.iconst 0, 1) := by decide +kernel
theorem dX7_nodeValue_211 : decode cX7_nodeValue 211 = .ok (.ireturn, 1) := by decide +kernel
theorem dX7_nodeValue_212 : decode cX7_nodeValue 212 = .ok (.aload_n 0, 1) := by decide +kernel
theorem dX7_nodeValue_213 : decode cX7_nodeValue 213 = .ok (.getfield 25, 3) := by decide +kernel
theorem dX7_nodeValue_216 : decode cX7_nodeValue 216 = .ok (.iload_n 1, 1) := by decide +kernel
theorem dX7_nodeValue_217 : decode cX7_nodeValue 217 = .ok (.iaload, 1) := by decide +kernel
theorem dX7_nodeValue_218 : decode cX7_nodeValue 218 = .ok (.ireturn, 1) := by decide +kernel
theorem dX7_node_0 : decode cX7_node 0 = .ok (.aload_n 0, 1) := by decide +kernel
theorem dX7_node_1 : decode cX7_node 1 = .ok (.aload_n 0, 1) := by decide +kernel
theorem dX7_node_2 : decode cX7_node 2 = .ok (.iload_n 1, 1) := by decide +kernel
theorem dX7_node_3 : decode cX7_node 3 = .ok (.invokevirtual 53, 3) := by decide +kernel
theorem dX7_node_6 : decode cX7_node 6 = .ok (.iconst (-1), 1) := by decide +kernel
theorem dX7_node_7 : decode cX7_node 7 = .ok (.if_icmp .ne 7, 3) := by decide +kernel
theorem dX7_node_10 : decode cX7_node 10 = .ok (.iconst 1, 1) := by decide +kernel
theorem dX7_node_11 : decode cX7_node 11 = .ok (.goto 18, 3) := by decide +kernel
theorem dX7_node_14 : decode cX7_node 14 = .ok (.iload_n 2, 1) := by decide +kernel
theorem dX7_node_15 : decode cX7_node 15 = .ok (.iconst 0, 1) := by decide +kernel
theorem dX7_node_16 : decode cX7_node 16 = .ok (.bipush 12, 2) := by decide +kernel
theorem dX7_node_18 : decode cX7_node 18 = .ok (.invokestatic 91, 3) := by decide +kernel
theorem dX7_node_21 : decode cX7_node 21 = .ok (.ifCond .eq 7, 3) := by decide +kernel
theorem dX7_node_24 : decode cX7_node 24 = .ok (.iconst 0, 1) := by decide +kernel
theorem dX7_node_25 : decode cX7_node 25 = .ok (.goto 4, 3) := by decide +kernel
theorem dX7_node_28 : decode cX7_node 28 = .ok (.iconst 2, 1) := by decide +kernel
theorem dX7_node_29 : decode cX7_node 29 = .ok (.invokevirtual 60, 3) := by decide +kernel
theorem dX7_node_32 : decode cX7_node 32 = .ok (.ifCond .eq 5, 3) := by decide +kernel
theorem dX7_node_35 : decode cX7_node 35 = .ok (.iconst 0, 1) := by decide +kernel
theorem dX7_node_36 : decode cX7_node 36 = .ok (.ireturn, 1) := by decide +kernel
theorem dX7_node_37 : decode cX7_node 37 = .ok (.aload_n 0, 1) := by decide +kernel
theorem dX7_node_38 : decode cX7_node 38 = .ok (.invokevirtual 84, 3) := by decide +kernel
theorem dX7_node_41 : decode cX7_node 41 = .ok (.aload_n 0, 1) := by decide +kernel
theorem dX7_node_42 : decode cX7_node 42 = .ok (.aload_n 0, 1) := by decide +kernel
theorem dX7_node_43 : decode cX7_node 43 = .ok (.iload_n 1, 1) := by decide +kernel
theorem dX7_node_44 : decode cX7_node 44 = .ok (.invokevirtual 53, 3) := by decide +kernel
theorem dX7_node_47 : decode cX7_node 47 = .ok (.iload_n 2, 1) := by decide +kernel
theorem dX7_node_48 : decode cX7_node 48 = .ok (.invokevirtual 165, 3) := by decide +kernel
theorem dX7_node_51 : decode cX7_node 51 = .ok (.ireturn, 1) := by decide +kernel
theorem dX7_isCriticalRow_0 : decode cX7_isCriticalRow 0 = .ok (.aload_n 0, 1) := by decide +kernel
theorem dX7_isCriticalRow_1 : decode cX7_isCriticalRow 1 = .ok (.iload_n 1, 1) := by decide +kernel
theorem dX7_isCriticalRow_2 : decode cX7_isCriticalRow 2 = .ok (.iload_n 2, 1) := by decide +kernel
theorem dX7_isCriticalRow_3 : decode cX7_isCriticalRow 3 = .ok (.invokevirtual 71, 3) := by decide +kernel
theorem dX7_isCriticalRow_6 : decode cX7_isCriticalRow 6 = .ok (.ifCond .ne 29, 3) := by decide +kernel
theorem dX7_isCriticalRow_9 : decode cX7_isCriticalRow 9 = .ok (.aload_n 0, 1) := by decide +kernel
theorem dX7_isCriticalRow_10 : decode cX7_isCriticalRow 10 = .ok (.getfield 22, 3) := by decide +kernel
theorem dX7_isCriticalRow_13 : decode cX7_isCriticalRow 13 = .ok (.aload_n 0, 1) := by decide +kernel
theorem dX7_isCriticalRow_14 : decode cX7_isCriticalRow 14 = .ok (.iload_n 1, 1) := by decide +kernel
theorem dX7_isCriticalRow_15 : decode cX7_isCriticalRow 15 = .ok (.invokevirtual 53, 3) := by decide +kernel
theorem dX7_isCriticalRow_18 : decode cX7_isCriticalRow 18 = .ok (.iaload, 1) := by decide +kernel
theorem dX7_isCriticalRow_19 : decode cX7_isCriticalRow 19 = .ok (.ifCond .ne 16, 3) := by decide +kernel
theorem dX7_isCriticalRow_22 : decode cX7_isCriticalRow 22 = .ok (.aload_n 0, 1) := by decide +kernel
theorem dX7_isCriticalRow_23 : decode cX7_isCriticalRow 23 = .ok (.iload_n 1, 1) := by decide +kernel
theorem dX7_isCriticalRow_24 : decode cX7_isCriticalRow 24 = .ok (.iload_n 2, 1) := by decide +kernel
theorem dX7_isCriticalRow_25 : decode cX7_isCriticalRow 25 = .ok (.invokevirtual 97, 3) := by decide +kernel
theorem dX7_isCriticalRow_28 : decode cX7_isCriticalRow 28 = .ok (.ifCond .le 7, 3) := by decide +kernel
theorem dX7_isCriticalRow_31 : decode cX7_isCriticalRow 31 = .ok (.iconst 1, 1) := by decide +kernel
theorem dX7_isCriticalRow_32 : decode cX7_isCriticalRow 32 = .ok (.goto 4, 3) := by decide +kernel
theorem dX7_isCriticalRow_35 : decode cX7_isCriticalRow 35 = .ok (.iconst 0, 1) := by decide +kernel
theorem dX7_isCriticalRow_36 : decode cX7_isCriticalRow 36 = .ok (.ireturn, 1) := by decide +kernel
theorem dX7_whyNotRow_0 : decode cX7_whyNotRow 0 = .ok (.aload_n 0, 1) := by decide +kernel
theorem dX7_whyNotRow_1 : decode cX7_whyNotRow 1 = .ok (.iload_n 1, 1) := by decide +kernel
theorem dX7_whyNotRow_2 : decode cX7_whyNotRow 2 = .ok (.invokevirtual 53, 3) := by decide +kernel
theorem dX7_whyNotRow_5 : decode cX7_whyNotRow 5 = .ok (.iconst (-1), 1) := by decide +kernel
theorem dX7_whyNotRow_6 : decode cX7_whyNotRow 6 = .ok (.if_icmp .ne 7, 3) := by decide +kernel
theorem dX7_whyNotRow_9 : decode cX7_whyNotRow 9 = .ok (.iconst 1, 1) := by decide +kernel
theorem dX7_whyNotRow_10 : decode cX7_whyNotRow 10 = .ok (.goto 24, 3) := by decide +kernel
theorem dX7_whyNotRow_13 : decode cX7_whyNotRow 13 = .ok (.iload_n 2, 1) := by decide +kernel
theorem dX7_whyNotRow_14 : decode cX7_whyNotRow 14 = .ok (.ifCond .ne 7, 3) := by decide +kernel
theorem dX7_whyNotRow_17 : decode cX7_whyNotRow 17 = .ok (.iconst 2, 1) := by decide +kernel
theorem dX7_whyNotRow_18 : decode cX7_whyNotRow 18 = .ok (.goto 16, 3) := by decide +kernel
theorem dX7_whyNotRow_21 : decode cX7_whyNotRow 21 = .ok (.aload_n 0, 1) := by decide +kernel
theorem dX7_whyNotRow_22 : decode cX7_whyNotRow 22 = .ok (.iload_n 1, 1) := by decide +kernel
theorem dX7_whyNotRow_23 : decode cX7_whyNotRow 23 = .ok (.invokevirtual 94, 3) := by decide +kernel
theorem dX7_whyNotRow_26 : decode cX7_whyNotRow 26 = .ok (.ifCond .eq 7, 3) := by decide +kernel
theorem dX7_whyNotRow_29 : decode cX7_whyNotRow 29 = .ok (.iconst 3, 1) := by decide +kernel
theorem dX7_whyNotRow_30 : decode cX7_whyNotRow 30 = .ok (.goto 4, 3) := by decide +kernel
theorem dX7_whyNotRow_33 : decode cX7_whyNotRow 33 = .ok (.iconst 0, 1) := by decide +kernel
theorem dX7_whyNotRow_34 : decode cX7_whyNotRow 34 = .ok (.ireturn, 1) := by decide +kernel
theorem dX7_rowValue_0 : decode cX7_rowValue 0 = .ok (.iload_n 3, 1) := by decide +kernel
theorem dX7_rowValue_1 : decode cX7_rowValue 1 = .ok (.tableswitch 48 0 2 #[27, 34, 41], 27) := by decide +kernel
theorem dX7_rowValue_28 : decode cX7_rowValue 28 = .ok (.aload_n 0, 1) := by decide +kernel
theorem dX7_rowValue_29 : decode cX7_rowValue 29 = .ok (.iload_n 1, 1) := by decide +kernel
theorem dX7_rowValue_30 : decode cX7_rowValue 30 = .ok (.iload_n 2, 1) := by decide +kernel
theorem dX7_rowValue_31 : decode cX7_rowValue 31 = .ok (.invokevirtual 97, 3) := by decide +kernel
theorem dX7_rowValue_34 : decode cX7_rowValue 34 = .ok (.ireturn, 1) := by decide +kernel
theorem dX7_rowValue_35 : decode cX7_rowValue 35 = .ok (.aload_n 0, 1) := by decide +kernel
theorem dX7_rowValue_36 : decode cX7_rowValue 36 = .ok (.iload_n 1, 1) := by decide +kernel
theorem dX7_rowValue_37 : decode cX7_rowValue 37 = .ok (.iload_n 2, 1) := by decide +kernel
theorem dX7_rowValue_38 : decode cX7_rowValue 38 = .ok (.invokevirtual 68, 3) := by decide +kernel
theorem dX7_rowValue_41 : decode cX7_rowValue 41 = .ok (.ireturn, 1) := by decide +kernel
theorem dX7_rowValue_42 : decode cX7_rowValue 42 = .ok (.aload_n 0, 1) := by decide +kernel
theorem dX7_rowValue_43 : decode cX7_rowValue 43 = .ok (.iload_n 1, 1) := by decide +kernel
theorem dX7_rowValue_44 : decode cX7_rowValue 44 = .ok (.iload_n 2, 1) := by decide +kernel
theorem dX7_rowValue_45 : decode cX7_rowValue 45 = .ok (.invokevirtual 71, 3) := by decide +kernel
theorem dX7_rowValue_48 : decode cX7_rowValue 48 = .ok (.ireturn, 1) := by decide +kernel
theorem dX7_rowValue_49 : decode cX7_rowValue 49 = .ok (.aload_n 0, 1) := by decide +kernel
theorem dX7_rowValue_50 : decode cX7_rowValue 50 = .ok (.iload_n 1, 1) := by decide +kernel
theorem dX7_rowValue_51 : decode cX7_rowValue 51 = .ok (.iload_n 2, 1) := by decide +kernel
theorem dX7_rowValue_52 : decode cX7_rowValue 52 = .ok (.invokevirtual 168, 3) := by decide +kernel
theorem dX7_rowValue_55 : decode cX7_rowValue 55 = .ok (.ifCond .eq 7, 3) := by decide +kernel
theorem dX7_rowValue_58 : decode cX7_rowValue 58 = .ok (.iconst 1, 1) := by decide +kernel
theorem dX7_rowValue_59 : decode cX7_rowValue 59 = .ok (.goto 4, 3) := by decide +kernel
theorem dX7_rowValue_62 : decode cX7_rowValue 62 = .ok (.iconst 0, 1) := by decide +kernel
theorem dX7_rowValue_63 : decode cX7_rowValue 63 = .ok (.ireturn, 1) := by decide +kernel
theorem dX7_row_0 : decode cX7_row 0 = .ok (.aload_n 0, 1) := by decide +kernel
theorem dX7_row_1 : decode cX7_row 1 = .ok (.aload_n 0, 1) := by decide +kernel
theorem dX7_row_2 : decode cX7_row 2 = .ok (.iload_n 1, 1) := by decide +kernel
theorem dX7_row_3 : decode cX7_row 3 = .ok (.iload_n 2, 1) := by decide +kernel
theorem dX7_row_4 : decode cX7_row 4 = .ok (.iconst 0, 1) := by decide +kernel
theorem dX7_row_5 : decode cX7_row 5 = .ok (.iconst 3, 1) := by decide +kernel
theorem dX7_row_6 : decode cX7_row 6 = .ok (.invokestatic 91, 3) := by decide +kernel
theorem dX7_row_9 : decode cX7_row 9 = .ok (.ifCond .eq 16, 3) := by decide +kernel
theorem dX7_row_12 : decode cX7_row 12 = .ok (.iload_n 3, 1) := by decide +kernel
theorem dX7_row_13 : decode cX7_row 13 = .ok (.iconst 0, 1) := by decide +kernel
theorem dX7_row_14 : decode cX7_row 14 = .ok (.iconst 3, 1) := by decide +kernel
theorem dX7_row_15 : decode cX7_row 15 = .ok (.invokestatic 91, 3) := by decide +kernel
theorem dX7_row_18 : decode cX7_row 18 = .ok (.ifCond .eq 7, 3) := by decide +kernel
theorem dX7_row_21 : decode cX7_row 21 = .ok (.iconst 1, 1) := by decide +kernel
theorem dX7_row_22 : decode cX7_row 22 = .ok (.goto 4, 3) := by decide +kernel
theorem dX7_row_25 : decode cX7_row 25 = .ok (.iconst 0, 1) := by decide +kernel
theorem dX7_row_26 : decode cX7_row 26 = .ok (.invokevirtual 171, 3) := by decide +kernel
theorem dX7_row_29 : decode cX7_row 29 = .ok (.invokevirtual 60, 3) := by decide +kernel
theorem dX7_row_32 : decode cX7_row 32 = .ok (.ifCond .eq 5, 3) := by decide +kernel
theorem dX7_row_35 : decode cX7_row 35 = .ok (.iconst 0, 1) := by decide +kernel
theorem dX7_row_36 : decode cX7_row 36 = .ok (.ireturn, 1) := by decide +kernel
theorem dX7_row_37 : decode cX7_row 37 = .ok (.aload_n 0, 1) := by decide +kernel
theorem dX7_row_38 : decode cX7_row 38 = .ok (.invokevirtual 84, 3) := by decide +kernel
theorem dX7_row_41 : decode cX7_row 41 = .ok (.aload_n 0, 1) := by decide +kernel
theorem dX7_row_42 : decode cX7_row 42 = .ok (.iload_n 1, 1) := by decide +kernel
theorem dX7_row_43 : decode cX7_row 43 = .ok (.iload_n 2, 1) := by decide +kernel
theorem dX7_row_44 : decode cX7_row 44 = .ok (.iload_n 3, 1) := by decide +kernel
theorem dX7_row_45 : decode cX7_row 45 = .ok (.invokevirtual 174, 3) := by decide +kernel
theorem dX7_row_48 : decode cX7_row 48 = .ok (.ireturn, 1) := by decide +kernel
theorem dX7_child_0 : decode cX7_child 0 = .ok (.aload_n 0, 1) := by decide +kernel
theorem dX7_child_1 : decode cX7_child 1 = .ok (.aload_n 0, 1) := by decide +kernel
theorem dX7_child_2 : decode cX7_child 2 = .ok (.iload_n 1, 1) := by decide +kernel
theorem dX7_child_3 : decode cX7_child 3 = .ok (.iload_n 2, 1) := by decide +kernel
theorem dX7_child_4 : decode cX7_child 4 = .ok (.iconst 0, 1) := by decide +kernel
theorem dX7_child_5 : decode cX7_child 5 = .ok (.iconst 3, 1) := by decide +kernel
theorem dX7_child_6 : decode cX7_child 6 = .ok (.invokestatic 91, 3) := by decide +kernel
theorem dX7_child_9 : decode cX7_child 9 = .ok (.ifCond .eq 11, 3) := by decide +kernel
theorem dX7_child_12 : decode cX7_child 12 = .ok (.iload_n 3, 1) := by decide +kernel
theorem dX7_child_13 : decode cX7_child 13 = .ok (.ifCond .lt 7, 3) := by decide +kernel
theorem dX7_child_16 : decode cX7_child 16 = .ok (.iconst 1, 1) := by decide +kernel
theorem dX7_child_17 : decode cX7_child 17 = .ok (.goto 4, 3) := by decide +kernel
theorem dX7_child_20 : decode cX7_child 20 = .ok (.iconst 0, 1) := by decide +kernel
theorem dX7_child_21 : decode cX7_child 21 = .ok (.invokevirtual 171, 3) := by decide +kernel
theorem dX7_child_24 : decode cX7_child 24 = .ok (.invokevirtual 60, 3) := by decide +kernel
theorem dX7_child_27 : decode cX7_child 27 = .ok (.ifCond .eq 5, 3) := by decide +kernel
theorem dX7_child_30 : decode cX7_child 30 = .ok (.iconst 0, 1) := by decide +kernel
theorem dX7_child_31 : decode cX7_child 31 = .ok (.ireturn, 1) := by decide +kernel
theorem dX7_child_32 : decode cX7_child 32 = .ok (.iconst 0, 1) := by decide +kernel
theorem dX7_child_33 : decode cX7_child 33 = .ok (.istore 4, 2) := by decide +kernel
theorem dX7_child_35 : decode cX7_child 35 = .ok (.iload 4, 2) := by decide +kernel
theorem dX7_child_37 : decode cX7_child 37 = .ok (.aload_n 0, 1) := by decide +kernel
theorem dX7_child_38 : decode cX7_child 38 = .ok (.getfield 7, 3) := by decide +kernel
theorem dX7_child_41 : decode cX7_child 41 = .ok (.iconst 0, 1) := by decide +kernel
theorem dX7_child_42 : decode cX7_child 42 = .ok (.iaload, 1) := by decide +kernel
theorem dX7_child_43 : decode cX7_child 43 = .ok (.if_icmp .ge 39, 3) := by decide +kernel
theorem dX7_child_46 : decode cX7_child 46 = .ok (.aload_n 0, 1) := by decide +kernel
theorem dX7_child_47 : decode cX7_child 47 = .ok (.iload 4, 2) := by decide +kernel
theorem dX7_child_49 : decode cX7_child 49 = .ok (.iload_n 1, 1) := by decide +kernel
theorem dX7_child_50 : decode cX7_child 50 = .ok (.iload_n 2, 1) := by decide +kernel
theorem dX7_child_51 : decode cX7_child 51 = .ok (.invokevirtual 64, 3) := by decide +kernel
theorem dX7_child_54 : decode cX7_child 54 = .ok (.ifCond .eq 22, 3) := by decide +kernel
theorem dX7_child_57 : decode cX7_child 57 = .ok (.aload_n 0, 1) := by decide +kernel
theorem dX7_child_58 : decode cX7_child 58 = .ok (.iload 4, 2) := by decide +kernel
theorem dX7_child_60 : decode cX7_child 60 = .ok (.iconst 4, 1) := by decide +kernel
theorem dX7_child_61 : decode cX7_child 61 = .ok (.invokevirtual 49, 3) := by decide +kernel
theorem dX7_child_64 : decode cX7_child 64 = .ok (.iload_n 3, 1) := by decide +kernel
theorem dX7_child_65 : decode cX7_child 65 = .ok (.if_icmp .ne 11, 3) := by decide +kernel
theorem dX7_child_68 : decode cX7_child 68 = .ok (.aload_n 0, 1) := by decide +kernel
theorem dX7_child_69 : decode cX7_child 69 = .ok (.iload 4, 2) := by decide +kernel
theorem dX7_child_71 : decode cX7_child 71 = .ok (.iconst 0, 1) := by decide +kernel
theorem dX7_child_72 : decode cX7_child 72 = .ok (.invokevirtual 49, 3) := by decide +kernel
theorem dX7_child_75 : decode cX7_child 75 = .ok (.ireturn, 1) := by decide +kernel
theorem dX7_child_76 : decode cX7_child 76 = .ok (.iinc 4 1, 3) := by decide +kernel
theorem dX7_child_79 : decode cX7_child 79 = .ok (.goto (-44), 3) := by decide +kernel
theorem dX7_child_82 : decode cX7_child 82 = .ok (.iconst (-1), 1) := by decide +kernel
theorem dX7_child_83 : decode cX7_child 83 = .ok (.ireturn, 1) := by decide +kernel
theorem dX7_layCritical_0 : decode cX7_layCritical 0 = .ok (.aload_n 0, 1) := by decide +kernel
theorem dX7_layCritical_1 : decode cX7_layCritical 1 = .ok (.invokevirtual 84, 3) := by decide +kernel
theorem dX7_layCritical_4 : decode cX7_layCritical 4 = .ok (.iconst 0, 1) := by decide +kernel
theorem dX7_layCritical_5 : decode cX7_layCritical 5 = .ok (.istore_n 1, 1) := by decide +kernel
theorem dX7_layCritical_6 : decode cX7_layCritical 6 = .ok (.iconst 0, 1) := by decide +kernel
theorem dX7_layCritical_7 : decode cX7_layCritical 7 = .ok (.istore_n 2, 1) := by decide +kernel
theorem dX7_layCritical_8 : decode cX7_layCritical 8 = .ok (.iload_n 2, 1) := by decide +kernel
theorem dX7_layCritical_9 : decode cX7_layCritical 9 = .ok (.aload_n 0, 1) := by decide +kernel
theorem dX7_layCritical_10 : decode cX7_layCritical 10 = .ok (.getfield 7, 3) := by decide +kernel
theorem dX7_layCritical_13 : decode cX7_layCritical 13 = .ok (.iconst 0, 1) := by decide +kernel
theorem dX7_layCritical_14 : decode cX7_layCritical 14 = .ok (.iaload, 1) := by decide +kernel
theorem dX7_layCritical_15 : decode cX7_layCritical 15 = .ok (.if_icmp .ge 86, 3) := by decide +kernel
theorem dX7_layCritical_18 : decode cX7_layCritical 18 = .ok (.aload_n 0, 1) := by decide +kernel
theorem dX7_layCritical_19 : decode cX7_layCritical 19 = .ok (.iload_n 2, 1) := by decide +kernel
theorem dX7_layCritical_20 : decode cX7_layCritical 20 = .ok (.iconst 1, 1) := by decide +kernel
theorem dX7_layCritical_21 : decode cX7_layCritical 21 = .ok (.invokevirtual 49, 3) := by decide +kernel
theorem dX7_layCritical_24 : decode cX7_layCritical 24 = .ok (.iconst 1, 1) := by decide +kernel
theorem dX7_layCritical_25 : decode cX7_layCritical 25 = .ok (.if_icmp .ne 70, 3) := by decide +kernel
theorem dX7_layCritical_28 : decode cX7_layCritical 28 = .ok (.aload_n 0, 1) := by decide +kernel
theorem dX7_layCritical_29 : decode cX7_layCritical 29 = .ok (.getfield 22, 3) := by decide +kernel
theorem dX7_layCritical_32 : decode cX7_layCritical 32 = .ok (.iload_n 2, 1) := by decide +kernel
theorem dX7_layCritical_33 : decode cX7_layCritical 33 = .ok (.iaload, 1) := by decide +kernel
theorem dX7_layCritical_34 : decode cX7_layCritical 34 = .ok (.ifCond .ne 61, 3) := by decide +kernel
theorem dX7_layCritical_37 : decode cX7_layCritical 37 = .ok (.iload_n 1, 1) := by decide +kernel
theorem dX7_layCritical_38 : decode cX7_layCritical 38 = .ok (.istore_n 3, 1) := by decide +kernel
theorem dX7_layCritical_39 : decode cX7_layCritical 39 = .ok (.iload_n 3, 1) := by decide +kernel
theorem dX7_layCritical_40 : decode cX7_layCritical 40 = .ok (.ifCond .le 45, 3) := by decide +kernel
theorem dX7_layCritical_43 : decode cX7_layCritical 43 = .ok (.aload_n 0, 1) := by decide +kernel
theorem dX7_layCritical_44 : decode cX7_layCritical 44 = .ok (.getfield 19, 3) := by decide +kernel
theorem dX7_layCritical_47 : decode cX7_layCritical 47 = .ok (.aload_n 0, 1) := by decide +kernel
theorem dX7_layCritical_48 : decode cX7_layCritical 48 = .ok (.getfield 38, 3) := by decide +kernel
theorem dX7_layCritical_51 : decode cX7_layCritical 51 = .ok (.iload_n 3, 1) := by decide +kernel
theorem dX7_layCritical_52 : decode cX7_layCritical 52 = .ok (.iconst 1, 1) := by decide +kernel
theorem dX7_layCritical_53 : decode cX7_layCritical 53 = .ok (.isub, 1) := by decide +kernel
theorem dX7_layCritical_54 : decode cX7_layCritical 54 = .ok (.iaload, 1) := by decide +kernel
theorem dX7_layCritical_55 : decode cX7_layCritical 55 = .ok (.iaload, 1) := by decide +kernel
theorem dX7_layCritical_56 : decode cX7_layCritical 56 = .ok (.aload_n 0, 1) := by decide +kernel
theorem dX7_layCritical_57 : decode cX7_layCritical 57 = .ok (.getfield 19, 3) := by decide +kernel
theorem dX7_layCritical_60 : decode cX7_layCritical 60 = .ok (.iload_n 2, 1) := by decide +kernel
theorem dX7_layCritical_61 : decode cX7_layCritical 61 = .ok (.iaload, 1) := by decide +kernel
theorem dX7_layCritical_62 : decode cX7_layCritical 62 = .ok (.if_icmp .le 23, 3) := by decide +kernel
theorem dX7_layCritical_65 : decode cX7_layCritical 65 = .ok (.aload_n 0, 1) := by decide +kernel
theorem dX7_layCritical_66 : decode cX7_layCritical 66 = .ok (.getfield 38, 3) := by decide +kernel
theorem dX7_layCritical_69 : decode cX7_layCritical 69 = .ok (.iload_n 3, 1) := by decide +kernel
theorem dX7_layCritical_70 : decode cX7_layCritical 70 = .ok (.aload_n 0, 1) := by decide +kernel
theorem dX7_layCritical_71 : decode cX7_layCritical 71 = .ok (.getfield 38, 3) := by decide +kernel
theorem dX7_layCritical_74 : decode cX7_layCritical 74 = .ok (.iload_n 3, 1) := by decide +kernel
theorem dX7_layCritical_75 : decode cX7_layCritical 75 = .ok (.iconst 1, 1) := by decide +kernel
theorem dX7_layCritical_76 : decode cX7_layCritical 76 = .ok (.isub, 1) := by decide +kernel
theorem dX7_layCritical_77 : decode cX7_layCritical 77 = .ok (.iaload, 1) := by decide +kernel
theorem dX7_layCritical_78 : decode cX7_layCritical 78 = .ok (.iastore, 1) := by decide +kernel
theorem dX7_layCritical_79 : decode cX7_layCritical 79 = .ok (.iinc 3 (-1), 3) := by decide +kernel
theorem dX7_layCritical_82 : decode cX7_layCritical 82 = .ok (.goto (-43), 3) := by decide +kernel
theorem dX7_layCritical_85 : decode cX7_layCritical 85 = .ok (.aload_n 0, 1) := by decide +kernel
theorem dX7_layCritical_86 : decode cX7_layCritical 86 = .ok (.getfield 38, 3) := by decide +kernel
theorem dX7_layCritical_89 : decode cX7_layCritical 89 = .ok (.iload_n 3, 1) := by decide +kernel
theorem dX7_layCritical_90 : decode cX7_layCritical 90 = .ok (.iload_n 2, 1) := by decide +kernel
theorem dX7_layCritical_91 : decode cX7_layCritical 91 = .ok (.iastore, 1) := by decide +kernel
theorem dX7_layCritical_92 : decode cX7_layCritical 92 = .ok (.iinc 1 1, 3) := by decide +kernel
theorem dX7_layCritical_95 : decode cX7_layCritical 95 = .ok (.iinc 2 1, 3) := by decide +kernel
theorem dX7_layCritical_98 : decode cX7_layCritical 98 = .ok (.goto (-90), 3) := by decide +kernel
theorem dX7_layCritical_101 : decode cX7_layCritical 101 = .ok (.iload_n 1, 1) := by decide +kernel
theorem dX7_layCritical_102 : decode cX7_layCritical 102 = .ok (.ireturn, 1) := by decide +kernel
theorem dX7_critical_0 : decode cX7_critical 0 = .ok (.aload_n 0, 1) := by decide +kernel
theorem dX7_critical_1 : decode cX7_critical 1 = .ok (.iload_n 1, 1) := by decide +kernel
theorem dX7_critical_2 : decode cX7_critical 2 = .ok (.ifCond .ge 7, 3) := by decide +kernel
theorem dX7_critical_5 : decode cX7_critical 5 = .ok (.iconst 1, 1) := by decide +kernel
theorem dX7_critical_6 : decode cX7_critical 6 = .ok (.goto 4, 3) := by decide +kernel
theorem dX7_critical_9 : decode cX7_critical 9 = .ok (.iconst 0, 1) := by decide +kernel
theorem dX7_critical_10 : decode cX7_critical 10 = .ok (.invokevirtual 60, 3) := by decide +kernel
theorem dX7_critical_13 : decode cX7_critical 13 = .ok (.ifCond .eq 5, 3) := by decide +kernel
theorem dX7_critical_16 : decode cX7_critical 16 = .ok (.iconst 0, 1) := by decide +kernel
theorem dX7_critical_17 : decode cX7_critical 17 = .ok (.ireturn, 1) := by decide +kernel
theorem dX7_critical_18 : decode cX7_critical 18 = .ok (.aload_n 0, 1) := by decide +kernel
theorem dX7_critical_19 : decode cX7_critical 19 = .ok (.invokevirtual 177, 3) := by decide +kernel
theorem dX7_critical_22 : decode cX7_critical 22 = .ok (.istore_n 2, 1) := by decide +kernel
theorem dX7_critical_23 : decode cX7_critical 23 = .ok (.iload_n 1, 1) := by decide +kernel
theorem dX7_critical_24 : decode cX7_critical 24 = .ok (.iload_n 2, 1) := by decide +kernel
theorem dX7_critical_25 : decode cX7_critical 25 = .ok (.if_icmp .ge 17, 3) := by decide +kernel
theorem dX7_critical_28 : decode cX7_critical 28 = .ok (.aload_n 0, 1) := by decide +kernel
theorem dX7_critical_29 : decode cX7_critical 29 = .ok (.aload_n 0, 1) := by decide +kernel
theorem dX7_critical_30 : decode cX7_critical 30 = .ok (.getfield 38, 3) := by decide +kernel
theorem dX7_critical_33 : decode cX7_critical 33 = .ok (.iload_n 1, 1) := by decide +kernel
theorem dX7_critical_34 : decode cX7_critical 34 = .ok (.iaload, 1) := by decide +kernel
theorem dX7_critical_35 : decode cX7_critical 35 = .ok (.iconst 0, 1) := by decide +kernel
theorem dX7_critical_36 : decode cX7_critical 36 = .ok (.invokevirtual 49, 3) := by decide +kernel
theorem dX7_critical_39 : decode cX7_critical 39 = .ok (.goto 4, 3) := by decide +kernel
theorem dX7_critical_42 : decode cX7_critical 42 = .ok (.iconst (-1), 1) := by decide +kernel
theorem dX7_critical_43 : decode cX7_critical 43 = .ok (.ireturn, 1) := by decide +kernel
theorem dX7_runningAt_0 : decode cX7_runningAt 0 = .ok (.iconst 0, 1) := by decide +kernel
theorem dX7_runningAt_1 : decode cX7_runningAt 1 = .ok (.istore_n 2, 1) := by decide +kernel
theorem dX7_runningAt_2 : decode cX7_runningAt 2 = .ok (.iconst 0, 1) := by decide +kernel
theorem dX7_runningAt_3 : decode cX7_runningAt 3 = .ok (.istore_n 3, 1) := by decide +kernel
theorem dX7_runningAt_4 : decode cX7_runningAt 4 = .ok (.iload_n 3, 1) := by decide +kernel
theorem dX7_runningAt_5 : decode cX7_runningAt 5 = .ok (.aload_n 0, 1) := by decide +kernel
theorem dX7_runningAt_6 : decode cX7_runningAt 6 = .ok (.getfield 7, 3) := by decide +kernel
theorem dX7_runningAt_9 : decode cX7_runningAt 9 = .ok (.iconst 0, 1) := by decide +kernel
theorem dX7_runningAt_10 : decode cX7_runningAt 10 = .ok (.iaload, 1) := by decide +kernel
theorem dX7_runningAt_11 : decode cX7_runningAt 11 = .ok (.if_icmp .ge 54, 3) := by decide +kernel
theorem dX7_runningAt_14 : decode cX7_runningAt 14 = .ok (.iload_n 2, 1) := by decide +kernel
theorem dX7_runningAt_15 : decode cX7_runningAt 15 = .ok (.aload_n 0, 1) := by decide +kernel
theorem dX7_runningAt_16 : decode cX7_runningAt 16 = .ok (.iload_n 3, 1) := by decide +kernel
theorem dX7_runningAt_17 : decode cX7_runningAt 17 = .ok (.iconst 1, 1) := by decide +kernel
theorem dX7_runningAt_18 : decode cX7_runningAt 18 = .ok (.invokevirtual 49, 3) := by decide +kernel
theorem dX7_runningAt_21 : decode cX7_runningAt 21 = .ok (.iconst 1, 1) := by decide +kernel
theorem dX7_runningAt_22 : decode cX7_runningAt 22 = .ok (.if_icmp .ne 34, 3) := by decide +kernel
theorem dX7_runningAt_25 : decode cX7_runningAt 25 = .ok (.aload_n 0, 1) := by decide +kernel
theorem dX7_runningAt_26 : decode cX7_runningAt 26 = .ok (.getfield 19, 3) := by decide +kernel
theorem dX7_runningAt_29 : decode cX7_runningAt 29 = .ok (.iload_n 3, 1) := by decide +kernel
theorem dX7_runningAt_30 : decode cX7_runningAt 30 = .ok (.iaload, 1) := by decide +kernel
theorem dX7_runningAt_31 : decode cX7_runningAt 31 = .ok (.iload_n 1, 1) := by decide +kernel
theorem dX7_runningAt_32 : decode cX7_runningAt 32 = .ok (.if_icmp .gt 24, 3) := by decide +kernel
theorem dX7_runningAt_35 : decode cX7_runningAt 35 = .ok (.iload_n 1, 1) := by decide +kernel
theorem dX7_runningAt_36 : decode cX7_runningAt 36 = .ok (.aload_n 0, 1) := by decide +kernel
theorem dX7_runningAt_37 : decode cX7_runningAt 37 = .ok (.getfield 19, 3) := by decide +kernel
theorem dX7_runningAt_40 : decode cX7_runningAt 40 = .ok (.iload_n 3, 1) := by decide +kernel
theorem dX7_runningAt_41 : decode cX7_runningAt 41 = .ok (.iaload, 1) := by decide +kernel
theorem dX7_runningAt_42 : decode cX7_runningAt 42 = .ok (.aload_n 0, 1) := by decide +kernel
theorem dX7_runningAt_43 : decode cX7_runningAt 43 = .ok (.getfield 16, 3) := by decide +kernel
theorem dX7_runningAt_46 : decode cX7_runningAt 46 = .ok (.iload_n 3, 1) := by decide +kernel
theorem dX7_runningAt_47 : decode cX7_runningAt 47 = .ok (.iaload, 1) := by decide +kernel
theorem dX7_runningAt_48 : decode cX7_runningAt 48 = .ok (.iadd, 1) := by decide +kernel
theorem dX7_runningAt_49 : decode cX7_runningAt 49 = .ok (.if_icmp .ge 7, 3) := by decide +kernel
theorem dX7_runningAt_52 : decode cX7_runningAt 52 = .ok (.iconst 1, 1) := by decide +kernel
theorem dX7_runningAt_53 : decode cX7_runningAt 53 = .ok (.goto 4, 3) := by decide +kernel
theorem dX7_runningAt_56 : decode cX7_runningAt 56 = .ok (.iconst 0, 1) := by decide +kernel
theorem dX7_runningAt_57 : decode cX7_runningAt 57 = .ok (.iadd, 1) := by decide +kernel
theorem dX7_runningAt_58 : decode cX7_runningAt 58 = .ok (.istore_n 2, 1) := by decide +kernel
theorem dX7_runningAt_59 : decode cX7_runningAt 59 = .ok (.iinc 3 1, 3) := by decide +kernel
theorem dX7_runningAt_62 : decode cX7_runningAt 62 = .ok (.goto (-58), 3) := by decide +kernel
theorem dX7_runningAt_65 : decode cX7_runningAt 65 = .ok (.iload_n 2, 1) := by decide +kernel
theorem dX7_runningAt_66 : decode cX7_runningAt 66 = .ok (.ireturn, 1) := by decide +kernel
theorem dX7_running_0 : decode cX7_running 0 = .ok (.aload_n 0, 1) := by decide +kernel
theorem dX7_running_1 : decode cX7_running 1 = .ok (.iload_n 1, 1) := by decide +kernel
theorem dX7_running_2 : decode cX7_running 2 = .ok (.ifCond .ge 7, 3) := by decide +kernel
theorem dX7_running_5 : decode cX7_running 5 = .ok (.iconst 1, 1) := by decide +kernel
theorem dX7_running_6 : decode cX7_running 6 = .ok (.goto 4, 3) := by decide +kernel
theorem dX7_running_9 : decode cX7_running 9 = .ok (.iconst 0, 1) := by decide +kernel
theorem dX7_running_10 : decode cX7_running 10 = .ok (.invokevirtual 60, 3) := by decide +kernel
theorem dX7_running_13 : decode cX7_running 13 = .ok (.ifCond .eq 5, 3) := by decide +kernel
theorem dX7_running_16 : decode cX7_running 16 = .ok (.iconst 0, 1) := by decide +kernel
theorem dX7_running_17 : decode cX7_running 17 = .ok (.ireturn, 1) := by decide +kernel
theorem dX7_running_18 : decode cX7_running 18 = .ok (.aload_n 0, 1) := by decide +kernel
theorem dX7_running_19 : decode cX7_running 19 = .ok (.invokevirtual 84, 3) := by decide +kernel
theorem dX7_running_22 : decode cX7_running 22 = .ok (.aload_n 0, 1) := by decide +kernel
theorem dX7_running_23 : decode cX7_running 23 = .ok (.iload_n 1, 1) := by decide +kernel
theorem dX7_running_24 : decode cX7_running 24 = .ok (.invokevirtual 180, 3) := by decide +kernel
theorem dX7_running_27 : decode cX7_running 27 = .ok (.ireturn, 1) := by decide +kernel
theorem dX7_wholeValue_0 : decode cX7_wholeValue 0 = .ok (.iconst 0, 1) := by decide +kernel
theorem dX7_wholeValue_1 : decode cX7_wholeValue 1 = .ok (.istore_n 2, 1) := by decide +kernel
theorem dX7_wholeValue_2 : decode cX7_wholeValue 2 = .ok (.iconst 0, 1) := by decide +kernel
theorem dX7_wholeValue_3 : decode cX7_wholeValue 3 = .ok (.istore_n 3, 1) := by decide +kernel
theorem dX7_wholeValue_4 : decode cX7_wholeValue 4 = .ok (.iconst 0, 1) := by decide +kernel
theorem dX7_wholeValue_5 : decode cX7_wholeValue 5 = .ok (.istore 4, 2) := by decide +kernel
theorem dX7_wholeValue_7 : decode cX7_wholeValue 7 = .ok (.iconst 0, 1) := by decide +kernel
theorem dX7_wholeValue_8 : decode cX7_wholeValue 8 = .ok (.istore 5, 2) := by decide +kernel
theorem dX7_wholeValue_10 : decode cX7_wholeValue 10 = .ok (.iconst 0, 1) := by decide +kernel
theorem dX7_wholeValue_11 : decode cX7_wholeValue 11 = .ok (.istore 6, 2) := by decide +kernel
theorem dX7_wholeValue_13 : decode cX7_wholeValue 13 = .ok (.iconst 0, 1) := by decide +kernel
theorem dX7_wholeValue_14 : decode cX7_wholeValue 14 = .ok (.istore 7, 2) := by decide +kernel
theorem dX7_wholeValue_16 : decode cX7_wholeValue 16 = .ok (.iload 7, 2) := by decide +kernel
theorem dX7_wholeValue_18 : decode cX7_wholeValue 18 = .ok (.aload_n 0, 1) := by decide +kernel
theorem dX7_wholeValue_19 : decode cX7_wholeValue 19 = .ok (.getfield 7, 3) := by decide +kernel
theorem dX7_wholeValue_22 : decode cX7_wholeValue 22 = .ok (.iconst 0, 1) := by decide +kernel
theorem dX7_wholeValue_23 : decode cX7_wholeValue 23 = .ok (.iaload, 1) := by decide +kernel
theorem dX7_wholeValue_24 : decode cX7_wholeValue 24 = .ok (.if_icmp .ge 138, 3) := by decide +kernel
theorem dX7_wholeValue_27 : decode cX7_wholeValue 27 = .ok (.aload_n 0, 1) := by decide +kernel
theorem dX7_wholeValue_28 : decode cX7_wholeValue 28 = .ok (.iload 7, 2) := by decide +kernel
theorem dX7_wholeValue_30 : decode cX7_wholeValue 30 = .ok (.iconst 1, 1) := by decide +kernel
theorem dX7_wholeValue_31 : decode cX7_wholeValue 31 = .ok (.invokevirtual 49, 3) := by decide +kernel
theorem dX7_wholeValue_34 : decode cX7_wholeValue 34 = .ok (.iconst 1, 1) := by decide +kernel
theorem dX7_wholeValue_35 : decode cX7_wholeValue 35 = .ok (.if_icmp .ne 7, 3) := by decide +kernel
theorem dX7_wholeValue_38 : decode cX7_wholeValue 38 = .ok (.iconst 1, 1) := by decide +kernel
theorem dX7_wholeValue_39 : decode cX7_wholeValue 39 = .ok (.goto 4, 3) := by decide +kernel
theorem dX7_wholeValue_42 : decode cX7_wholeValue 42 = .ok (.iconst 0, 1) := by decide +kernel
theorem dX7_wholeValue_43 : decode cX7_wholeValue 43 = .ok (.istore 8, 2) := by decide +kernel
theorem dX7_wholeValue_45 : decode cX7_wholeValue 45 = .ok (.iload_n 2, 1) := by decide +kernel
theorem dX7_wholeValue_46 : decode cX7_wholeValue 46 = .ok (.iload 8, 2) := by decide +kernel
theorem dX7_wholeValue_48 : decode cX7_wholeValue 48 = .ok (.ifCond .eq 7, 3) := by decide +kernel
theorem dX7_wholeValue_51 : decode cX7_wholeValue 51 = .ok (.iconst 1, 1) := by decide +kernel
theorem dX7_wholeValue_52 : decode cX7_wholeValue 52 = .ok (.goto 4, 3) := by decide +kernel
theorem dX7_wholeValue_55 : decode cX7_wholeValue 55 = .ok (.iconst 0, 1) := by decide +kernel
theorem dX7_wholeValue_56 : decode cX7_wholeValue 56 = .ok (.iadd, 1) := by decide +kernel
theorem dX7_wholeValue_57 : decode cX7_wholeValue 57 = .ok (.istore_n 2, 1) := by decide +kernel
theorem dX7_wholeValue_58 : decode cX7_wholeValue 58 = .ok (.iload_n 3, 1) := by decide +kernel
theorem dX7_wholeValue_59 : decode cX7_wholeValue 59 = .ok (.aload_n 0, 1) := by decide +kernel
theorem dX7_wholeValue_60 : decode cX7_wholeValue 60 = .ok (.iload 7, 2) := by decide +kernel
theorem dX7_wholeValue_62 : decode cX7_wholeValue 62 = .ok (.iconst 5, 1) := by decide +kernel
theorem dX7_wholeValue_63 : decode cX7_wholeValue 63 = .ok (.invokevirtual 49, 3) := by decide +kernel
theorem dX7_wholeValue_66 : decode cX7_wholeValue 66 = .ok (.iadd, 1) := by decide +kernel
theorem dX7_wholeValue_67 : decode cX7_wholeValue 67 = .ok (.istore_n 3, 1) := by decide +kernel
theorem dX7_wholeValue_68 : decode cX7_wholeValue 68 = .ok (.iload 4, 2) := by decide +kernel
theorem dX7_wholeValue_70 : decode cX7_wholeValue 70 = .ok (.aload_n 0, 1) := by decide +kernel
theorem dX7_wholeValue_71 : decode cX7_wholeValue 71 = .ok (.iload 7, 2) := by decide +kernel
theorem dX7_wholeValue_73 : decode cX7_wholeValue 73 = .ok (.bipush 6, 2) := by decide +kernel
theorem dX7_wholeValue_75 : decode cX7_wholeValue 75 = .ok (.invokevirtual 49, 3) := by decide +kernel
theorem dX7_wholeValue_78 : decode cX7_wholeValue 78 = .ok (.iadd, 1) := by decide +kernel
theorem dX7_wholeValue_79 : decode cX7_wholeValue 79 = .ok (.istore 4, 2) := by decide +kernel
theorem dX7_wholeValue_81 : decode cX7_wholeValue 81 = .ok (.aload_n 0, 1) := by decide +kernel
theorem dX7_wholeValue_82 : decode cX7_wholeValue 82 = .ok (.aload_n 0, 1) := by decide +kernel
theorem dX7_wholeValue_83 : decode cX7_wholeValue 83 = .ok (.getfield 19, 3) := by decide +kernel
theorem dX7_wholeValue_86 : decode cX7_wholeValue 86 = .ok (.iload 7, 2) := by decide +kernel
theorem dX7_wholeValue_88 : decode cX7_wholeValue 88 = .ok (.iaload, 1) := by decide +kernel
theorem dX7_wholeValue_89 : decode cX7_wholeValue 89 = .ok (.invokevirtual 180, 3) := by decide +kernel
theorem dX7_wholeValue_92 : decode cX7_wholeValue 92 = .ok (.istore 9, 2) := by decide +kernel
theorem dX7_wholeValue_94 : decode cX7_wholeValue 94 = .ok (.iload 9, 2) := by decide +kernel
theorem dX7_wholeValue_96 : decode cX7_wholeValue 96 = .ok (.iload 6, 2) := by decide +kernel
theorem dX7_wholeValue_98 : decode cX7_wholeValue 98 = .ok (.if_icmp .le 8, 3) := by decide +kernel
theorem dX7_wholeValue_101 : decode cX7_wholeValue 101 = .ok (.iload 9, 2) := by decide +kernel
theorem dX7_wholeValue_103 : decode cX7_wholeValue 103 = .ok (.goto 5, 3) := by decide +kernel
theorem dX7_wholeValue_106 : decode cX7_wholeValue 106 = .ok (.iload 6, 2) := by decide +kernel
theorem dX7_wholeValue_108 : decode cX7_wholeValue 108 = .ok (.istore 6, 2) := by decide +kernel
theorem dX7_wholeValue_110 : decode cX7_wholeValue 110 = .ok (.iconst 0, 1) := by decide +kernel
theorem dX7_wholeValue_111 : decode cX7_wholeValue 111 = .ok (.istore 10, 2) := by decide +kernel
theorem dX7_wholeValue_113 : decode cX7_wholeValue 113 = .ok (.iload 10, 2) := by decide +kernel
theorem dX7_wholeValue_115 : decode cX7_wholeValue 115 = .ok (.iconst 4, 1) := by decide +kernel
theorem dX7_wholeValue_116 : decode cX7_wholeValue 116 = .ok (.if_icmp .ge 40, 3) := by decide +kernel
theorem dX7_wholeValue_119 : decode cX7_wholeValue 119 = .ok (.iload 8, 2) := by decide +kernel
theorem dX7_wholeValue_121 : decode cX7_wholeValue 121 = .ok (.ifCond .ne 35, 3) := by decide +kernel
theorem dX7_wholeValue_124 : decode cX7_wholeValue 124 = .ok (.iload 5, 2) := by decide +kernel
theorem dX7_wholeValue_126 : decode cX7_wholeValue 126 = .ok (.aload_n 0, 1) := by decide +kernel
theorem dX7_wholeValue_127 : decode cX7_wholeValue 127 = .ok (.aload_n 0, 1) := by decide +kernel
theorem dX7_wholeValue_128 : decode cX7_wholeValue 128 = .ok (.iload 7, 2) := by decide +kernel
theorem dX7_wholeValue_130 : decode cX7_wholeValue 130 = .ok (.iconst 0, 1) := by decide +kernel
theorem dX7_wholeValue_131 : decode cX7_wholeValue 131 = .ok (.invokevirtual 49, 3) := by decide +kernel
theorem dX7_wholeValue_134 : decode cX7_wholeValue 134 = .ok (.iload 10, 2) := by decide +kernel
theorem dX7_wholeValue_136 : decode cX7_wholeValue 136 = .ok (.invokevirtual 168, 3) := by decide +kernel
theorem dX7_wholeValue_139 : decode cX7_wholeValue 139 = .ok (.ifCond .eq 7, 3) := by decide +kernel
theorem dX7_wholeValue_142 : decode cX7_wholeValue 142 = .ok (.iconst 1, 1) := by decide +kernel
theorem dX7_wholeValue_143 : decode cX7_wholeValue 143 = .ok (.goto 4, 3) := by decide +kernel
theorem dX7_wholeValue_146 : decode cX7_wholeValue 146 = .ok (.iconst 0, 1) := by decide +kernel
theorem dX7_wholeValue_147 : decode cX7_wholeValue 147 = .ok (.iadd, 1) := by decide +kernel
theorem dX7_wholeValue_148 : decode cX7_wholeValue 148 = .ok (.istore 5, 2) := by decide +kernel
theorem dX7_wholeValue_150 : decode cX7_wholeValue 150 = .ok (.iinc 10 1, 3) := by decide +kernel
theorem dX7_wholeValue_153 : decode cX7_wholeValue 153 = .ok (.goto (-40), 3) := by decide +kernel
theorem dX7_wholeValue_156 : decode cX7_wholeValue 156 = .ok (.iinc 7 1, 3) := by decide +kernel
theorem dX7_wholeValue_159 : decode cX7_wholeValue 159 = .ok (.goto (-143), 3) := by decide +kernel
theorem dX7_wholeValue_162 : decode cX7_wholeValue 162 = .ok (.iload_n 1, 1) := by decide +kernel
theorem dX7_wholeValue_163 : decode cX7_wholeValue 163 = .ok (.tableswitch 108 0 10 #[57, 64, 66, 73, 80, 85, 90, 93, 95, 98, 101], 57) := by decide +kernel
theorem dX7_wholeValue_220 : decode cX7_wholeValue 220 = .ok (.aload_n 0, 1) := by decide +kernel
theorem dX7_wholeValue_221 : decode cX7_wholeValue 221 = .ok (.getfield 7, 3) := by decide +kernel
theorem dX7_wholeValue_224 : decode cX7_wholeValue 224 = .ok (.iconst 0, 1) := by decide +kernel
theorem dX7_wholeValue_225 : decode cX7_wholeValue 225 = .ok (.iaload, 1) := by decide +kernel
theorem dX7_wholeValue_226 : decode cX7_wholeValue 226 = .ok (.ireturn, 1) := by decide +kernel
theorem dX7_wholeValue_227 : decode cX7_wholeValue 227 = .ok (.iload_n 2, 1) := by decide +kernel
theorem dX7_wholeValue_228 : decode cX7_wholeValue 228 = .ok (.ireturn, 1) := by decide +kernel
theorem dX7_wholeValue_229 : decode cX7_wholeValue 229 = .ok (.aload_n 0, 1) := by decide +kernel
theorem dX7_wholeValue_230 : decode cX7_wholeValue 230 = .ok (.getfield 16, 3) := by decide +kernel
theorem dX7_wholeValue_233 : decode cX7_wholeValue 233 = .ok (.iconst 0, 1) := by decide +kernel
theorem dX7_wholeValue_234 : decode cX7_wholeValue 234 = .ok (.iaload, 1) := by decide +kernel
theorem dX7_wholeValue_235 : decode cX7_wholeValue 235 = .ok (.ireturn, 1) := by decide +kernel
theorem dX7_wholeValue_236 : decode cX7_wholeValue 236 = .ok (.aload_n 0, 1) := by decide +kernel
theorem dX7_wholeValue_237 : decode cX7_wholeValue 237 = .ok (.getfield 7, 3) := by decide +kernel
theorem dX7_wholeValue_240 : decode cX7_wholeValue 240 = .ok (.iconst 2, 1) := by decide +kernel
theorem dX7_wholeValue_241 : decode cX7_wholeValue 241 = .ok (.iaload, 1) := by decide +kernel
theorem dX7_wholeValue_242 : decode cX7_wholeValue 242 = .ok (.ireturn, 1) := by decide +kernel
theorem dX7_wholeValue_243 : decode cX7_wholeValue 243 = .ok (.aload_n 0, 1) := by decide +kernel
theorem dX7_wholeValue_244 : decode cX7_wholeValue 244 = .ok (.invokevirtual 162, 3) := by decide +kernel
theorem dX7_wholeValue_247 : decode cX7_wholeValue 247 = .ok (.ireturn, 1) := by decide +kernel
theorem dX7_wholeValue_248 : decode cX7_wholeValue 248 = .ok (.aload_n 0, 1) := by decide +kernel
theorem dX7_wholeValue_249 : decode cX7_wholeValue 249 = .ok (.invokevirtual 177, 3) := by decide +kernel
theorem dX7_wholeValue_252 : decode cX7_wholeValue 252 = .ok (.ireturn, 1) := by decide +kernel
theorem dX7_wholeValue_253 : decode cX7_wholeValue 253 = .ok (.iload 5, 2) := by decide +kernel
theorem dX7_wholeValue_255 : decode cX7_wholeValue 255 = .ok (.ireturn, 1) := by decide +kernel
theorem dX7_wholeValue_256 : decode cX7_wholeValue 256 = .ok (.iload_n 3, 1) := by decide +kernel
theorem dX7_wholeValue_257 : decode cX7_wholeValue 257 = .ok (.ireturn, 1) := by decide +kernel
theorem dX7_wholeValue_258 : decode cX7_wholeValue 258 = .ok (.iload 4, 2) := by decide +kernel
theorem dX7_wholeValue_260 : decode cX7_wholeValue 260 = .ok (.ireturn, 1) := by decide +kernel
theorem dX7_wholeValue_261 : decode cX7_wholeValue 261 = .ok (.iload 6, 2) := by decide +kernel
theorem dX7_wholeValue_263 : decode cX7_wholeValue 263 = .ok (.ireturn, 1) := by decide +kernel
theorem dX7_wholeValue_264 : decode cX7_wholeValue 264 = .ok (.aload_n 0, 1) := by decide +kernel
theorem dX7_wholeValue_265 : decode cX7_wholeValue 265 = .ok (.getfield 7, 3) := by decide +kernel
theorem dX7_wholeValue_268 : decode cX7_wholeValue 268 = .ok (.iconst 1, 1) := by decide +kernel
theorem dX7_wholeValue_269 : decode cX7_wholeValue 269 = .ok (.iaload, 1) := by decide +kernel
theorem dX7_wholeValue_270 : decode cX7_wholeValue 270 = .ok (.ireturn, 1) := by decide +kernel
theorem dX7_wholeValue_271 : decode cX7_wholeValue 271 = .ok (.aload_n 0, 1) := by decide +kernel
theorem dX7_wholeValue_272 : decode cX7_wholeValue 272 = .ok (.getfield 183, 3) := by decide +kernel
theorem dX7_wholeValue_275 : decode cX7_wholeValue 275 = .ok (.ireturn, 1) := by decide +kernel
theorem dX7_whole_0 : decode cX7_whole 0 = .ok (.aload_n 0, 1) := by decide +kernel
theorem dX7_whole_1 : decode cX7_whole 1 = .ok (.iload_n 1, 1) := by decide +kernel
theorem dX7_whole_2 : decode cX7_whole 2 = .ok (.iconst 0, 1) := by decide +kernel
theorem dX7_whole_3 : decode cX7_whole 3 = .ok (.bipush 11, 2) := by decide +kernel
theorem dX7_whole_5 : decode cX7_whole 5 = .ok (.invokestatic 91, 3) := by decide +kernel
theorem dX7_whole_8 : decode cX7_whole 8 = .ok (.ifCond .eq 7, 3) := by decide +kernel
theorem dX7_whole_11 : decode cX7_whole 11 = .ok (.iconst 0, 1) := by decide +kernel
theorem dX7_whole_12 : decode cX7_whole 12 = .ok (.goto 4, 3) := by decide +kernel
theorem dX7_whole_15 : decode cX7_whole 15 = .ok (.iconst 1, 1) := by decide +kernel
theorem dX7_whole_16 : decode cX7_whole 16 = .ok (.invokevirtual 60, 3) := by decide +kernel
theorem dX7_whole_19 : decode cX7_whole 19 = .ok (.ifCond .eq 5, 3) := by decide +kernel
theorem dX7_whole_22 : decode cX7_whole 22 = .ok (.iconst 0, 1) := by decide +kernel
theorem dX7_whole_23 : decode cX7_whole 23 = .ok (.ireturn, 1) := by decide +kernel
theorem dX7_whole_24 : decode cX7_whole 24 = .ok (.aload_n 0, 1) := by decide +kernel
theorem dX7_whole_25 : decode cX7_whole 25 = .ok (.invokevirtual 84, 3) := by decide +kernel
theorem dX7_whole_28 : decode cX7_whole 28 = .ok (.aload_n 0, 1) := by decide +kernel
theorem dX7_whole_29 : decode cX7_whole 29 = .ok (.iload_n 1, 1) := by decide +kernel
theorem dX7_whole_30 : decode cX7_whole 30 = .ok (.invokevirtual 186, 3) := by decide +kernel
theorem dX7_whole_33 : decode cX7_whole 33 = .ok (.ireturn, 1) := by decide +kernel
theorem dX7_putAside_0 : decode cX7_putAside 0 = .ok (.aload_n 0, 1) := by decide +kernel
theorem dX7_putAside_1 : decode cX7_putAside 1 = .ok (.iconst 0, 1) := by decide +kernel
theorem dX7_putAside_2 : decode cX7_putAside 2 = .ok (.sipush 855, 3) := by decide +kernel
theorem dX7_putAside_5 : decode cX7_putAside 5 = .ok (.invokevirtual 45, 3) := by decide +kernel
theorem dX7_putAside_8 : decode cX7_putAside 8 = .ok (.return_, 1) := by decide +kernel
theorem dX7_comesBack_0 : decode cX7_comesBack 0 = .ok (.aload_n 0, 1) := by decide +kernel
theorem dX7_comesBack_1 : decode cX7_comesBack 1 = .ok (.sipush 855, 3) := by decide +kernel
theorem dX7_comesBack_4 : decode cX7_comesBack 4 = .ok (.iconst 0, 1) := by decide +kernel
theorem dX7_comesBack_5 : decode cX7_comesBack 5 = .ok (.invokevirtual 45, 3) := by decide +kernel
theorem dX7_comesBack_8 : decode cX7_comesBack 8 = .ok (.return_, 1) := by decide +kernel
theorem dX7_endBy_0 : decode cX7_endBy 0 = .ok (.aload_n 0, 1) := by decide +kernel
theorem dX7_endBy_1 : decode cX7_endBy 1 = .ok (.invokevirtual 189, 3) := by decide +kernel
theorem dX7_endBy_4 : decode cX7_endBy 4 = .ok (.aload_n 0, 1) := by decide +kernel
theorem dX7_endBy_5 : decode cX7_endBy 5 = .ok (.iload_n 1, 1) := by decide +kernel
theorem dX7_endBy_6 : decode cX7_endBy 6 = .ok (.iload_n 2, 1) := by decide +kernel
theorem dX7_endBy_7 : decode cX7_endBy 7 = .ok (.invokevirtual 144, 3) := by decide +kernel
theorem dX7_endBy_10 : decode cX7_endBy 10 = .ok (.aload_n 0, 1) := by decide +kernel
theorem dX7_endBy_11 : decode cX7_endBy 11 = .ok (.invokevirtual 87, 3) := by decide +kernel
theorem dX7_endBy_14 : decode cX7_endBy 14 = .ok (.istore_n 3, 1) := by decide +kernel
theorem dX7_endBy_15 : decode cX7_endBy 15 = .ok (.aload_n 0, 1) := by decide +kernel
theorem dX7_endBy_16 : decode cX7_endBy 16 = .ok (.invokevirtual 192, 3) := by decide +kernel
theorem dX7_endBy_19 : decode cX7_endBy 19 = .ok (.iload_n 3, 1) := by decide +kernel
theorem dX7_endBy_20 : decode cX7_endBy 20 = .ok (.ireturn, 1) := by decide +kernel
theorem dX7_endWith_0 : decode cX7_endWith 0 = .ok (.aload_n 0, 1) := by decide +kernel
theorem dX7_endWith_1 : decode cX7_endWith 1 = .ok (.aload_n 0, 1) := by decide +kernel
theorem dX7_endWith_2 : decode cX7_endWith 2 = .ok (.iload_n 1, 1) := by decide +kernel
theorem dX7_endWith_3 : decode cX7_endWith 3 = .ok (.iload_n 2, 1) := by decide +kernel
theorem dX7_endWith_4 : decode cX7_endWith 4 = .ok (.iconst 0, 1) := by decide +kernel
theorem dX7_endWith_5 : decode cX7_endWith 5 = .ok (.bipush 60, 2) := by decide +kernel
theorem dX7_endWith_7 : decode cX7_endWith 7 = .ok (.invokestatic 91, 3) := by decide +kernel
theorem dX7_endWith_10 : decode cX7_endWith 10 = .ok (.invokevirtual 140, 3) := by decide +kernel
theorem dX7_endWith_13 : decode cX7_endWith 13 = .ok (.invokevirtual 60, 3) := by decide +kernel
theorem dX7_endWith_16 : decode cX7_endWith 16 = .ok (.ifCond .eq 5, 3) := by decide +kernel
theorem dX7_endWith_19 : decode cX7_endWith 19 = .ok (.iconst 0, 1) := by decide +kernel
theorem dX7_endWith_20 : decode cX7_endWith 20 = .ok (.ireturn, 1) := by decide +kernel
theorem dX7_endWith_21 : decode cX7_endWith 21 = .ok (.aload_n 0, 1) := by decide +kernel
theorem dX7_endWith_22 : decode cX7_endWith 22 = .ok (.iload_n 1, 1) := by decide +kernel
theorem dX7_endWith_23 : decode cX7_endWith 23 = .ok (.iload_n 2, 1) := by decide +kernel
theorem dX7_endWith_24 : decode cX7_endWith 24 = .ok (.invokevirtual 195, 3) := by decide +kernel
theorem dX7_endWith_27 : decode cX7_endWith 27 = .ok (.ireturn, 1) := by decide +kernel
theorem dX7_growsTo_0 : decode cX7_growsTo 0 = .ok (.aload_n 0, 1) := by decide +kernel
theorem dX7_growsTo_1 : decode cX7_growsTo 1 = .ok (.aload_n 0, 1) := by decide +kernel
theorem dX7_growsTo_2 : decode cX7_growsTo 2 = .ok (.iload_n 1, 1) := by decide +kernel
theorem dX7_growsTo_3 : decode cX7_growsTo 3 = .ok (.iconst 1, 1) := by decide +kernel
theorem dX7_growsTo_4 : decode cX7_growsTo 4 = .ok (.invokevirtual 140, 3) := by decide +kernel
theorem dX7_growsTo_7 : decode cX7_growsTo 7 = .ok (.invokevirtual 134, 3) := by decide +kernel
theorem dX7_growsTo_10 : decode cX7_growsTo 10 = .ok (.ifCond .eq 5, 3) := by decide +kernel
theorem dX7_growsTo_13 : decode cX7_growsTo 13 = .ok (.iconst 0, 1) := by decide +kernel
theorem dX7_growsTo_14 : decode cX7_growsTo 14 = .ok (.ireturn, 1) := by decide +kernel
theorem dX7_growsTo_15 : decode cX7_growsTo 15 = .ok (.aload_n 0, 1) := by decide +kernel
theorem dX7_growsTo_16 : decode cX7_growsTo 16 = .ok (.invokevirtual 87, 3) := by decide +kernel
theorem dX7_growsTo_19 : decode cX7_growsTo 19 = .ok (.istore_n 2, 1) := by decide +kernel
theorem dX7_growsTo_20 : decode cX7_growsTo 20 = .ok (.bipush 60, 2) := by decide +kernel
theorem dX7_growsTo_22 : decode cX7_growsTo 22 = .ok (.istore_n 3, 1) := by decide +kernel
theorem dX7_growsTo_23 : decode cX7_growsTo 23 = .ok (.aload_n 0, 1) := by decide +kernel
theorem dX7_growsTo_24 : decode cX7_growsTo 24 = .ok (.iload_n 1, 1) := by decide +kernel
theorem dX7_growsTo_25 : decode cX7_growsTo 25 = .ok (.iload_n 3, 1) := by decide +kernel
theorem dX7_growsTo_26 : decode cX7_growsTo 26 = .ok (.invokevirtual 195, 3) := by decide +kernel
theorem dX7_growsTo_29 : decode cX7_growsTo 29 = .ok (.iload_n 2, 1) := by decide +kernel
theorem dX7_growsTo_30 : decode cX7_growsTo 30 = .ok (.if_icmp .le 9, 3) := by decide +kernel
theorem dX7_growsTo_33 : decode cX7_growsTo 33 = .ok (.iinc 3 (-1), 3) := by decide +kernel
theorem dX7_growsTo_36 : decode cX7_growsTo 36 = .ok (.goto (-13), 3) := by decide +kernel
theorem dX7_growsTo_39 : decode cX7_growsTo 39 = .ok (.iload_n 3, 1) := by decide +kernel
theorem dX7_growsTo_40 : decode cX7_growsTo 40 = .ok (.ireturn, 1) := by decide +kernel
theorem dX7_cutTask_0 : decode cX7_cutTask 0 = .ok (.aload_n 0, 1) := by decide +kernel
theorem dX7_cutTask_1 : decode cX7_cutTask 1 = .ok (.invokevirtual 87, 3) := by decide +kernel
theorem dX7_cutTask_4 : decode cX7_cutTask 4 = .ok (.istore_n 1, 1) := by decide +kernel
theorem dX7_cutTask_5 : decode cX7_cutTask 5 = .ok (.iconst 0, 1) := by decide +kernel
theorem dX7_cutTask_6 : decode cX7_cutTask 6 = .ok (.istore_n 2, 1) := by decide +kernel
theorem dX7_cutTask_7 : decode cX7_cutTask 7 = .ok (.iload_n 2, 1) := by decide +kernel
theorem dX7_cutTask_8 : decode cX7_cutTask 8 = .ok (.aload_n 0, 1) := by decide +kernel
theorem dX7_cutTask_9 : decode cX7_cutTask 9 = .ok (.getfield 7, 3) := by decide +kernel
theorem dX7_cutTask_12 : decode cX7_cutTask 12 = .ok (.iconst 0, 1) := by decide +kernel
theorem dX7_cutTask_13 : decode cX7_cutTask 13 = .ok (.iaload, 1) := by decide +kernel
theorem dX7_cutTask_14 : decode cX7_cutTask 14 = .ok (.if_icmp .ge 54, 3) := by decide +kernel
theorem dX7_cutTask_17 : decode cX7_cutTask 17 = .ok (.aload_n 0, 1) := by decide +kernel
theorem dX7_cutTask_18 : decode cX7_cutTask 18 = .ok (.iload_n 2, 1) := by decide +kernel
theorem dX7_cutTask_19 : decode cX7_cutTask 19 = .ok (.iconst 5, 1) := by decide +kernel
theorem dX7_cutTask_20 : decode cX7_cutTask 20 = .ok (.invokevirtual 49, 3) := by decide +kernel
theorem dX7_cutTask_23 : decode cX7_cutTask 23 = .ok (.istore_n 3, 1) := by decide +kernel
theorem dX7_cutTask_24 : decode cX7_cutTask 24 = .ok (.aload_n 0, 1) := by decide +kernel
theorem dX7_cutTask_25 : decode cX7_cutTask 25 = .ok (.iload_n 2, 1) := by decide +kernel
theorem dX7_cutTask_26 : decode cX7_cutTask 26 = .ok (.iconst 1, 1) := by decide +kernel
theorem dX7_cutTask_27 : decode cX7_cutTask 27 = .ok (.invokevirtual 49, 3) := by decide +kernel
theorem dX7_cutTask_30 : decode cX7_cutTask 30 = .ok (.iconst 1, 1) := by decide +kernel
theorem dX7_cutTask_31 : decode cX7_cutTask 31 = .ok (.if_icmp .ne 31, 3) := by decide +kernel
theorem dX7_cutTask_34 : decode cX7_cutTask 34 = .ok (.iload_n 3, 1) := by decide +kernel
theorem dX7_cutTask_35 : decode cX7_cutTask 35 = .ok (.ifCond .le 27, 3) := by decide +kernel
theorem dX7_cutTask_38 : decode cX7_cutTask 38 = .ok (.aload_n 0, 1) := by decide +kernel
theorem dX7_cutTask_39 : decode cX7_cutTask 39 = .ok (.aload_n 0, 1) := by decide +kernel
theorem dX7_cutTask_40 : decode cX7_cutTask 40 = .ok (.iload_n 2, 1) := by decide +kernel
theorem dX7_cutTask_41 : decode cX7_cutTask 41 = .ok (.iconst 0, 1) := by decide +kernel
theorem dX7_cutTask_42 : decode cX7_cutTask 42 = .ok (.invokevirtual 49, 3) := by decide +kernel
theorem dX7_cutTask_45 : decode cX7_cutTask 45 = .ok (.iload_n 3, 1) := by decide +kernel
theorem dX7_cutTask_46 : decode cX7_cutTask 46 = .ok (.iconst 1, 1) := by decide +kernel
theorem dX7_cutTask_47 : decode cX7_cutTask 47 = .ok (.isub, 1) := by decide +kernel
theorem dX7_cutTask_48 : decode cX7_cutTask 48 = .ok (.invokevirtual 195, 3) := by decide +kernel
theorem dX7_cutTask_51 : decode cX7_cutTask 51 = .ok (.iload_n 1, 1) := by decide +kernel
theorem dX7_cutTask_52 : decode cX7_cutTask 52 = .ok (.if_icmp .ge 10, 3) := by decide +kernel
theorem dX7_cutTask_55 : decode cX7_cutTask 55 = .ok (.aload_n 0, 1) := by decide +kernel
theorem dX7_cutTask_56 : decode cX7_cutTask 56 = .ok (.iload_n 2, 1) := by decide +kernel
theorem dX7_cutTask_57 : decode cX7_cutTask 57 = .ok (.iconst 0, 1) := by decide +kernel
theorem dX7_cutTask_58 : decode cX7_cutTask 58 = .ok (.invokevirtual 49, 3) := by decide +kernel
theorem dX7_cutTask_61 : decode cX7_cutTask 61 = .ok (.ireturn, 1) := by decide +kernel
theorem dX7_cutTask_62 : decode cX7_cutTask 62 = .ok (.iinc 2 1, 3) := by decide +kernel
theorem dX7_cutTask_65 : decode cX7_cutTask 65 = .ok (.goto (-58), 3) := by decide +kernel
theorem dX7_cutTask_68 : decode cX7_cutTask 68 = .ok (.iconst (-1), 1) := by decide +kernel
theorem dX7_cutTask_69 : decode cX7_cutTask 69 = .ok (.ireturn, 1) := by decide +kernel
theorem dX7_bestCut_0 : decode cX7_bestCut 0 = .ok (.aload_n 0, 1) := by decide +kernel
theorem dX7_bestCut_1 : decode cX7_bestCut 1 = .ok (.iconst 0, 1) := by decide +kernel
theorem dX7_bestCut_2 : decode cX7_bestCut 2 = .ok (.putfield 57, 3) := by decide +kernel
theorem dX7_bestCut_5 : decode cX7_bestCut 5 = .ok (.aload_n 0, 1) := by decide +kernel
theorem dX7_bestCut_6 : decode cX7_bestCut 6 = .ok (.invokevirtual 198, 3) := by decide +kernel
theorem dX7_bestCut_9 : decode cX7_bestCut 9 = .ok (.ireturn, 1) := by decide +kernel
theorem dX7_slackIf_0 : decode cX7_slackIf 0 = .ok (.aload_n 0, 1) := by decide +kernel
theorem dX7_slackIf_1 : decode cX7_slackIf 1 = .ok (.aload_n 0, 1) := by decide +kernel
theorem dX7_slackIf_2 : decode cX7_slackIf 2 = .ok (.iload_n 1, 1) := by decide +kernel
theorem dX7_slackIf_3 : decode cX7_slackIf 3 = .ok (.invokevirtual 53, 3) := by decide +kernel
theorem dX7_slackIf_6 : decode cX7_slackIf 6 = .ok (.iconst (-1), 1) := by decide +kernel
theorem dX7_slackIf_7 : decode cX7_slackIf 7 = .ok (.if_icmp .ne 7, 3) := by decide +kernel
theorem dX7_slackIf_10 : decode cX7_slackIf 10 = .ok (.iconst 1, 1) := by decide +kernel
theorem dX7_slackIf_11 : decode cX7_slackIf 11 = .ok (.goto 9, 3) := by decide +kernel
theorem dX7_slackIf_14 : decode cX7_slackIf 14 = .ok (.aload_n 0, 1) := by decide +kernel
theorem dX7_slackIf_15 : decode cX7_slackIf 15 = .ok (.iload_n 2, 1) := by decide +kernel
theorem dX7_slackIf_16 : decode cX7_slackIf 16 = .ok (.iconst 1, 1) := by decide +kernel
theorem dX7_slackIf_17 : decode cX7_slackIf 17 = .ok (.invokevirtual 140, 3) := by decide +kernel
theorem dX7_slackIf_20 : decode cX7_slackIf 20 = .ok (.invokevirtual 134, 3) := by decide +kernel
theorem dX7_slackIf_23 : decode cX7_slackIf 23 = .ok (.ifCond .eq 5, 3) := by decide +kernel
theorem dX7_slackIf_26 : decode cX7_slackIf 26 = .ok (.iconst 0, 1) := by decide +kernel
theorem dX7_slackIf_27 : decode cX7_slackIf 27 = .ok (.ireturn, 1) := by decide +kernel
theorem dX7_slackIf_28 : decode cX7_slackIf 28 = .ok (.aload_n 0, 1) := by decide +kernel
theorem dX7_slackIf_29 : decode cX7_slackIf 29 = .ok (.iload_n 2, 1) := by decide +kernel
theorem dX7_slackIf_30 : decode cX7_slackIf 30 = .ok (.invokevirtual 147, 3) := by decide +kernel
theorem dX7_slackIf_33 : decode cX7_slackIf 33 = .ok (.istore_n 3, 1) := by decide +kernel
theorem dX7_slackIf_34 : decode cX7_slackIf 34 = .ok (.aload_n 0, 1) := by decide +kernel
theorem dX7_slackIf_35 : decode cX7_slackIf 35 = .ok (.invokevirtual 189, 3) := by decide +kernel
theorem dX7_slackIf_38 : decode cX7_slackIf 38 = .ok (.aload_n 0, 1) := by decide +kernel
theorem dX7_slackIf_39 : decode cX7_slackIf 39 = .ok (.iload_n 2, 1) := by decide +kernel
theorem dX7_slackIf_40 : decode cX7_slackIf 40 = .ok (.iload_n 3, 1) := by decide +kernel
theorem dX7_slackIf_41 : decode cX7_slackIf 41 = .ok (.invokevirtual 153, 3) := by decide +kernel
theorem dX7_slackIf_44 : decode cX7_slackIf 44 = .ok (.pop, 1) := by decide +kernel
theorem dX7_slackIf_45 : decode cX7_slackIf 45 = .ok (.aload_n 0, 1) := by decide +kernel
theorem dX7_slackIf_46 : decode cX7_slackIf 46 = .ok (.iload_n 1, 1) := by decide +kernel
theorem dX7_slackIf_47 : decode cX7_slackIf 47 = .ok (.invokevirtual 147, 3) := by decide +kernel
theorem dX7_slackIf_50 : decode cX7_slackIf 50 = .ok (.istore 4, 2) := by decide +kernel
theorem dX7_slackIf_52 : decode cX7_slackIf 52 = .ok (.aload_n 0, 1) := by decide +kernel
theorem dX7_slackIf_53 : decode cX7_slackIf 53 = .ok (.invokevirtual 192, 3) := by decide +kernel
theorem dX7_slackIf_56 : decode cX7_slackIf 56 = .ok (.iload 4, 2) := by decide +kernel
theorem dX7_slackIf_58 : decode cX7_slackIf 58 = .ok (.ireturn, 1) := by decide +kernel
theorem dX7_reason_0 : decode cX7_reason 0 = .ok (.aload_n 0, 1) := by decide +kernel
theorem dX7_reason_1 : decode cX7_reason 1 = .ok (.aload_n 0, 1) := by decide +kernel
theorem dX7_reason_2 : decode cX7_reason 2 = .ok (.iload_n 1, 1) := by decide +kernel
theorem dX7_reason_3 : decode cX7_reason 3 = .ok (.invokevirtual 53, 3) := by decide +kernel
theorem dX7_reason_6 : decode cX7_reason 6 = .ok (.iconst (-1), 1) := by decide +kernel
theorem dX7_reason_7 : decode cX7_reason 7 = .ok (.if_icmp .eq 12, 3) := by decide +kernel
theorem dX7_reason_10 : decode cX7_reason 10 = .ok (.aload_n 0, 1) := by decide +kernel
theorem dX7_reason_11 : decode cX7_reason 11 = .ok (.iload_n 2, 1) := by decide +kernel
theorem dX7_reason_12 : decode cX7_reason 12 = .ok (.invokevirtual 53, 3) := by decide +kernel
theorem dX7_reason_15 : decode cX7_reason 15 = .ok (.iconst (-1), 1) := by decide +kernel
theorem dX7_reason_16 : decode cX7_reason 16 = .ok (.if_icmp .ne 7, 3) := by decide +kernel
theorem dX7_reason_19 : decode cX7_reason 19 = .ok (.iconst 1, 1) := by decide +kernel
theorem dX7_reason_20 : decode cX7_reason 20 = .ok (.goto 4, 3) := by decide +kernel
theorem dX7_reason_23 : decode cX7_reason 23 = .ok (.iconst 0, 1) := by decide +kernel
theorem dX7_reason_24 : decode cX7_reason 24 = .ok (.invokevirtual 60, 3) := by decide +kernel
theorem dX7_reason_27 : decode cX7_reason 27 = .ok (.ifCond .eq 5, 3) := by decide +kernel
theorem dX7_reason_30 : decode cX7_reason 30 = .ok (.iconst 0, 1) := by decide +kernel
theorem dX7_reason_31 : decode cX7_reason 31 = .ok (.ireturn, 1) := by decide +kernel
theorem dX7_reason_32 : decode cX7_reason 32 = .ok (.aload_n 0, 1) := by decide +kernel
theorem dX7_reason_33 : decode cX7_reason 33 = .ok (.iload_n 1, 1) := by decide +kernel
theorem dX7_reason_34 : decode cX7_reason 34 = .ok (.iload_n 2, 1) := by decide +kernel
theorem dX7_reason_35 : decode cX7_reason 35 = .ok (.invokevirtual 119, 3) := by decide +kernel
theorem dX7_reason_38 : decode cX7_reason 38 = .ok (.ireturn, 1) := by decide +kernel
theorem dX7_type_0 : decode cX7_type 0 = .ok (.aload_n 0, 1) := by decide +kernel
theorem dX7_type_1 : decode cX7_type 1 = .ok (.iload_n 1, 1) := by decide +kernel
theorem dX7_type_2 : decode cX7_type 2 = .ok (.iconst 0, 1) := by decide +kernel
theorem dX7_type_3 : decode cX7_type 3 = .ok (.bipush 127, 2) := by decide +kernel
theorem dX7_type_5 : decode cX7_type 5 = .ok (.invokestatic 91, 3) := by decide +kernel
theorem dX7_type_8 : decode cX7_type 8 = .ok (.ifCond .ne 7, 3) := by decide +kernel
theorem dX7_type_11 : decode cX7_type 11 = .ok (.iconst 1, 1) := by decide +kernel
theorem dX7_type_12 : decode cX7_type 12 = .ok (.goto 18, 3) := by decide +kernel
theorem dX7_type_15 : decode cX7_type 15 = .ok (.aload_n 0, 1) := by decide +kernel
theorem dX7_type_16 : decode cX7_type 16 = .ok (.getfield 183, 3) := by decide +kernel
theorem dX7_type_19 : decode cX7_type 19 = .ok (.sipush 150, 3) := by decide +kernel
theorem dX7_type_22 : decode cX7_type 22 = .ok (.if_icmp .ne 7, 3) := by decide +kernel
theorem dX7_type_25 : decode cX7_type 25 = .ok (.iconst 2, 1) := by decide +kernel
theorem dX7_type_26 : decode cX7_type 26 = .ok (.goto 4, 3) := by decide +kernel
theorem dX7_type_29 : decode cX7_type 29 = .ok (.iconst 0, 1) := by decide +kernel
theorem dX7_type_30 : decode cX7_type 30 = .ok (.invokevirtual 60, 3) := by decide +kernel
theorem dX7_type_33 : decode cX7_type 33 = .ok (.ifCond .eq 5, 3) := by decide +kernel
theorem dX7_type_36 : decode cX7_type 36 = .ok (.iconst 0, 1) := by decide +kernel
theorem dX7_type_37 : decode cX7_type 37 = .ok (.ireturn, 1) := by decide +kernel
theorem dX7_type_38 : decode cX7_type 38 = .ok (.aload_n 0, 1) := by decide +kernel
theorem dX7_type_39 : decode cX7_type 39 = .ok (.getfield 13, 3) := by decide +kernel
theorem dX7_type_42 : decode cX7_type 42 = .ok (.aload_n 0, 1) := by decide +kernel
theorem dX7_type_43 : decode cX7_type 43 = .ok (.getfield 183, 3) := by decide +kernel
theorem dX7_type_46 : decode cX7_type 46 = .ok (.iload_n 1, 1) := by decide +kernel
theorem dX7_type_47 : decode cX7_type 47 = .ok (.iastore, 1) := by decide +kernel
theorem dX7_type_48 : decode cX7_type 48 = .ok (.aload_n 0, 1) := by decide +kernel
theorem dX7_type_49 : decode cX7_type 49 = .ok (.dup, 1) := by decide +kernel
theorem dX7_type_50 : decode cX7_type 50 = .ok (.getfield 183, 3) := by decide +kernel
theorem dX7_type_53 : decode cX7_type 53 = .ok (.iconst 1, 1) := by decide +kernel
theorem dX7_type_54 : decode cX7_type 54 = .ok (.iadd, 1) := by decide +kernel
theorem dX7_type_55 : decode cX7_type 55 = .ok (.putfield 183, 3) := by decide +kernel
theorem dX7_type_58 : decode cX7_type 58 = .ok (.aload_n 0, 1) := by decide +kernel
theorem dX7_type_59 : decode cX7_type 59 = .ok (.getfield 183, 3) := by decide +kernel
theorem dX7_type_62 : decode cX7_type 62 = .ok (.ireturn, 1) := by decide +kernel
theorem dX7_clearCommands_0 : decode cX7_clearCommands 0 = .ok (.aload_n 0, 1) := by decide +kernel
theorem dX7_clearCommands_1 : decode cX7_clearCommands 1 = .ok (.iconst 0, 1) := by decide +kernel
theorem dX7_clearCommands_2 : decode cX7_clearCommands 2 = .ok (.putfield 57, 3) := by decide +kernel
theorem dX7_clearCommands_5 : decode cX7_clearCommands 5 = .ok (.aload_n 0, 1) := by decide +kernel
theorem dX7_clearCommands_6 : decode cX7_clearCommands 6 = .ok (.getfield 183, 3) := by decide +kernel
theorem dX7_clearCommands_9 : decode cX7_clearCommands 9 = .ok (.istore_n 1, 1) := by decide +kernel
theorem dX7_clearCommands_10 : decode cX7_clearCommands 10 = .ok (.aload_n 0, 1) := by decide +kernel
theorem dX7_clearCommands_11 : decode cX7_clearCommands 11 = .ok (.iconst 0, 1) := by decide +kernel
theorem dX7_clearCommands_12 : decode cX7_clearCommands 12 = .ok (.putfield 183, 3) := by decide +kernel
theorem dX7_clearCommands_15 : decode cX7_clearCommands 15 = .ok (.iload_n 1, 1) := by decide +kernel
theorem dX7_clearCommands_16 : decode cX7_clearCommands 16 = .ok (.ireturn, 1) := by decide +kernel
theorem dX7_here_0 : decode cX7_here 0 = .ok (.aload_n 0, 1) := by decide +kernel
theorem dX7_here_1 : decode cX7_here 1 = .ok (.getfield 201, 3) := by decide +kernel
theorem dX7_here_4 : decode cX7_here 4 = .ok (.aload_n 0, 1) := by decide +kernel
theorem dX7_here_5 : decode cX7_here 5 = .ok (.getfield 183, 3) := by decide +kernel
theorem dX7_here_8 : decode cX7_here 8 = .ok (.if_icmp .ge 15, 3) := by decide +kernel
theorem dX7_here_11 : decode cX7_here 11 = .ok (.aload_n 0, 1) := by decide +kernel
theorem dX7_here_12 : decode cX7_here 12 = .ok (.getfield 13, 3) := by decide +kernel
theorem dX7_here_15 : decode cX7_here 15 = .ok (.aload_n 0, 1) := by decide +kernel
theorem dX7_here_16 : decode cX7_here 16 = .ok (.getfield 201, 3) := by decide +kernel
theorem dX7_here_19 : decode cX7_here 19 = .ok (.iaload, 1) := by decide +kernel
theorem dX7_here_20 : decode cX7_here 20 = .ok (.goto 4, 3) := by decide +kernel
theorem dX7_here_23 : decode cX7_here 23 = .ok (.iconst (-1), 1) := by decide +kernel
theorem dX7_here_24 : decode cX7_here 24 = .ok (.ireturn, 1) := by decide +kernel
theorem dX7_passSpaces_0 : decode cX7_passSpaces 0 = .ok (.aload_n 0, 1) := by decide +kernel
theorem dX7_passSpaces_1 : decode cX7_passSpaces 1 = .ok (.invokevirtual 204, 3) := by decide +kernel
theorem dX7_passSpaces_4 : decode cX7_passSpaces 4 = .ok (.bipush 32, 2) := by decide +kernel
theorem dX7_passSpaces_6 : decode cX7_passSpaces 6 = .ok (.if_icmp .ne 16, 3) := by decide +kernel
theorem dX7_passSpaces_9 : decode cX7_passSpaces 9 = .ok (.aload_n 0, 1) := by decide +kernel
theorem dX7_passSpaces_10 : decode cX7_passSpaces 10 = .ok (.dup, 1) := by decide +kernel
theorem dX7_passSpaces_11 : decode cX7_passSpaces 11 = .ok (.getfield 201, 3) := by decide +kernel
theorem dX7_passSpaces_14 : decode cX7_passSpaces 14 = .ok (.iconst 1, 1) := by decide +kernel
theorem dX7_passSpaces_15 : decode cX7_passSpaces 15 = .ok (.iadd, 1) := by decide +kernel
theorem dX7_passSpaces_16 : decode cX7_passSpaces 16 = .ok (.putfield 201, 3) := by decide +kernel
theorem dX7_passSpaces_19 : decode cX7_passSpaces 19 = .ok (.goto (-19), 3) := by decide +kernel
theorem dX7_passSpaces_22 : decode cX7_passSpaces 22 = .ok (.return_, 1) := by decide +kernel
theorem dX7_word_0 : decode cX7_word 0 = .ok (.lconst 0, 1) := by decide +kernel
theorem dX7_word_1 : decode cX7_word 1 = .ok (.lstore_n 1, 1) := by decide +kernel
theorem dX7_word_2 : decode cX7_word 2 = .ok (.aload_n 0, 1) := by decide +kernel
theorem dX7_word_3 : decode cX7_word 3 = .ok (.getfield 201, 3) := by decide +kernel
theorem dX7_word_6 : decode cX7_word 6 = .ok (.istore_n 3, 1) := by decide +kernel
theorem dX7_word_7 : decode cX7_word 7 = .ok (.aload_n 0, 1) := by decide +kernel
theorem dX7_word_8 : decode cX7_word 8 = .ok (.invokevirtual 204, 3) := by decide +kernel
theorem dX7_word_11 : decode cX7_word 11 = .ok (.bipush 97, 2) := by decide +kernel
theorem dX7_word_13 : decode cX7_word 13 = .ok (.bipush 122, 2) := by decide +kernel
theorem dX7_word_15 : decode cX7_word 15 = .ok (.invokestatic 91, 3) := by decide +kernel
theorem dX7_word_18 : decode cX7_word 18 = .ok (.ifCond .eq 49, 3) := by decide +kernel
theorem dX7_word_21 : decode cX7_word 21 = .ok (.aload_n 0, 1) := by decide +kernel
theorem dX7_word_22 : decode cX7_word 22 = .ok (.getfield 201, 3) := by decide +kernel
theorem dX7_word_25 : decode cX7_word 25 = .ok (.iload_n 3, 1) := by decide +kernel
theorem dX7_word_26 : decode cX7_word 26 = .ok (.isub, 1) := by decide +kernel
theorem dX7_word_27 : decode cX7_word 27 = .ok (.bipush 7, 2) := by decide +kernel
theorem dX7_word_29 : decode cX7_word 29 = .ok (.if_icmp .ge 21, 3) := by decide +kernel
theorem dX7_word_32 : decode cX7_word 32 = .ok (.ldc2_w 207, 3) := by decide +kernel
theorem dX7_word_35 : decode cX7_word 35 = .ok (.lload_n 1, 1) := by decide +kernel
theorem dX7_word_36 : decode cX7_word 36 = .ok (.lmul, 1) := by decide +kernel
theorem dX7_word_37 : decode cX7_word 37 = .ok (.aload_n 0, 1) := by decide +kernel
theorem dX7_word_38 : decode cX7_word 38 = .ok (.invokevirtual 204, 3) := by decide +kernel
theorem dX7_word_41 : decode cX7_word 41 = .ok (.i2l, 1) := by decide +kernel
theorem dX7_word_42 : decode cX7_word 42 = .ok (.ladd, 1) := by decide +kernel
theorem dX7_word_43 : decode cX7_word 43 = .ok (.ldc2_w 209, 3) := by decide +kernel
theorem dX7_word_46 : decode cX7_word 46 = .ok (.lsub, 1) := by decide +kernel
theorem dX7_word_47 : decode cX7_word 47 = .ok (.goto 6, 3) := by decide +kernel
theorem dX7_word_50 : decode cX7_word 50 = .ok (.ldc2_w 211, 3) := by decide +kernel
theorem dX7_word_53 : decode cX7_word 53 = .ok (.lstore_n 1, 1) := by decide +kernel
theorem dX7_word_54 : decode cX7_word 54 = .ok (.aload_n 0, 1) := by decide +kernel
theorem dX7_word_55 : decode cX7_word 55 = .ok (.dup, 1) := by decide +kernel
theorem dX7_word_56 : decode cX7_word 56 = .ok (.getfield 201, 3) := by decide +kernel
theorem dX7_word_59 : decode cX7_word 59 = .ok (.iconst 1, 1) := by decide +kernel
theorem dX7_word_60 : decode cX7_word 60 = .ok (.iadd, 1) := by decide +kernel
theorem dX7_word_61 : decode cX7_word 61 = .ok (.putfield 201, 3) := by decide +kernel
theorem dX7_word_64 : decode cX7_word 64 = .ok (.goto (-57), 3) := by decide +kernel
theorem dX7_word_67 : decode cX7_word 67 = .ok (.lload_n 1, 1) := by decide +kernel
theorem dX7_word_68 : decode cX7_word 68 = .ok (.ldc2_w 213, 3) := by decide +kernel
theorem dX7_word_71 : decode cX7_word 71 = .ok (.lcmp, 1) := by decide +kernel
theorem dX7_word_72 : decode cX7_word 72 = .ok (.ifCond .ne 7, 3) := by decide +kernel
theorem dX7_word_75 : decode cX7_word 75 = .ok (.iconst 1, 1) := by decide +kernel
theorem dX7_word_76 : decode cX7_word 76 = .ok (.goto 91, 3) := by decide +kernel
theorem dX7_word_79 : decode cX7_word 79 = .ok (.lload_n 1, 1) := by decide +kernel
theorem dX7_word_80 : decode cX7_word 80 = .ok (.ldc2_w 215, 3) := by decide +kernel
theorem dX7_word_83 : decode cX7_word 83 = .ok (.lcmp, 1) := by decide +kernel
theorem dX7_word_84 : decode cX7_word 84 = .ok (.ifCond .ne 7, 3) := by decide +kernel
theorem dX7_word_87 : decode cX7_word 87 = .ok (.iconst 2, 1) := by decide +kernel
theorem dX7_word_88 : decode cX7_word 88 = .ok (.goto 79, 3) := by decide +kernel
theorem dX7_word_91 : decode cX7_word 91 = .ok (.lload_n 1, 1) := by decide +kernel
theorem dX7_word_92 : decode cX7_word 92 = .ok (.ldc2_w 217, 3) := by decide +kernel
theorem dX7_word_95 : decode cX7_word 95 = .ok (.lcmp, 1) := by decide +kernel
theorem dX7_word_96 : decode cX7_word 96 = .ok (.ifCond .ne 7, 3) := by decide +kernel
theorem dX7_word_99 : decode cX7_word 99 = .ok (.iconst 3, 1) := by decide +kernel
theorem dX7_word_100 : decode cX7_word 100 = .ok (.goto 67, 3) := by decide +kernel
theorem dX7_word_103 : decode cX7_word 103 = .ok (.lload_n 1, 1) := by decide +kernel
theorem dX7_word_104 : decode cX7_word 104 = .ok (.ldc2_w 219, 3) := by decide +kernel
theorem dX7_word_107 : decode cX7_word 107 = .ok (.lcmp, 1) := by decide +kernel
theorem dX7_word_108 : decode cX7_word 108 = .ok (.ifCond .ne 7, 3) := by decide +kernel
theorem dX7_word_111 : decode cX7_word 111 = .ok (.iconst 4, 1) := by decide +kernel
theorem dX7_word_112 : decode cX7_word 112 = .ok (.goto 55, 3) := by decide +kernel
theorem dX7_word_115 : decode cX7_word 115 = .ok (.lload_n 1, 1) := by decide +kernel
theorem dX7_word_116 : decode cX7_word 116 = .ok (.ldc2_w 221, 3) := by decide +kernel
theorem dX7_word_119 : decode cX7_word 119 = .ok (.lcmp, 1) := by decide +kernel
theorem dX7_word_120 : decode cX7_word 120 = .ok (.ifCond .ne 7, 3) := by decide +kernel
theorem dX7_word_123 : decode cX7_word 123 = .ok (.iconst 5, 1) := by decide +kernel
theorem dX7_word_124 : decode cX7_word 124 = .ok (.goto 43, 3) := by decide +kernel
theorem dX7_word_127 : decode cX7_word 127 = .ok (.lload_n 1, 1) := by decide +kernel
theorem dX7_word_128 : decode cX7_word 128 = .ok (.ldc2_w 223, 3) := by decide +kernel
theorem dX7_word_131 : decode cX7_word 131 = .ok (.lcmp, 1) := by decide +kernel
theorem dX7_word_132 : decode cX7_word 132 = .ok (.ifCond .ne 8, 3) := by decide +kernel
theorem dX7_word_135 : decode cX7_word 135 = .ok (.bipush 6, 2) := by decide +kernel
theorem dX7_word_137 : decode cX7_word 137 = .ok (.goto 30, 3) := by decide +kernel
theorem dX7_word_140 : decode cX7_word 140 = .ok (.lload_n 1, 1) := by decide +kernel
theorem dX7_word_141 : decode cX7_word 141 = .ok (.ldc2_w 225, 3) := by decide +kernel
theorem dX7_word_144 : decode cX7_word 144 = .ok (.lcmp, 1) := by decide +kernel
theorem dX7_word_145 : decode cX7_word 145 = .ok (.ifCond .ne 8, 3) := by decide +kernel
theorem dX7_word_148 : decode cX7_word 148 = .ok (.bipush 7, 2) := by decide +kernel
theorem dX7_word_150 : decode cX7_word 150 = .ok (.goto 17, 3) := by decide +kernel
theorem dX7_word_153 : decode cX7_word 153 = .ok (.lload_n 1, 1) := by decide +kernel
theorem dX7_word_154 : decode cX7_word 154 = .ok (.ldc2_w 227, 3) := by decide +kernel
theorem dX7_word_157 : decode cX7_word 157 = .ok (.lcmp, 1) := by decide +kernel
theorem dX7_word_158 : decode cX7_word 158 = .ok (.ifCond .ne 8, 3) := by decide +kernel
theorem dX7_word_161 : decode cX7_word 161 = .ok (.bipush 8, 2) := by decide +kernel
theorem dX7_word_163 : decode cX7_word 163 = .ok (.goto 4, 3) := by decide +kernel
theorem dX7_word_166 : decode cX7_word 166 = .ok (.iconst 0, 1) := by decide +kernel
theorem dX7_word_167 : decode cX7_word 167 = .ok (.istore 4, 2) := by decide +kernel
theorem dX7_word_169 : decode cX7_word 169 = .ok (.aload_n 0, 1) := by decide +kernel
theorem dX7_word_170 : decode cX7_word 170 = .ok (.iload 4, 2) := by decide +kernel
theorem dX7_word_172 : decode cX7_word 172 = .ok (.ifCond .ne 7, 3) := by decide +kernel
theorem dX7_word_175 : decode cX7_word 175 = .ok (.iload_n 3, 1) := by decide +kernel
theorem dX7_word_176 : decode cX7_word 176 = .ok (.goto 7, 3) := by decide +kernel
theorem dX7_word_179 : decode cX7_word 179 = .ok (.aload_n 0, 1) := by decide +kernel
theorem dX7_word_180 : decode cX7_word 180 = .ok (.getfield 201, 3) := by decide +kernel
theorem dX7_word_183 : decode cX7_word 183 = .ok (.putfield 201, 3) := by decide +kernel
theorem dX7_word_186 : decode cX7_word 186 = .ok (.iload 4, 2) := by decide +kernel
theorem dX7_word_188 : decode cX7_word 188 = .ok (.ireturn, 1) := by decide +kernel
theorem dX7_numbersOf_0 : decode cX7_numbersOf 0 = .ok (.iload_n 0, 1) := by decide +kernel
theorem dX7_numbersOf_1 : decode cX7_numbersOf 1 = .ok (.iconst 2, 1) := by decide +kernel
theorem dX7_numbersOf_2 : decode cX7_numbersOf 2 = .ok (.if_icmp .eq 9, 3) := by decide +kernel
theorem dX7_numbersOf_5 : decode cX7_numbersOf 5 = .ok (.iload_n 0, 1) := by decide +kernel
theorem dX7_numbersOf_6 : decode cX7_numbersOf 6 = .ok (.bipush 6, 2) := by decide +kernel
theorem dX7_numbersOf_8 : decode cX7_numbersOf 8 = .ok (.if_icmp .ne 7, 3) := by decide +kernel
theorem dX7_numbersOf_11 : decode cX7_numbersOf 11 = .ok (.iconst 3, 1) := by decide +kernel
theorem dX7_numbersOf_12 : decode cX7_numbersOf 12 = .ok (.goto 14, 3) := by decide +kernel
theorem dX7_numbersOf_15 : decode cX7_numbersOf 15 = .ok (.iload_n 0, 1) := by decide +kernel
theorem dX7_numbersOf_16 : decode cX7_numbersOf 16 = .ok (.bipush 6, 2) := by decide +kernel
theorem dX7_numbersOf_18 : decode cX7_numbersOf 18 = .ok (.if_icmp .le 7, 3) := by decide +kernel
theorem dX7_numbersOf_21 : decode cX7_numbersOf 21 = .ok (.iconst 1, 1) := by decide +kernel
theorem dX7_numbersOf_22 : decode cX7_numbersOf 22 = .ok (.goto 4, 3) := by decide +kernel
theorem dX7_numbersOf_25 : decode cX7_numbersOf 25 = .ok (.iconst 2, 1) := by decide +kernel
theorem dX7_numbersOf_26 : decode cX7_numbersOf 26 = .ok (.ireturn, 1) := by decide +kernel
theorem dX7_isNumber_0 : decode cX7_isNumber 0 = .ok (.aload_n 0, 1) := by decide +kernel
theorem dX7_isNumber_1 : decode cX7_isNumber 1 = .ok (.invokevirtual 204, 3) := by decide +kernel
theorem dX7_isNumber_4 : decode cX7_isNumber 4 = .ok (.bipush 32, 2) := by decide +kernel
theorem dX7_isNumber_6 : decode cX7_isNumber 6 = .ok (.if_icmp .eq 5, 3) := by decide +kernel
theorem dX7_isNumber_9 : decode cX7_isNumber 9 = .ok (.iconst 0, 1) := by decide +kernel
theorem dX7_isNumber_10 : decode cX7_isNumber 10 = .ok (.ireturn, 1) := by decide +kernel
theorem dX7_isNumber_11 : decode cX7_isNumber 11 = .ok (.aload_n 0, 1) := by decide +kernel
theorem dX7_isNumber_12 : decode cX7_isNumber 12 = .ok (.invokevirtual 229, 3) := by decide +kernel
theorem dX7_isNumber_15 : decode cX7_isNumber 15 = .ok (.aload_n 0, 1) := by decide +kernel
theorem dX7_isNumber_16 : decode cX7_isNumber 16 = .ok (.getfield 201, 3) := by decide +kernel
theorem dX7_isNumber_19 : decode cX7_isNumber 19 = .ok (.istore_n 1, 1) := by decide +kernel
theorem dX7_isNumber_20 : decode cX7_isNumber 20 = .ok (.iconst 0, 1) := by decide +kernel
theorem dX7_isNumber_21 : decode cX7_isNumber 21 = .ok (.istore_n 2, 1) := by decide +kernel
theorem dX7_isNumber_22 : decode cX7_isNumber 22 = .ok (.aload_n 0, 1) := by decide +kernel
theorem dX7_isNumber_23 : decode cX7_isNumber 23 = .ok (.getfield 201, 3) := by decide +kernel
theorem dX7_isNumber_26 : decode cX7_isNumber 26 = .ok (.iload_n 1, 1) := by decide +kernel
theorem dX7_isNumber_27 : decode cX7_isNumber 27 = .ok (.isub, 1) := by decide +kernel
theorem dX7_isNumber_28 : decode cX7_isNumber 28 = .ok (.iconst 3, 1) := by decide +kernel
theorem dX7_isNumber_29 : decode cX7_isNumber 29 = .ok (.if_icmp .ge 43, 3) := by decide +kernel
theorem dX7_isNumber_32 : decode cX7_isNumber 32 = .ok (.aload_n 0, 1) := by decide +kernel
theorem dX7_isNumber_33 : decode cX7_isNumber 33 = .ok (.invokevirtual 204, 3) := by decide +kernel
theorem dX7_isNumber_36 : decode cX7_isNumber 36 = .ok (.bipush 48, 2) := by decide +kernel
theorem dX7_isNumber_38 : decode cX7_isNumber 38 = .ok (.bipush 57, 2) := by decide +kernel
theorem dX7_isNumber_40 : decode cX7_isNumber 40 = .ok (.invokestatic 91, 3) := by decide +kernel
theorem dX7_isNumber_43 : decode cX7_isNumber 43 = .ok (.ifCond .eq 29, 3) := by decide +kernel
theorem dX7_isNumber_46 : decode cX7_isNumber 46 = .ok (.bipush 10, 2) := by decide +kernel
theorem dX7_isNumber_48 : decode cX7_isNumber 48 = .ok (.iload_n 2, 1) := by decide +kernel
theorem dX7_isNumber_49 : decode cX7_isNumber 49 = .ok (.imul, 1) := by decide +kernel
theorem dX7_isNumber_50 : decode cX7_isNumber 50 = .ok (.aload_n 0, 1) := by decide +kernel
theorem dX7_isNumber_51 : decode cX7_isNumber 51 = .ok (.invokevirtual 204, 3) := by decide +kernel
theorem dX7_isNumber_54 : decode cX7_isNumber 54 = .ok (.iadd, 1) := by decide +kernel
theorem dX7_isNumber_55 : decode cX7_isNumber 55 = .ok (.bipush 48, 2) := by decide +kernel
theorem dX7_isNumber_57 : decode cX7_isNumber 57 = .ok (.isub, 1) := by decide +kernel
theorem dX7_isNumber_58 : decode cX7_isNumber 58 = .ok (.istore_n 2, 1) := by decide +kernel
theorem dX7_isNumber_59 : decode cX7_isNumber 59 = .ok (.aload_n 0, 1) := by decide +kernel
theorem dX7_isNumber_60 : decode cX7_isNumber 60 = .ok (.dup, 1) := by decide +kernel
theorem dX7_isNumber_61 : decode cX7_isNumber 61 = .ok (.getfield 201, 3) := by decide +kernel
theorem dX7_isNumber_64 : decode cX7_isNumber 64 = .ok (.iconst 1, 1) := by decide +kernel
theorem dX7_isNumber_65 : decode cX7_isNumber 65 = .ok (.iadd, 1) := by decide +kernel
theorem dX7_isNumber_66 : decode cX7_isNumber 66 = .ok (.putfield 201, 3) := by decide +kernel
theorem dX7_isNumber_69 : decode cX7_isNumber 69 = .ok (.goto (-47), 3) := by decide +kernel
theorem dX7_isNumber_72 : decode cX7_isNumber 72 = .ok (.aload_n 0, 1) := by decide +kernel
theorem dX7_isNumber_73 : decode cX7_isNumber 73 = .ok (.getfield 35, 3) := by decide +kernel
theorem dX7_isNumber_76 : decode cX7_isNumber 76 = .ok (.aload_n 0, 1) := by decide +kernel
theorem dX7_isNumber_77 : decode cX7_isNumber 77 = .ok (.getfield 232, 3) := by decide +kernel
theorem dX7_isNumber_80 : decode cX7_isNumber 80 = .ok (.iload_n 2, 1) := by decide +kernel
theorem dX7_isNumber_81 : decode cX7_isNumber 81 = .ok (.iastore, 1) := by decide +kernel
theorem dX7_isNumber_82 : decode cX7_isNumber 82 = .ok (.aload_n 0, 1) := by decide +kernel
theorem dX7_isNumber_83 : decode cX7_isNumber 83 = .ok (.dup, 1) := by decide +kernel
theorem dX7_isNumber_84 : decode cX7_isNumber 84 = .ok (.getfield 232, 3) := by decide +kernel
theorem dX7_isNumber_87 : decode cX7_isNumber 87 = .ok (.iconst 1, 1) := by decide +kernel
theorem dX7_isNumber_88 : decode cX7_isNumber 88 = .ok (.iadd, 1) := by decide +kernel
theorem dX7_isNumber_89 : decode cX7_isNumber 89 = .ok (.putfield 232, 3) := by decide +kernel
theorem dX7_isNumber_92 : decode cX7_isNumber 92 = .ok (.aload_n 0, 1) := by decide +kernel
theorem dX7_isNumber_93 : decode cX7_isNumber 93 = .ok (.getfield 201, 3) := by decide +kernel
theorem dX7_isNumber_96 : decode cX7_isNumber 96 = .ok (.iload_n 1, 1) := by decide +kernel
theorem dX7_isNumber_97 : decode cX7_isNumber 97 = .ok (.if_icmp .le 21, 3) := by decide +kernel
theorem dX7_isNumber_100 : decode cX7_isNumber 100 = .ok (.aload_n 0, 1) := by decide +kernel
theorem dX7_isNumber_101 : decode cX7_isNumber 101 = .ok (.invokevirtual 204, 3) := by decide +kernel
theorem dX7_isNumber_104 : decode cX7_isNumber 104 = .ok (.bipush 48, 2) := by decide +kernel
theorem dX7_isNumber_106 : decode cX7_isNumber 106 = .ok (.bipush 57, 2) := by decide +kernel
theorem dX7_isNumber_108 : decode cX7_isNumber 108 = .ok (.invokestatic 91, 3) := by decide +kernel
theorem dX7_isNumber_111 : decode cX7_isNumber 111 = .ok (.ifCond .ne 7, 3) := by decide +kernel
theorem dX7_isNumber_114 : decode cX7_isNumber 114 = .ok (.iconst 1, 1) := by decide +kernel
theorem dX7_isNumber_115 : decode cX7_isNumber 115 = .ok (.goto 4, 3) := by decide +kernel
theorem dX7_isNumber_118 : decode cX7_isNumber 118 = .ok (.iconst 0, 1) := by decide +kernel
theorem dX7_isNumber_119 : decode cX7_isNumber 119 = .ok (.ireturn, 1) := by decide +kernel
theorem dX7_command_0 : decode cX7_command 0 = .ok (.aload_n 0, 1) := by decide +kernel
theorem dX7_command_1 : decode cX7_command 1 = .ok (.invokevirtual 235, 3) := by decide +kernel
theorem dX7_command_4 : decode cX7_command 4 = .ok (.istore_n 1, 1) := by decide +kernel
theorem dX7_command_5 : decode cX7_command 5 = .ok (.aload_n 0, 1) := by decide +kernel
theorem dX7_command_6 : decode cX7_command 6 = .ok (.iconst 0, 1) := by decide +kernel
theorem dX7_command_7 : decode cX7_command 7 = .ok (.putfield 232, 3) := by decide +kernel
theorem dX7_command_10 : decode cX7_command 10 = .ok (.iconst 0, 1) := by decide +kernel
theorem dX7_command_11 : decode cX7_command 11 = .ok (.istore_n 2, 1) := by decide +kernel
theorem dX7_command_12 : decode cX7_command 12 = .ok (.iload_n 2, 1) := by decide +kernel
theorem dX7_command_13 : decode cX7_command 13 = .ok (.iload_n 1, 1) := by decide +kernel
theorem dX7_command_14 : decode cX7_command 14 = .ok (.invokestatic 238, 3) := by decide +kernel
theorem dX7_command_17 : decode cX7_command 17 = .ok (.if_icmp .ge 22, 3) := by decide +kernel
theorem dX7_command_20 : decode cX7_command 20 = .ok (.iload_n 1, 1) := by decide +kernel
theorem dX7_command_21 : decode cX7_command 21 = .ok (.ifCond .le 18, 3) := by decide +kernel
theorem dX7_command_24 : decode cX7_command 24 = .ok (.aload_n 0, 1) := by decide +kernel
theorem dX7_command_25 : decode cX7_command 25 = .ok (.invokevirtual 241, 3) := by decide +kernel
theorem dX7_command_28 : decode cX7_command 28 = .ok (.ifCond .ne 5, 3) := by decide +kernel
theorem dX7_command_31 : decode cX7_command 31 = .ok (.iconst 0, 1) := by decide +kernel
theorem dX7_command_32 : decode cX7_command 32 = .ok (.ireturn, 1) := by decide +kernel
theorem dX7_command_33 : decode cX7_command 33 = .ok (.iinc 2 1, 3) := by decide +kernel
theorem dX7_command_36 : decode cX7_command 36 = .ok (.goto (-24), 3) := by decide +kernel
theorem dX7_command_39 : decode cX7_command 39 = .ok (.iload_n 1, 1) := by decide +kernel
theorem dX7_command_40 : decode cX7_command 40 = .ok (.ifCond .le 28, 3) := by decide +kernel
theorem dX7_command_43 : decode cX7_command 43 = .ok (.aload_n 0, 1) := by decide +kernel
theorem dX7_command_44 : decode cX7_command 44 = .ok (.invokevirtual 229, 3) := by decide +kernel
theorem dX7_command_47 : decode cX7_command 47 = .ok (.aload_n 0, 1) := by decide +kernel
theorem dX7_command_48 : decode cX7_command 48 = .ok (.invokevirtual 204, 3) := by decide +kernel
theorem dX7_command_51 : decode cX7_command 51 = .ok (.bipush 59, 2) := by decide +kernel
theorem dX7_command_53 : decode cX7_command 53 = .ok (.if_icmp .eq 5, 3) := by decide +kernel
theorem dX7_command_56 : decode cX7_command 56 = .ok (.iconst 0, 1) := by decide +kernel
theorem dX7_command_57 : decode cX7_command 57 = .ok (.ireturn, 1) := by decide +kernel
theorem dX7_command_58 : decode cX7_command 58 = .ok (.aload_n 0, 1) := by decide +kernel
theorem dX7_command_59 : decode cX7_command 59 = .ok (.dup, 1) := by decide +kernel
theorem dX7_command_60 : decode cX7_command 60 = .ok (.getfield 201, 3) := by decide +kernel
theorem dX7_command_63 : decode cX7_command 63 = .ok (.iconst 1, 1) := by decide +kernel
theorem dX7_command_64 : decode cX7_command 64 = .ok (.iadd, 1) := by decide +kernel
theorem dX7_command_65 : decode cX7_command 65 = .ok (.putfield 201, 3) := by decide +kernel
theorem dX7_command_68 : decode cX7_command 68 = .ok (.iload_n 1, 1) := by decide +kernel
theorem dX7_command_69 : decode cX7_command 69 = .ok (.ireturn, 1) := by decide +kernel
theorem dX7_fault_0 : decode cX7_fault 0 = .ok (.aload_n 0, 1) := by decide +kernel
theorem dX7_fault_1 : decode cX7_fault 1 = .ok (.iconst 0, 1) := by decide +kernel
theorem dX7_fault_2 : decode cX7_fault 2 = .ok (.putfield 201, 3) := by decide +kernel
theorem dX7_fault_5 : decode cX7_fault 5 = .ok (.aload_n 0, 1) := by decide +kernel
theorem dX7_fault_6 : decode cX7_fault 6 = .ok (.invokevirtual 229, 3) := by decide +kernel
theorem dX7_fault_9 : decode cX7_fault 9 = .ok (.aload_n 0, 1) := by decide +kernel
theorem dX7_fault_10 : decode cX7_fault 10 = .ok (.getfield 201, 3) := by decide +kernel
theorem dX7_fault_13 : decode cX7_fault 13 = .ok (.aload_n 0, 1) := by decide +kernel
theorem dX7_fault_14 : decode cX7_fault 14 = .ok (.getfield 183, 3) := by decide +kernel
theorem dX7_fault_17 : decode cX7_fault 17 = .ok (.if_icmp .ge 22, 3) := by decide +kernel
theorem dX7_fault_20 : decode cX7_fault 20 = .ok (.aload_n 0, 1) := by decide +kernel
theorem dX7_fault_21 : decode cX7_fault 21 = .ok (.invokevirtual 245, 3) := by decide +kernel
theorem dX7_fault_24 : decode cX7_fault 24 = .ok (.ifCond .ne 8, 3) := by decide +kernel
theorem dX7_fault_27 : decode cX7_fault 27 = .ok (.aload_n 0, 1) := by decide +kernel
theorem dX7_fault_28 : decode cX7_fault 28 = .ok (.getfield 201, 3) := by decide +kernel
theorem dX7_fault_31 : decode cX7_fault 31 = .ok (.ireturn, 1) := by decide +kernel
theorem dX7_fault_32 : decode cX7_fault 32 = .ok (.aload_n 0, 1) := by decide +kernel
theorem dX7_fault_33 : decode cX7_fault 33 = .ok (.invokevirtual 229, 3) := by decide +kernel
theorem dX7_fault_36 : decode cX7_fault 36 = .ok (.goto (-27), 3) := by decide +kernel
theorem dX7_fault_39 : decode cX7_fault 39 = .ok (.iconst (-1), 1) := by decide +kernel
theorem dX7_fault_40 : decode cX7_fault 40 = .ok (.ireturn, 1) := by decide +kernel
theorem dX7_does_0 : decode cX7_does 0 = .ok (.aload_n 0, 1) := by decide +kernel
theorem dX7_does_1 : decode cX7_does 1 = .ok (.getfield 35, 3) := by decide +kernel
theorem dX7_does_4 : decode cX7_does 4 = .ok (.iconst 0, 1) := by decide +kernel
theorem dX7_does_5 : decode cX7_does 5 = .ok (.iaload, 1) := by decide +kernel
theorem dX7_does_6 : decode cX7_does 6 = .ok (.istore_n 2, 1) := by decide +kernel
theorem dX7_does_7 : decode cX7_does 7 = .ok (.aload_n 0, 1) := by decide +kernel
theorem dX7_does_8 : decode cX7_does 8 = .ok (.getfield 35, 3) := by decide +kernel
theorem dX7_does_11 : decode cX7_does 11 = .ok (.iconst 1, 1) := by decide +kernel
theorem dX7_does_12 : decode cX7_does 12 = .ok (.iaload, 1) := by decide +kernel
theorem dX7_does_13 : decode cX7_does 13 = .ok (.istore_n 3, 1) := by decide +kernel
theorem dX7_does_14 : decode cX7_does 14 = .ok (.aload_n 0, 1) := by decide +kernel
theorem dX7_does_15 : decode cX7_does 15 = .ok (.getfield 35, 3) := by decide +kernel
theorem dX7_does_18 : decode cX7_does 18 = .ok (.iconst 2, 1) := by decide +kernel
theorem dX7_does_19 : decode cX7_does 19 = .ok (.iaload, 1) := by decide +kernel
theorem dX7_does_20 : decode cX7_does 20 = .ok (.istore 4, 2) := by decide +kernel
theorem dX7_does_22 : decode cX7_does 22 = .ok (.iload_n 1, 1) := by decide +kernel
theorem dX7_does_23 : decode cX7_does 23 = .ok (.tableswitch 128 1 7 #[41, 53, 66, 83, 94, 105, 118], 41) := by decide +kernel
theorem dX7_does_64 : decode cX7_does 64 = .ok (.aload_n 0, 1) := by decide +kernel
theorem dX7_does_65 : decode cX7_does 65 = .ok (.iload_n 2, 1) := by decide +kernel
theorem dX7_does_66 : decode cX7_does 66 = .ok (.iload_n 3, 1) := by decide +kernel
theorem dX7_does_67 : decode cX7_does 67 = .ok (.iconst 0, 1) := by decide +kernel
theorem dX7_does_68 : decode cX7_does 68 = .ok (.invokevirtual 104, 3) := by decide +kernel
theorem dX7_does_71 : decode cX7_does 71 = .ok (.istore 5, 2) := by decide +kernel
theorem dX7_does_73 : decode cX7_does 73 = .ok (.goto 84, 3) := by decide +kernel
theorem dX7_does_76 : decode cX7_does 76 = .ok (.aload_n 0, 1) := by decide +kernel
theorem dX7_does_77 : decode cX7_does 77 = .ok (.iload_n 2, 1) := by decide +kernel
theorem dX7_does_78 : decode cX7_does 78 = .ok (.iload_n 3, 1) := by decide +kernel
theorem dX7_does_79 : decode cX7_does 79 = .ok (.iload 4, 2) := by decide +kernel
theorem dX7_does_81 : decode cX7_does 81 = .ok (.invokevirtual 104, 3) := by decide +kernel
theorem dX7_does_84 : decode cX7_does 84 = .ok (.istore 5, 2) := by decide +kernel
theorem dX7_does_86 : decode cX7_does 86 = .ok (.goto 71, 3) := by decide +kernel
theorem dX7_does_89 : decode cX7_does 89 = .ok (.aload_n 0, 1) := by decide +kernel
theorem dX7_does_90 : decode cX7_does 90 = .ok (.iload_n 2, 1) := by decide +kernel
theorem dX7_does_91 : decode cX7_does 91 = .ok (.iload_n 3, 1) := by decide +kernel
theorem dX7_does_92 : decode cX7_does 92 = .ok (.iconst 0, 1) := by decide +kernel
theorem dX7_does_93 : decode cX7_does 93 = .ok (.bipush 60, 2) := by decide +kernel
theorem dX7_does_95 : decode cX7_does 95 = .ok (.invokestatic 91, 3) := by decide +kernel
theorem dX7_does_98 : decode cX7_does 98 = .ok (.invokevirtual 140, 3) := by decide +kernel
theorem dX7_does_101 : decode cX7_does 101 = .ok (.istore 5, 2) := by decide +kernel
theorem dX7_does_103 : decode cX7_does 103 = .ok (.goto 54, 3) := by decide +kernel
theorem dX7_does_106 : decode cX7_does 106 = .ok (.aload_n 0, 1) := by decide +kernel
theorem dX7_does_107 : decode cX7_does 107 = .ok (.iload_n 2, 1) := by decide +kernel
theorem dX7_does_108 : decode cX7_does 108 = .ok (.iload_n 3, 1) := by decide +kernel
theorem dX7_does_109 : decode cX7_does 109 = .ok (.invokevirtual 150, 3) := by decide +kernel
theorem dX7_does_112 : decode cX7_does 112 = .ok (.istore 5, 2) := by decide +kernel
theorem dX7_does_114 : decode cX7_does 114 = .ok (.goto 43, 3) := by decide +kernel
theorem dX7_does_117 : decode cX7_does 117 = .ok (.aload_n 0, 1) := by decide +kernel
theorem dX7_does_118 : decode cX7_does 118 = .ok (.iload_n 2, 1) := by decide +kernel
theorem dX7_does_119 : decode cX7_does 119 = .ok (.iload_n 3, 1) := by decide +kernel
theorem dX7_does_120 : decode cX7_does 120 = .ok (.invokevirtual 156, 3) := by decide +kernel
theorem dX7_does_123 : decode cX7_does 123 = .ok (.istore 5, 2) := by decide +kernel
theorem dX7_does_125 : decode cX7_does 125 = .ok (.goto 32, 3) := by decide +kernel
theorem dX7_does_128 : decode cX7_does 128 = .ok (.aload_n 0, 1) := by decide +kernel
theorem dX7_does_129 : decode cX7_does 129 = .ok (.iload_n 2, 1) := by decide +kernel
theorem dX7_does_130 : decode cX7_does 130 = .ok (.iload_n 3, 1) := by decide +kernel
theorem dX7_does_131 : decode cX7_does 131 = .ok (.iload 4, 2) := by decide +kernel
theorem dX7_does_133 : decode cX7_does 133 = .ok (.invokevirtual 125, 3) := by decide +kernel
theorem dX7_does_136 : decode cX7_does 136 = .ok (.istore 5, 2) := by decide +kernel
theorem dX7_does_138 : decode cX7_does 138 = .ok (.goto 19, 3) := by decide +kernel
theorem dX7_does_141 : decode cX7_does 141 = .ok (.aload_n 0, 1) := by decide +kernel
theorem dX7_does_142 : decode cX7_does 142 = .ok (.iload_n 2, 1) := by decide +kernel
theorem dX7_does_143 : decode cX7_does 143 = .ok (.invokevirtual 131, 3) := by decide +kernel
theorem dX7_does_146 : decode cX7_does 146 = .ok (.istore 5, 2) := by decide +kernel
theorem dX7_does_148 : decode cX7_does 148 = .ok (.goto 9, 3) := by decide +kernel
theorem dX7_does_151 : decode cX7_does 151 = .ok (.iload_n 2, 1) := by decide +kernel
theorem dX7_does_152 : decode cX7_does 152 = .ok (.invokestatic 159, 3) := by decide +kernel
theorem dX7_does_155 : decode cX7_does 155 = .ok (.istore 5, 2) := by decide +kernel
theorem dX7_does_157 : decode cX7_does 157 = .ok (.iload 5, 2) := by decide +kernel
theorem dX7_does_159 : decode cX7_does 159 = .ok (.ifCond .ne 12, 3) := by decide +kernel
theorem dX7_does_162 : decode cX7_does 162 = .ok (.aload_n 0, 1) := by decide +kernel
theorem dX7_does_163 : decode cX7_does 163 = .ok (.iload_n 1, 1) := by decide +kernel
theorem dX7_does_164 : decode cX7_does 164 = .ok (.iload_n 2, 1) := by decide +kernel
theorem dX7_does_165 : decode cX7_does 165 = .ok (.iload_n 3, 1) := by decide +kernel
theorem dX7_does_166 : decode cX7_does 166 = .ok (.iload 4, 2) := by decide +kernel
theorem dX7_does_168 : decode cX7_does 168 = .ok (.invokevirtual 248, 3) := by decide +kernel
theorem dX7_does_171 : decode cX7_does 171 = .ok (.iload 5, 2) := by decide +kernel
theorem dX7_does_173 : decode cX7_does 173 = .ok (.ifCond .ne 7, 3) := by decide +kernel
theorem dX7_does_176 : decode cX7_does 176 = .ok (.iconst 1, 1) := by decide +kernel
theorem dX7_does_177 : decode cX7_does 177 = .ok (.goto 4, 3) := by decide +kernel
theorem dX7_does_180 : decode cX7_does 180 = .ok (.iconst 0, 1) := by decide +kernel
theorem dX7_does_181 : decode cX7_does 181 = .ok (.ireturn, 1) := by decide +kernel
theorem dX7_changes_0 : decode cX7_changes 0 = .ok (.iload_n 1, 1) := by decide +kernel
theorem dX7_changes_1 : decode cX7_changes 1 = .ok (.tableswitch 119 1 7 #[43, 55, 68, 77, 87, 98, 110], 43) := by decide +kernel
theorem dX7_changes_44 : decode cX7_changes 44 = .ok (.aload_n 0, 1) := by decide +kernel
theorem dX7_changes_45 : decode cX7_changes 45 = .ok (.iload_n 2, 1) := by decide +kernel
theorem dX7_changes_46 : decode cX7_changes 46 = .ok (.iload_n 3, 1) := by decide +kernel
theorem dX7_changes_47 : decode cX7_changes 47 = .ok (.iconst 0, 1) := by decide +kernel
theorem dX7_changes_48 : decode cX7_changes 48 = .ok (.iconst 0, 1) := by decide +kernel
theorem dX7_changes_49 : decode cX7_changes 49 = .ok (.invokevirtual 111, 3) := by decide +kernel
theorem dX7_changes_52 : decode cX7_changes 52 = .ok (.pop, 1) := by decide +kernel
theorem dX7_changes_53 : decode cX7_changes 53 = .ok (.goto 74, 3) := by decide +kernel
theorem dX7_changes_56 : decode cX7_changes 56 = .ok (.aload_n 0, 1) := by decide +kernel
theorem dX7_changes_57 : decode cX7_changes 57 = .ok (.iload_n 2, 1) := by decide +kernel
theorem dX7_changes_58 : decode cX7_changes 58 = .ok (.iload_n 3, 1) := by decide +kernel
theorem dX7_changes_59 : decode cX7_changes 59 = .ok (.iconst 1, 1) := by decide +kernel
theorem dX7_changes_60 : decode cX7_changes 60 = .ok (.iload 4, 2) := by decide +kernel
theorem dX7_changes_62 : decode cX7_changes 62 = .ok (.invokevirtual 111, 3) := by decide +kernel
theorem dX7_changes_65 : decode cX7_changes 65 = .ok (.pop, 1) := by decide +kernel
theorem dX7_changes_66 : decode cX7_changes 66 = .ok (.goto 61, 3) := by decide +kernel
theorem dX7_changes_69 : decode cX7_changes 69 = .ok (.aload_n 0, 1) := by decide +kernel
theorem dX7_changes_70 : decode cX7_changes 70 = .ok (.iload_n 2, 1) := by decide +kernel
theorem dX7_changes_71 : decode cX7_changes 71 = .ok (.iload_n 3, 1) := by decide +kernel
theorem dX7_changes_72 : decode cX7_changes 72 = .ok (.invokevirtual 144, 3) := by decide +kernel
theorem dX7_changes_75 : decode cX7_changes 75 = .ok (.goto 52, 3) := by decide +kernel
theorem dX7_changes_78 : decode cX7_changes 78 = .ok (.aload_n 0, 1) := by decide +kernel
theorem dX7_changes_79 : decode cX7_changes 79 = .ok (.iload_n 2, 1) := by decide +kernel
theorem dX7_changes_80 : decode cX7_changes 80 = .ok (.iload_n 3, 1) := by decide +kernel
theorem dX7_changes_81 : decode cX7_changes 81 = .ok (.invokevirtual 153, 3) := by decide +kernel
theorem dX7_changes_84 : decode cX7_changes 84 = .ok (.pop, 1) := by decide +kernel
theorem dX7_changes_85 : decode cX7_changes 85 = .ok (.goto 42, 3) := by decide +kernel
theorem dX7_changes_88 : decode cX7_changes 88 = .ok (.aload_n 0, 1) := by decide +kernel
theorem dX7_changes_89 : decode cX7_changes 89 = .ok (.iload_n 2, 1) := by decide +kernel
theorem dX7_changes_90 : decode cX7_changes 90 = .ok (.iload_n 3, 1) := by decide +kernel
theorem dX7_changes_91 : decode cX7_changes 91 = .ok (.ineg, 1) := by decide +kernel
theorem dX7_changes_92 : decode cX7_changes 92 = .ok (.invokevirtual 153, 3) := by decide +kernel
theorem dX7_changes_95 : decode cX7_changes 95 = .ok (.pop, 1) := by decide +kernel
theorem dX7_changes_96 : decode cX7_changes 96 = .ok (.goto 31, 3) := by decide +kernel
theorem dX7_changes_99 : decode cX7_changes 99 = .ok (.aload_n 0, 1) := by decide +kernel
theorem dX7_changes_100 : decode cX7_changes 100 = .ok (.iload_n 2, 1) := by decide +kernel
theorem dX7_changes_101 : decode cX7_changes 101 = .ok (.iload_n 3, 1) := by decide +kernel
theorem dX7_changes_102 : decode cX7_changes 102 = .ok (.iload 4, 2) := by decide +kernel
theorem dX7_changes_104 : decode cX7_changes 104 = .ok (.invokevirtual 128, 3) := by decide +kernel
theorem dX7_changes_107 : decode cX7_changes 107 = .ok (.pop, 1) := by decide +kernel
theorem dX7_changes_108 : decode cX7_changes 108 = .ok (.goto 19, 3) := by decide +kernel
theorem dX7_changes_111 : decode cX7_changes 111 = .ok (.aload_n 0, 1) := by decide +kernel
theorem dX7_changes_112 : decode cX7_changes 112 = .ok (.iload_n 2, 1) := by decide +kernel
theorem dX7_changes_113 : decode cX7_changes 113 = .ok (.invokevirtual 137, 3) := by decide +kernel
theorem dX7_changes_116 : decode cX7_changes 116 = .ok (.pop, 1) := by decide +kernel
theorem dX7_changes_117 : decode cX7_changes 117 = .ok (.goto 10, 3) := by decide +kernel
theorem dX7_changes_120 : decode cX7_changes 120 = .ok (.aload_n 0, 1) := by decide +kernel
theorem dX7_changes_121 : decode cX7_changes 121 = .ok (.getfield 7, 3) := by decide +kernel
theorem dX7_changes_124 : decode cX7_changes 124 = .ok (.iconst 2, 1) := by decide +kernel
theorem dX7_changes_125 : decode cX7_changes 125 = .ok (.iload_n 2, 1) := by decide +kernel
theorem dX7_changes_126 : decode cX7_changes 126 = .ok (.iastore, 1) := by decide +kernel
theorem dX7_changes_127 : decode cX7_changes 127 = .ok (.return_, 1) := by decide +kernel
theorem dX7_runCommands_0 : decode cX7_runCommands 0 = .ok (.aload_n 0, 1) := by decide +kernel
theorem dX7_runCommands_1 : decode cX7_runCommands 1 = .ok (.iconst 0, 1) := by decide +kernel
theorem dX7_runCommands_2 : decode cX7_runCommands 2 = .ok (.putfield 57, 3) := by decide +kernel
theorem dX7_runCommands_5 : decode cX7_runCommands 5 = .ok (.aload_n 0, 1) := by decide +kernel
theorem dX7_runCommands_6 : decode cX7_runCommands 6 = .ok (.invokevirtual 252, 3) := by decide +kernel
theorem dX7_runCommands_9 : decode cX7_runCommands 9 = .ok (.istore_n 1, 1) := by decide +kernel
theorem dX7_runCommands_10 : decode cX7_runCommands 10 = .ok (.iload_n 1, 1) := by decide +kernel
theorem dX7_runCommands_11 : decode cX7_runCommands 11 = .ok (.iconst (-1), 1) := by decide +kernel
theorem dX7_runCommands_12 : decode cX7_runCommands 12 = .ok (.if_icmp .eq 8, 3) := by decide +kernel
theorem dX7_runCommands_15 : decode cX7_runCommands 15 = .ok (.bipush (-10), 2) := by decide +kernel
theorem dX7_runCommands_17 : decode cX7_runCommands 17 = .ok (.iload_n 1, 1) := by decide +kernel
theorem dX7_runCommands_18 : decode cX7_runCommands 18 = .ok (.isub, 1) := by decide +kernel
theorem dX7_runCommands_19 : decode cX7_runCommands 19 = .ok (.ireturn, 1) := by decide +kernel
theorem dX7_runCommands_20 : decode cX7_runCommands 20 = .ok (.aload_n 0, 1) := by decide +kernel
theorem dX7_runCommands_21 : decode cX7_runCommands 21 = .ok (.invokevirtual 108, 3) := by decide +kernel
theorem dX7_runCommands_24 : decode cX7_runCommands 24 = .ok (.aload_n 0, 1) := by decide +kernel
theorem dX7_runCommands_25 : decode cX7_runCommands 25 = .ok (.iconst 0, 1) := by decide +kernel
theorem dX7_runCommands_26 : decode cX7_runCommands 26 = .ok (.putfield 201, 3) := by decide +kernel
theorem dX7_runCommands_29 : decode cX7_runCommands 29 = .ok (.iconst 0, 1) := by decide +kernel
theorem dX7_runCommands_30 : decode cX7_runCommands 30 = .ok (.istore_n 2, 1) := by decide +kernel
theorem dX7_runCommands_31 : decode cX7_runCommands 31 = .ok (.aload_n 0, 1) := by decide +kernel
theorem dX7_runCommands_32 : decode cX7_runCommands 32 = .ok (.invokevirtual 229, 3) := by decide +kernel
theorem dX7_runCommands_35 : decode cX7_runCommands 35 = .ok (.aload_n 0, 1) := by decide +kernel
theorem dX7_runCommands_36 : decode cX7_runCommands 36 = .ok (.getfield 201, 3) := by decide +kernel
theorem dX7_runCommands_39 : decode cX7_runCommands 39 = .ok (.aload_n 0, 1) := by decide +kernel
theorem dX7_runCommands_40 : decode cX7_runCommands 40 = .ok (.getfield 183, 3) := by decide +kernel
theorem dX7_runCommands_43 : decode cX7_runCommands 43 = .ok (.if_icmp .ge 26, 3) := by decide +kernel
theorem dX7_runCommands_46 : decode cX7_runCommands 46 = .ok (.aload_n 0, 1) := by decide +kernel
theorem dX7_runCommands_47 : decode cX7_runCommands 47 = .ok (.aload_n 0, 1) := by decide +kernel
theorem dX7_runCommands_48 : decode cX7_runCommands 48 = .ok (.invokevirtual 245, 3) := by decide +kernel
theorem dX7_runCommands_51 : decode cX7_runCommands 51 = .ok (.invokevirtual 255, 3) := by decide +kernel
theorem dX7_runCommands_54 : decode cX7_runCommands 54 = .ok (.ifCond .ne 5, 3) := by decide +kernel
theorem dX7_runCommands_57 : decode cX7_runCommands 57 = .ok (.iload_n 2, 1) := by decide +kernel
theorem dX7_runCommands_58 : decode cX7_runCommands 58 = .ok (.ireturn, 1) := by decide +kernel
theorem dX7_runCommands_59 : decode cX7_runCommands 59 = .ok (.iinc 2 1, 3) := by decide +kernel
theorem dX7_runCommands_62 : decode cX7_runCommands 62 = .ok (.aload_n 0, 1) := by decide +kernel
theorem dX7_runCommands_63 : decode cX7_runCommands 63 = .ok (.invokevirtual 229, 3) := by decide +kernel
theorem dX7_runCommands_66 : decode cX7_runCommands 66 = .ok (.goto (-31), 3) := by decide +kernel
theorem dX7_runCommands_69 : decode cX7_runCommands 69 = .ok (.iload_n 2, 1) := by decide +kernel
theorem dX7_runCommands_70 : decode cX7_runCommands 70 = .ok (.ireturn, 1) := by decide +kernel
theorem dX7_undo_0 : decode cX7_undo 0 = .ok (.aload_n 0, 1) := by decide +kernel
theorem dX7_undo_1 : decode cX7_undo 1 = .ok (.aload_n 0, 1) := by decide +kernel
theorem dX7_undo_2 : decode cX7_undo 2 = .ok (.getfield 41, 3) := by decide +kernel
theorem dX7_undo_5 : decode cX7_undo 5 = .ok (.ifCond .ne 7, 3) := by decide +kernel
theorem dX7_undo_8 : decode cX7_undo 8 = .ok (.iconst 1, 1) := by decide +kernel
theorem dX7_undo_9 : decode cX7_undo 9 = .ok (.goto 4, 3) := by decide +kernel
theorem dX7_undo_12 : decode cX7_undo 12 = .ok (.iconst 0, 1) := by decide +kernel
theorem dX7_undo_13 : decode cX7_undo 13 = .ok (.invokevirtual 60, 3) := by decide +kernel
theorem dX7_undo_16 : decode cX7_undo 16 = .ok (.ifCond .eq 5, 3) := by decide +kernel
theorem dX7_undo_19 : decode cX7_undo 19 = .ok (.iconst 0, 1) := by decide +kernel
theorem dX7_undo_20 : decode cX7_undo 20 = .ok (.ireturn, 1) := by decide +kernel
theorem dX7_undo_21 : decode cX7_undo 21 = .ok (.aload_n 0, 1) := by decide +kernel
theorem dX7_undo_22 : decode cX7_undo 22 = .ok (.sipush 171, 3) := by decide +kernel
theorem dX7_undo_25 : decode cX7_undo 25 = .ok (.aload_n 0, 1) := by decide +kernel
theorem dX7_undo_26 : decode cX7_undo 26 = .ok (.getfield 41, 3) := by decide +kernel
theorem dX7_undo_29 : decode cX7_undo 29 = .ok (.imul, 1) := by decide +kernel
theorem dX7_undo_30 : decode cX7_undo 30 = .ok (.iconst 0, 1) := by decide +kernel
theorem dX7_undo_31 : decode cX7_undo 31 = .ok (.invokevirtual 45, 3) := by decide +kernel
theorem dX7_undo_34 : decode cX7_undo 34 = .ok (.aload_n 0, 1) := by decide +kernel
theorem dX7_undo_35 : decode cX7_undo 35 = .ok (.dup, 1) := by decide +kernel
theorem dX7_undo_36 : decode cX7_undo 36 = .ok (.getfield 41, 3) := by decide +kernel
theorem dX7_undo_39 : decode cX7_undo 39 = .ok (.iconst 1, 1) := by decide +kernel
theorem dX7_undo_40 : decode cX7_undo 40 = .ok (.isub, 1) := by decide +kernel
theorem dX7_undo_41 : decode cX7_undo 41 = .ok (.putfield 41, 3) := by decide +kernel
theorem dX7_undo_44 : decode cX7_undo 44 = .ok (.aload_n 0, 1) := by decide +kernel
theorem dX7_undo_45 : decode cX7_undo 45 = .ok (.getfield 41, 3) := by decide +kernel
theorem dX7_undo_48 : decode cX7_undo 48 = .ok (.ireturn, 1) := by decide +kernel
theorem dX7_digest_0 : decode cX7_digest 0 = .ok (.aload_n 0, 1) := by decide +kernel
theorem dX7_digest_1 : decode cX7_digest 1 = .ok (.iconst 0, 1) := by decide +kernel
theorem dX7_digest_2 : decode cX7_digest 2 = .ok (.putfield 57, 3) := by decide +kernel
theorem dX7_digest_5 : decode cX7_digest 5 = .ok (.ldc2_w 258, 3) := by decide +kernel
theorem dX7_digest_8 : decode cX7_digest 8 = .ok (.aload_n 0, 1) := by decide +kernel
theorem dX7_digest_9 : decode cX7_digest 9 = .ok (.getfield 41, 3) := by decide +kernel
theorem dX7_digest_12 : decode cX7_digest 12 = .ok (.i2l, 1) := by decide +kernel
theorem dX7_digest_13 : decode cX7_digest 13 = .ok (.ladd, 1) := by decide +kernel
theorem dX7_digest_14 : decode cX7_digest 14 = .ok (.lstore_n 1, 1) := by decide +kernel
theorem dX7_digest_15 : decode cX7_digest 15 = .ok (.iconst 0, 1) := by decide +kernel
theorem dX7_digest_16 : decode cX7_digest 16 = .ok (.istore_n 3, 1) := by decide +kernel
theorem dX7_digest_17 : decode cX7_digest 17 = .ok (.iload_n 3, 1) := by decide +kernel
theorem dX7_digest_18 : decode cX7_digest 18 = .ok (.bipush 12, 2) := by decide +kernel
theorem dX7_digest_20 : decode cX7_digest 20 = .ok (.if_icmp .ge 22, 3) := by decide +kernel
theorem dX7_digest_23 : decode cX7_digest 23 = .ok (.ldc2_w 260, 3) := by decide +kernel
theorem dX7_digest_26 : decode cX7_digest 26 = .ok (.lload_n 1, 1) := by decide +kernel
theorem dX7_digest_27 : decode cX7_digest 27 = .ok (.lmul, 1) := by decide +kernel
theorem dX7_digest_28 : decode cX7_digest 28 = .ok (.aload_n 0, 1) := by decide +kernel
theorem dX7_digest_29 : decode cX7_digest 29 = .ok (.iload_n 3, 1) := by decide +kernel
theorem dX7_digest_30 : decode cX7_digest 30 = .ok (.invokevirtual 262, 3) := by decide +kernel
theorem dX7_digest_33 : decode cX7_digest 33 = .ok (.i2l, 1) := by decide +kernel
theorem dX7_digest_34 : decode cX7_digest 34 = .ok (.ladd, 1) := by decide +kernel
theorem dX7_digest_35 : decode cX7_digest 35 = .ok (.lstore_n 1, 1) := by decide +kernel
theorem dX7_digest_36 : decode cX7_digest 36 = .ok (.iinc 3 1, 3) := by decide +kernel
theorem dX7_digest_39 : decode cX7_digest 39 = .ok (.goto (-22), 3) := by decide +kernel
theorem dX7_digest_42 : decode cX7_digest 42 = .ok (.iconst 0, 1) := by decide +kernel
theorem dX7_digest_43 : decode cX7_digest 43 = .ok (.istore_n 3, 1) := by decide +kernel
theorem dX7_digest_44 : decode cX7_digest 44 = .ok (.iload_n 3, 1) := by decide +kernel
theorem dX7_digest_45 : decode cX7_digest 45 = .ok (.aload_n 0, 1) := by decide +kernel
theorem dX7_digest_46 : decode cX7_digest 46 = .ok (.getfield 7, 3) := by decide +kernel
theorem dX7_digest_49 : decode cX7_digest 49 = .ok (.iconst 0, 1) := by decide +kernel
theorem dX7_digest_50 : decode cX7_digest 50 = .ok (.iaload, 1) := by decide +kernel
theorem dX7_digest_51 : decode cX7_digest 51 = .ok (.if_icmp .ge 105, 3) := by decide +kernel
theorem dX7_digest_54 : decode cX7_digest 54 = .ok (.aload_n 0, 1) := by decide +kernel
theorem dX7_digest_55 : decode cX7_digest 55 = .ok (.iload_n 3, 1) := by decide +kernel
theorem dX7_digest_56 : decode cX7_digest 56 = .ok (.iconst 0, 1) := by decide +kernel
theorem dX7_digest_57 : decode cX7_digest 57 = .ok (.invokevirtual 49, 3) := by decide +kernel
theorem dX7_digest_60 : decode cX7_digest 60 = .ok (.istore 4, 2) := by decide +kernel
theorem dX7_digest_62 : decode cX7_digest 62 = .ok (.ldc2_w 260, 3) := by decide +kernel
theorem dX7_digest_65 : decode cX7_digest 65 = .ok (.lload_n 1, 1) := by decide +kernel
theorem dX7_digest_66 : decode cX7_digest 66 = .ok (.lmul, 1) := by decide +kernel
theorem dX7_digest_67 : decode cX7_digest 67 = .ok (.iload 4, 2) := by decide +kernel
theorem dX7_digest_69 : decode cX7_digest 69 = .ok (.i2l, 1) := by decide +kernel
theorem dX7_digest_70 : decode cX7_digest 70 = .ok (.ladd, 1) := by decide +kernel
theorem dX7_digest_71 : decode cX7_digest 71 = .ok (.lstore_n 1, 1) := by decide +kernel
theorem dX7_digest_72 : decode cX7_digest 72 = .ok (.iconst 0, 1) := by decide +kernel
theorem dX7_digest_73 : decode cX7_digest 73 = .ok (.istore 5, 2) := by decide +kernel
theorem dX7_digest_75 : decode cX7_digest 75 = .ok (.iload 5, 2) := by decide +kernel
theorem dX7_digest_77 : decode cX7_digest 77 = .ok (.bipush 13, 2) := by decide +kernel
theorem dX7_digest_79 : decode cX7_digest 79 = .ok (.if_icmp .ge 24, 3) := by decide +kernel
theorem dX7_digest_82 : decode cX7_digest 82 = .ok (.ldc2_w 260, 3) := by decide +kernel
theorem dX7_digest_85 : decode cX7_digest 85 = .ok (.lload_n 1, 1) := by decide +kernel
theorem dX7_digest_86 : decode cX7_digest 86 = .ok (.lmul, 1) := by decide +kernel
theorem dX7_digest_87 : decode cX7_digest 87 = .ok (.aload_n 0, 1) := by decide +kernel
theorem dX7_digest_88 : decode cX7_digest 88 = .ok (.iload_n 3, 1) := by decide +kernel
theorem dX7_digest_89 : decode cX7_digest 89 = .ok (.iload 5, 2) := by decide +kernel
theorem dX7_digest_91 : decode cX7_digest 91 = .ok (.invokevirtual 165, 3) := by decide +kernel
theorem dX7_digest_94 : decode cX7_digest 94 = .ok (.i2l, 1) := by decide +kernel
theorem dX7_digest_95 : decode cX7_digest 95 = .ok (.ladd, 1) := by decide +kernel
theorem dX7_digest_96 : decode cX7_digest 96 = .ok (.lstore_n 1, 1) := by decide +kernel
theorem dX7_digest_97 : decode cX7_digest 97 = .ok (.iinc 5 1, 3) := by decide +kernel
theorem dX7_digest_100 : decode cX7_digest 100 = .ok (.goto (-25), 3) := by decide +kernel
theorem dX7_digest_103 : decode cX7_digest 103 = .ok (.iconst 0, 1) := by decide +kernel
theorem dX7_digest_104 : decode cX7_digest 104 = .ok (.istore 5, 2) := by decide +kernel
theorem dX7_digest_106 : decode cX7_digest 106 = .ok (.iload 5, 2) := by decide +kernel
theorem dX7_digest_108 : decode cX7_digest 108 = .ok (.bipush 16, 2) := by decide +kernel
theorem dX7_digest_110 : decode cX7_digest 110 = .ok (.if_icmp .ge 40, 3) := by decide +kernel
theorem dX7_digest_113 : decode cX7_digest 113 = .ok (.aload_n 0, 1) := by decide +kernel
theorem dX7_digest_114 : decode cX7_digest 114 = .ok (.iload_n 3, 1) := by decide +kernel
theorem dX7_digest_115 : decode cX7_digest 115 = .ok (.iconst 1, 1) := by decide +kernel
theorem dX7_digest_116 : decode cX7_digest 116 = .ok (.invokevirtual 49, 3) := by decide +kernel
theorem dX7_digest_119 : decode cX7_digest 119 = .ok (.ifCond .ne 31, 3) := by decide +kernel
theorem dX7_digest_122 : decode cX7_digest 122 = .ok (.ldc2_w 260, 3) := by decide +kernel
theorem dX7_digest_125 : decode cX7_digest 125 = .ok (.lload_n 1, 1) := by decide +kernel
theorem dX7_digest_126 : decode cX7_digest 126 = .ok (.lmul, 1) := by decide +kernel
theorem dX7_digest_127 : decode cX7_digest 127 = .ok (.aload_n 0, 1) := by decide +kernel
theorem dX7_digest_128 : decode cX7_digest 128 = .ok (.iload 4, 2) := by decide +kernel
theorem dX7_digest_130 : decode cX7_digest 130 = .ok (.iload 5, 2) := by decide +kernel
theorem dX7_digest_132 : decode cX7_digest 132 = .ok (.iconst 4, 1) := by decide +kernel
theorem dX7_digest_133 : decode cX7_digest 133 = .ok (.idiv, 1) := by decide +kernel
theorem dX7_digest_134 : decode cX7_digest 134 = .ok (.iload 5, 2) := by decide +kernel
theorem dX7_digest_136 : decode cX7_digest 136 = .ok (.iconst 4, 1) := by decide +kernel
theorem dX7_digest_137 : decode cX7_digest 137 = .ok (.irem, 1) := by decide +kernel
theorem dX7_digest_138 : decode cX7_digest 138 = .ok (.invokevirtual 174, 3) := by decide +kernel
theorem dX7_digest_141 : decode cX7_digest 141 = .ok (.i2l, 1) := by decide +kernel
theorem dX7_digest_142 : decode cX7_digest 142 = .ok (.ladd, 1) := by decide +kernel
theorem dX7_digest_143 : decode cX7_digest 143 = .ok (.lstore_n 1, 1) := by decide +kernel
theorem dX7_digest_144 : decode cX7_digest 144 = .ok (.iinc 5 1, 3) := by decide +kernel
theorem dX7_digest_147 : decode cX7_digest 147 = .ok (.goto (-41), 3) := by decide +kernel
theorem dX7_digest_150 : decode cX7_digest 150 = .ok (.iinc 3 1, 3) := by decide +kernel
theorem dX7_digest_153 : decode cX7_digest 153 = .ok (.goto (-109), 3) := by decide +kernel
theorem dX7_digest_156 : decode cX7_digest 156 = .ok (.aload_n 0, 1) := by decide +kernel
theorem dX7_digest_157 : decode cX7_digest 157 = .ok (.invokevirtual 177, 3) := by decide +kernel
theorem dX7_digest_160 : decode cX7_digest 160 = .ok (.istore_n 3, 1) := by decide +kernel
theorem dX7_digest_161 : decode cX7_digest 161 = .ok (.iconst 0, 1) := by decide +kernel
theorem dX7_digest_162 : decode cX7_digest 162 = .ok (.istore 4, 2) := by decide +kernel
theorem dX7_digest_164 : decode cX7_digest 164 = .ok (.iload 4, 2) := by decide +kernel
theorem dX7_digest_166 : decode cX7_digest 166 = .ok (.iload_n 3, 1) := by decide +kernel
theorem dX7_digest_167 : decode cX7_digest 167 = .ok (.if_icmp .ge 29, 3) := by decide +kernel
theorem dX7_digest_170 : decode cX7_digest 170 = .ok (.ldc2_w 260, 3) := by decide +kernel
theorem dX7_digest_173 : decode cX7_digest 173 = .ok (.lload_n 1, 1) := by decide +kernel
theorem dX7_digest_174 : decode cX7_digest 174 = .ok (.lmul, 1) := by decide +kernel
theorem dX7_digest_175 : decode cX7_digest 175 = .ok (.aload_n 0, 1) := by decide +kernel
theorem dX7_digest_176 : decode cX7_digest 176 = .ok (.aload_n 0, 1) := by decide +kernel
theorem dX7_digest_177 : decode cX7_digest 177 = .ok (.getfield 38, 3) := by decide +kernel
theorem dX7_digest_180 : decode cX7_digest 180 = .ok (.iload 4, 2) := by decide +kernel
theorem dX7_digest_182 : decode cX7_digest 182 = .ok (.iaload, 1) := by decide +kernel
theorem dX7_digest_183 : decode cX7_digest 183 = .ok (.iconst 0, 1) := by decide +kernel
theorem dX7_digest_184 : decode cX7_digest 184 = .ok (.invokevirtual 49, 3) := by decide +kernel
theorem dX7_digest_187 : decode cX7_digest 187 = .ok (.i2l, 1) := by decide +kernel
theorem dX7_digest_188 : decode cX7_digest 188 = .ok (.ladd, 1) := by decide +kernel
theorem dX7_digest_189 : decode cX7_digest 189 = .ok (.lstore_n 1, 1) := by decide +kernel
theorem dX7_digest_190 : decode cX7_digest 190 = .ok (.iinc 4 1, 3) := by decide +kernel
theorem dX7_digest_193 : decode cX7_digest 193 = .ok (.goto (-29), 3) := by decide +kernel
theorem dX7_digest_196 : decode cX7_digest 196 = .ok (.ldc2_w 260, 3) := by decide +kernel
theorem dX7_digest_199 : decode cX7_digest 199 = .ok (.lload_n 1, 1) := by decide +kernel
theorem dX7_digest_200 : decode cX7_digest 200 = .ok (.lmul, 1) := by decide +kernel
theorem dX7_digest_201 : decode cX7_digest 201 = .ok (.aload_n 0, 1) := by decide +kernel
theorem dX7_digest_202 : decode cX7_digest 202 = .ok (.invokevirtual 198, 3) := by decide +kernel
theorem dX7_digest_205 : decode cX7_digest 205 = .ok (.i2l, 1) := by decide +kernel
theorem dX7_digest_206 : decode cX7_digest 206 = .ok (.ladd, 1) := by decide +kernel
theorem dX7_digest_207 : decode cX7_digest 207 = .ok (.lreturn, 1) := by decide +kernel
end
section
theorem dJx29ce0_ordinal_8abf5_0 : decode cJx29ce0_ordinal_8abf5 0 = .ok (.aload_n 0, 1) := by decide +kernel
theorem dJx29ce0_ordinal_8abf5_1 : decode cJx29ce0_ordinal_8abf5 1 = .ok (.getfield 7, 3) := by decide +kernel
theorem dJx29ce0_ordinal_8abf5_4 : decode cJx29ce0_ordinal_8abf5 4 = .ok (.ireturn, 1) := by decide +kernel
theorem dJ9_max_7cf53_0 : decode cJ9_max_7cf53 0 = .ok (.iload_n 0, 1) := by decide +kernel
theorem dJ9_max_7cf53_1 : decode cJ9_max_7cf53 1 = .ok (.iload_n 1, 1) := by decide +kernel
theorem dJ9_max_7cf53_2 : decode cJ9_max_7cf53 2 = .ok (.if_icmp .lt 7, 3) := by decide +kernel
theorem dJ9_max_7cf53_5 : decode cJ9_max_7cf53 5 = .ok (.iload_n 0, 1) := by decide +kernel
theorem dJ9_max_7cf53_6 : decode cJ9_max_7cf53 6 = .ok (.goto 4, 3) := by decide +kernel
theorem dJ9_max_7cf53_9 : decode cJ9_max_7cf53 9 = .ok (.iload_n 1, 1) := by decide +kernel
theorem dJ9_max_7cf53_10 : decode cJ9_max_7cf53 10 = .ok (.ireturn, 1) := by decide +kernel
theorem dJ9_min_7cf53_0 : decode cJ9_min_7cf53 0 = .ok (.iload_n 0, 1) := by decide +kernel
theorem dJ9_min_7cf53_1 : decode cJ9_min_7cf53 1 = .ok (.iload_n 1, 1) := by decide +kernel
theorem dJ9_min_7cf53_2 : decode cJ9_min_7cf53 2 = .ok (.if_icmp .gt 7, 3) := by decide +kernel
theorem dJ9_min_7cf53_5 : decode cJ9_min_7cf53 5 = .ok (.iload_n 0, 1) := by decide +kernel
theorem dJ9_min_7cf53_6 : decode cJ9_min_7cf53 6 = .ok (.goto 4, 3) := by decide +kernel
theorem dJ9_min_7cf53_9 : decode cJ9_min_7cf53 9 = .ok (.iload_n 1, 1) := by decide +kernel
theorem dJ9_min_7cf53_10 : decode cJ9_min_7cf53 10 = .ok (.ireturn, 1) := by decide +kernel
theorem dJ0_length_8abf5_0 : decode cJ0_length_8abf5 0 = .ok (.aload_n 0, 1) := by decide +kernel
theorem dJ0_length_8abf5_1 : decode cJ0_length_8abf5 1 = .ok (.getfield 9, 3) := by decide +kernel
theorem dJ0_length_8abf5_4 : decode cJ0_length_8abf5 4 = .ok (.arraylength, 1) := by decide +kernel
theorem dJ0_length_8abf5_5 : decode cJ0_length_8abf5 5 = .ok (.aload_n 0, 1) := by decide +kernel
theorem dJ0_length_8abf5_6 : decode cJ0_length_8abf5 6 = .ok (.invokevirtual 335, 3) := by decide +kernel
theorem dJ0_length_8abf5_9 : decode cJ0_length_8abf5 9 = .ok (.ishr, 1) := by decide +kernel
theorem dJ0_length_8abf5_10 : decode cJ0_length_8abf5 10 = .ok (.ireturn, 1) := by decide +kernel
theorem dJ0_charAt_5068e_0 : decode cJ0_charAt_5068e 0 = .ok (.aload_n 0, 1) := by decide +kernel
theorem dJ0_charAt_5068e_1 : decode cJ0_charAt_5068e 1 = .ok (.invokevirtual 492, 3) := by decide +kernel
theorem dJ0_charAt_5068e_4 : decode cJ0_charAt_5068e 4 = .ok (.ifCond .eq 12, 3) := by decide +kernel
theorem dJ0_charAt_5068e_7 : decode cJ0_charAt_5068e 7 = .ok (.aload_n 0, 1) := by decide +kernel
theorem dJ0_charAt_5068e_8 : decode cJ0_charAt_5068e 8 = .ok (.getfield 9, 3) := by decide +kernel
theorem dJ0_charAt_5068e_11 : decode cJ0_charAt_5068e 11 = .ok (.iload_n 1, 1) := by decide +kernel
theorem dJ0_charAt_5068e_12 : decode cJ0_charAt_5068e 12 = .ok (.invokestatic 495, 3) := by decide +kernel
theorem dJ0_charAt_5068e_15 : decode cJ0_charAt_5068e 15 = .ok (.ireturn, 1) := by decide +kernel
theorem dJ0_charAt_5068e_16 : decode cJ0_charAt_5068e 16 = .ok (.aload_n 0, 1) := by decide +kernel
theorem dJ0_charAt_5068e_17 : decode cJ0_charAt_5068e 17 = .ok (.getfield 9, 3) := by decide +kernel
theorem dJ0_charAt_5068e_20 : decode cJ0_charAt_5068e 20 = .ok (.iload_n 1, 1) := by decide +kernel
theorem dJ0_charAt_5068e_21 : decode cJ0_charAt_5068e 21 = .ok (.invokestatic 498, 3) := by decide +kernel
theorem dJ0_charAt_5068e_24 : decode cJ0_charAt_5068e 24 = .ok (.ireturn, 1) := by decide +kernel
theorem dJ0_coder_7d493_0 : decode cJ0_coder_7d493 0 = .ok (.getstatic 38, 3) := by decide +kernel
theorem dJ0_coder_7d493_3 : decode cJ0_coder_7d493 3 = .ok (.ifCond .eq 10, 3) := by decide +kernel
theorem dJ0_coder_7d493_6 : decode cJ0_coder_7d493 6 = .ok (.aload_n 0, 1) := by decide +kernel
theorem dJ0_coder_7d493_7 : decode cJ0_coder_7d493 7 = .ok (.getfield 15, 3) := by decide +kernel
theorem dJ0_coder_7d493_10 : decode cJ0_coder_7d493 10 = .ok (.goto 4, 3) := by decide +kernel
theorem dJ0_coder_7d493_13 : decode cJ0_coder_7d493 13 = .ok (.iconst 1, 1) := by decide +kernel
theorem dJ0_coder_7d493_14 : decode cJ0_coder_7d493 14 = .ok (.ireturn, 1) := by decide +kernel
theorem dJ0_isLatin1_aae02_0 : decode cJ0_isLatin1_aae02 0 = .ok (.getstatic 38, 3) := by decide +kernel
theorem dJ0_isLatin1_aae02_3 : decode cJ0_isLatin1_aae02 3 = .ok (.ifCond .eq 14, 3) := by decide +kernel
theorem dJ0_isLatin1_aae02_6 : decode cJ0_isLatin1_aae02 6 = .ok (.aload_n 0, 1) := by decide +kernel
theorem dJ0_isLatin1_aae02_7 : decode cJ0_isLatin1_aae02 7 = .ok (.getfield 15, 3) := by decide +kernel
theorem dJ0_isLatin1_aae02_10 : decode cJ0_isLatin1_aae02 10 = .ok (.ifCond .ne 7, 3) := by decide +kernel
theorem dJ0_isLatin1_aae02_13 : decode cJ0_isLatin1_aae02 13 = .ok (.iconst 1, 1) := by decide +kernel
theorem dJ0_isLatin1_aae02_14 : decode cJ0_isLatin1_aae02 14 = .ok (.goto 4, 3) := by decide +kernel
theorem dJ0_isLatin1_aae02_17 : decode cJ0_isLatin1_aae02 17 = .ok (.iconst 0, 1) := by decide +kernel
theorem dJ0_isLatin1_aae02_18 : decode cJ0_isLatin1_aae02 18 = .ok (.ireturn, 1) := by decide +kernel
theorem dJ0_checkIndex_df160_0 : decode cJ0_checkIndex_df160 0 = .ok (.iload_n 0, 1) := by decide +kernel
theorem dJ0_checkIndex_df160_1 : decode cJ0_checkIndex_df160 1 = .ok (.iload_n 1, 1) := by decide +kernel
theorem dJ0_checkIndex_df160_2 : decode cJ0_checkIndex_df160 2 = .ok (.getstatic 1053, 3) := by decide +kernel
theorem dJ0_checkIndex_df160_5 : decode cJ0_checkIndex_df160 5 = .ok (.invokestatic 1059, 3) := by decide +kernel
theorem dJ0_checkIndex_df160_8 : decode cJ0_checkIndex_df160 8 = .ok (.pop, 1) := by decide +kernel
theorem dJ0_checkIndex_df160_9 : decode cJ0_checkIndex_df160 9 = .ok (.return_, 1) := by decide +kernel
theorem dJ1_charAt_3b067_0 : decode cJ1_charAt_3b067 0 = .ok (.iload_n 1, 1) := by decide +kernel
theorem dJ1_charAt_3b067_1 : decode cJ1_charAt_3b067 1 = .ok (.aload_n 0, 1) := by decide +kernel
theorem dJ1_charAt_3b067_2 : decode cJ1_charAt_3b067 2 = .ok (.arraylength, 1) := by decide +kernel
theorem dJ1_charAt_3b067_3 : decode cJ1_charAt_3b067 3 = .ok (.invokestatic 9, 3) := by decide +kernel
theorem dJ1_charAt_3b067_6 : decode cJ1_charAt_3b067 6 = .ok (.aload_n 0, 1) := by decide +kernel
theorem dJ1_charAt_3b067_7 : decode cJ1_charAt_3b067 7 = .ok (.iload_n 1, 1) := by decide +kernel
theorem dJ1_charAt_3b067_8 : decode cJ1_charAt_3b067 8 = .ok (.baload, 1) := by decide +kernel
theorem dJ1_charAt_3b067_9 : decode cJ1_charAt_3b067 9 = .ok (.sipush 255, 3) := by decide +kernel
theorem dJ1_charAt_3b067_12 : decode cJ1_charAt_3b067 12 = .ok (.iand, 1) := by decide +kernel
theorem dJ1_charAt_3b067_13 : decode cJ1_charAt_3b067 13 = .ok (.i2c, 1) := by decide +kernel
theorem dJ1_charAt_3b067_14 : decode cJ1_charAt_3b067 14 = .ok (.ireturn, 1) := by decide +kernel
theorem dJ2_getChar_3b067_0 : decode cJ2_getChar_3b067 0 = .ok (.getstatic 44, 3) := by decide +kernel
theorem dJ2_getChar_3b067_3 : decode cJ2_getChar_3b067 3 = .ok (.ifCond .ne 25, 3) := by decide +kernel
theorem dJ2_getChar_3b067_6 : decode cJ2_getChar_3b067 6 = .ok (.iload_n 1, 1) := by decide +kernel
theorem dJ2_getChar_3b067_7 : decode cJ2_getChar_3b067 7 = .ok (.ifCond .lt 11, 3) := by decide +kernel
theorem dJ2_getChar_3b067_10 : decode cJ2_getChar_3b067 10 = .ok (.iload_n 1, 1) := by decide +kernel
theorem dJ2_getChar_3b067_11 : decode cJ2_getChar_3b067 11 = .ok (.aload_n 0, 1) := by decide +kernel
theorem dJ2_getChar_3b067_12 : decode cJ2_getChar_3b067 12 = .ok (.invokestatic 48, 3) := by decide +kernel
theorem dJ2_getChar_3b067_15 : decode cJ2_getChar_3b067 15 = .ok (.if_icmp .lt 13, 3) := by decide +kernel
theorem dJ2_getChar_3b067_18 : decode cJ2_getChar_3b067 18 = .ok (.new 52, 3) := by decide +kernel
theorem dJ2_getChar_3b067_21 : decode cJ2_getChar_3b067 21 = .ok (.dup, 1) := by decide +kernel
theorem dJ2_getChar_3b067_22 : decode cJ2_getChar_3b067 22 = .ok (.ldc 54, 2) := by decide +kernel
theorem dJ2_getChar_3b067_24 : decode cJ2_getChar_3b067 24 = .ok (.invokespecial 56, 3) := by decide +kernel
theorem dJ2_getChar_3b067_27 : decode cJ2_getChar_3b067 27 = .ok (.athrow, 1) := by decide +kernel
theorem dJ2_getChar_3b067_28 : decode cJ2_getChar_3b067 28 = .ok (.iload_n 1, 1) := by decide +kernel
theorem dJ2_getChar_3b067_29 : decode cJ2_getChar_3b067 29 = .ok (.iconst 1, 1) := by decide +kernel
theorem dJ2_getChar_3b067_30 : decode cJ2_getChar_3b067 30 = .ok (.ishl, 1) := by decide +kernel
theorem dJ2_getChar_3b067_31 : decode cJ2_getChar_3b067 31 = .ok (.istore_n 1, 1) := by decide +kernel
theorem dJ2_getChar_3b067_32 : decode cJ2_getChar_3b067 32 = .ok (.aload_n 0, 1) := by decide +kernel
theorem dJ2_getChar_3b067_33 : decode cJ2_getChar_3b067 33 = .ok (.iload_n 1, 1) := by decide +kernel
theorem dJ2_getChar_3b067_34 : decode cJ2_getChar_3b067 34 = .ok (.iinc 1 1, 3) := by decide +kernel
theorem dJ2_getChar_3b067_37 : decode cJ2_getChar_3b067 37 = .ok (.baload, 1) := by decide +kernel
theorem dJ2_getChar_3b067_38 : decode cJ2_getChar_3b067 38 = .ok (.sipush 255, 3) := by decide +kernel
theorem dJ2_getChar_3b067_41 : decode cJ2_getChar_3b067 41 = .ok (.iand, 1) := by decide +kernel
theorem dJ2_getChar_3b067_42 : decode cJ2_getChar_3b067 42 = .ok (.getstatic 59, 3) := by decide +kernel
theorem dJ2_getChar_3b067_45 : decode cJ2_getChar_3b067 45 = .ok (.ishl, 1) := by decide +kernel
theorem dJ2_getChar_3b067_46 : decode cJ2_getChar_3b067 46 = .ok (.aload_n 0, 1) := by decide +kernel
theorem dJ2_getChar_3b067_47 : decode cJ2_getChar_3b067 47 = .ok (.iload_n 1, 1) := by decide +kernel
theorem dJ2_getChar_3b067_48 : decode cJ2_getChar_3b067 48 = .ok (.baload, 1) := by decide +kernel
theorem dJ2_getChar_3b067_49 : decode cJ2_getChar_3b067 49 = .ok (.sipush 255, 3) := by decide +kernel
theorem dJ2_getChar_3b067_52 : decode cJ2_getChar_3b067 52 = .ok (.iand, 1) := by decide +kernel
theorem dJ2_getChar_3b067_53 : decode cJ2_getChar_3b067 53 = .ok (.getstatic 63, 3) := by decide +kernel
theorem dJ2_getChar_3b067_56 : decode cJ2_getChar_3b067 56 = .ok (.ishl, 1) := by decide +kernel
theorem dJ2_getChar_3b067_57 : decode cJ2_getChar_3b067 57 = .ok (.ior, 1) := by decide +kernel
theorem dJ2_getChar_3b067_58 : decode cJ2_getChar_3b067 58 = .ok (.i2c, 1) := by decide +kernel
theorem dJ2_getChar_3b067_59 : decode cJ2_getChar_3b067 59 = .ok (.ireturn, 1) := by decide +kernel
theorem dJ2_length_9d52b_0 : decode cJ2_length_9d52b 0 = .ok (.aload_n 0, 1) := by decide +kernel
theorem dJ2_length_9d52b_1 : decode cJ2_length_9d52b 1 = .ok (.arraylength, 1) := by decide +kernel
theorem dJ2_length_9d52b_2 : decode cJ2_length_9d52b 2 = .ok (.iconst 1, 1) := by decide +kernel
theorem dJ2_length_9d52b_3 : decode cJ2_length_9d52b 3 = .ok (.ishr, 1) := by decide +kernel
theorem dJ2_length_9d52b_4 : decode cJ2_length_9d52b 4 = .ok (.ireturn, 1) := by decide +kernel
theorem dJ2_charAt_3b067_0 : decode cJ2_charAt_3b067 0 = .ok (.iload_n 1, 1) := by decide +kernel
theorem dJ2_charAt_3b067_1 : decode cJ2_charAt_3b067 1 = .ok (.aload_n 0, 1) := by decide +kernel
theorem dJ2_charAt_3b067_2 : decode cJ2_charAt_3b067 2 = .ok (.invokestatic 67, 3) := by decide +kernel
theorem dJ2_charAt_3b067_5 : decode cJ2_charAt_3b067 5 = .ok (.aload_n 0, 1) := by decide +kernel
theorem dJ2_charAt_3b067_6 : decode cJ2_charAt_3b067 6 = .ok (.iload_n 1, 1) := by decide +kernel
theorem dJ2_charAt_3b067_7 : decode cJ2_charAt_3b067 7 = .ok (.invokestatic 71, 3) := by decide +kernel
theorem dJ2_charAt_3b067_10 : decode cJ2_charAt_3b067 10 = .ok (.ireturn, 1) := by decide +kernel
theorem dJ2_checkIndex_2214a_0 : decode cJ2_checkIndex_2214a 0 = .ok (.iload_n 0, 1) := by decide +kernel
theorem dJ2_checkIndex_2214a_1 : decode cJ2_checkIndex_2214a 1 = .ok (.aload_n 1, 1) := by decide +kernel
theorem dJ2_checkIndex_2214a_2 : decode cJ2_checkIndex_2214a 2 = .ok (.invokestatic 48, 3) := by decide +kernel
theorem dJ2_checkIndex_2214a_5 : decode cJ2_checkIndex_2214a 5 = .ok (.invokestatic 414, 3) := by decide +kernel
theorem dJ2_checkIndex_2214a_8 : decode cJ2_checkIndex_2214a 8 = .ok (.return_, 1) := by decide +kernel
theorem dJ3_checkIndex_8e157_0 : decode cJ3_checkIndex_8e157 0 = .ok (.iload_n 0, 1) := by decide +kernel
theorem dJ3_checkIndex_8e157_1 : decode cJ3_checkIndex_8e157 1 = .ok (.ifCond .lt 8, 3) := by decide +kernel
theorem dJ3_checkIndex_8e157_4 : decode cJ3_checkIndex_8e157 4 = .ok (.iload_n 0, 1) := by decide +kernel
theorem dJ3_checkIndex_8e157_5 : decode cJ3_checkIndex_8e157 5 = .ok (.iload_n 1, 1) := by decide +kernel
theorem dJ3_checkIndex_8e157_6 : decode cJ3_checkIndex_8e157 6 = .ok (.if_icmp .lt 10, 3) := by decide +kernel
theorem dJ3_checkIndex_8e157_9 : decode cJ3_checkIndex_8e157 9 = .ok (.aload_n 2, 1) := by decide +kernel
theorem dJ3_checkIndex_8e157_10 : decode cJ3_checkIndex_8e157 10 = .ok (.iload_n 0, 1) := by decide +kernel
theorem dJ3_checkIndex_8e157_11 : decode cJ3_checkIndex_8e157 11 = .ok (.iload_n 1, 1) := by decide +kernel
theorem dJ3_checkIndex_8e157_12 : decode cJ3_checkIndex_8e157 12 = .ok (.invokestatic 95, 3) := by decide +kernel
theorem dJ3_checkIndex_8e157_15 : decode cJ3_checkIndex_8e157 15 = .ok (.athrow, 1) := by decide +kernel
theorem dJ3_checkIndex_8e157_16 : decode cJ3_checkIndex_8e157 16 = .ok (.iload_n 0, 1) := by decide +kernel
theorem dJ3_checkIndex_8e157_17 : decode cJ3_checkIndex_8e157 17 = .ok (.ireturn, 1) := by decide +kernel
end
section
/-! ===== abstract values, worlds and methods ===== -/
abbrev zV : Type := Int ⊕ (Int ⊕ Option Nat)
abbrev zi (x : Int) : zV := Sum.inl x
abbrev zl (x : Int) : zV := Sum.inr (Sum.inl x)
abbrev zr (x : Option Nat) : zV := Sum.inr (Sum.inr x)
def zc (ad : Nat → Nat) (v : zV) : Value := match v with
  | .inl x => .int (Int32.ofInt x)
  | .inr (.inl x) => .long (Int64.ofInt x)
  | .inr (.inr r) => va_rf (r.map ad)
def zin (x : Int) : Prop := -2147483648 ≤ x ∧ x ≤ 2147483647
def zinL (x : Int) : Prop := -9223372036854775808 ≤ x ∧ x ≤ 9223372036854775807
def zok (v : zV) : Prop := match v with
  | .inl x => zin x
  | .inr (.inl x) => zinL x
  | .inr (.inr _) => True
def zcat (v : zV) : Nat := match v with
  | .inl _ => 1
  | .inr (.inl _) => 2
  | .inr (.inr _) => 1
theorem zc_cat (ad : Nat → Nat) (v : zV) : (zc ad v).category = zcat v := by
  rcases v with x | x | r
  · rfl
  · rfl
  · cases r <;> rfl
/-- the heap: kinds (class 0-4, arrays: 5 int, 6 boolean, 7 Node, 8 Tree, 9 long; with the length), whole numbers, references -/
abbrev zH : Type := List (Nat × Nat) × ((Nat → Int → Int) × (Nat → Int → Option Nat))
def zNf (c : Nat) : Nat := match c with
  | 0 => 5
  | 1 => 15
  | 2 => 5
  | 3 => 4
  | _ => 15
def zRf (c k : Nat) : Bool := match c with
  | 0 => k == 0 || k == 2
  | 1 => k == 6 || k == 7 || k == 14
  | 2 => k == 0 || k == 1
  | 3 => k == 0 || k == 1 || k == 3
  | _ => !(k == 1 || k == 2 || k == 4 || k == 11 || k == 12)
def zfl (ad : Nat → Nat) (c : Nat) (I : Int → Int) (R : Int → Option Nat) : List Value :=
  (List.range (zNf c)).map fun k => if zRf c k = true then va_rf ((R (k : Nat)).map ad) else .int (Int32.ofInt (I (k : Nat)))
def zE (cy : Nat → ClassId) (ad : Nat → Nat) (kd : Nat × Nat) (I : Int → Int) (R : Int → Option Nat) : va_E :=
  if kd.1 = 5 then .inl (cy 5, kd.2, .inl fun j => Int32.ofInt (I (j : Nat)))
  else if kd.1 = 6 then .inl (cy 6, kd.2, .inl fun j => Int32.ofInt (I (j : Nat)))
  else if kd.1 = 7 then .inl (cy 7, kd.2, .inr (.inr (.inr (.inr fun j => (R (j : Nat)).map ad))))
  else if kd.1 = 8 then .inl (cy 8, kd.2, .inr (.inr (.inr (.inr fun j => (R (j : Nat)).map ad))))
  else if kd.1 = 9 then .inl (cy 9, kd.2, .inr (.inl fun j => Int64.ofInt (I (j : Nat))))
  else .inr (kd.1, zfl ad kd.1 I R)
def zws (cy : Nat → ClassId) (ad : Nat → Nat) (h : zH) : va_W := (List.range h.1.length).map fun i => (ad i, zE cy ad (h.1.getD i (0, 0)) (h.2.1 i) (h.2.2 i))
theorem zws_get {cy : Nat → ClassId} {ad : Nat → Nat} {h : zH} {i : Nat} {kd : Nat × Nat} (hk : h.1[i]? = some kd) : (zws cy ad h)[i]? = some (ad i, zE cy ad kd (h.2.1 i) (h.2.2 i)) := by
  obtain ⟨hl, he⟩ := List.getElem?_eq_some_iff.mp hk
  simp [zws, hl, he]
theorem zws_len {cy : Nat → ClassId} {ad : Nat → Nat} {h : zH} : (zws cy ad h).length = h.1.length := by simp [zws]
theorem zws_inv {cy : Nat → ClassId} {ad : Nat → Nat} {h : zH} {i : Nat} {q : Nat × va_E} (hk : (zws cy ad h)[i]? = some q) : i < h.1.length ∧ q = (ad i, zE cy ad (h.1.getD i (0, 0)) (h.2.1 i) (h.2.2 i)) := by
  simp only [zws, List.getElem?_map] at hk
  cases hr : (List.range h.1.length)[i]? with
  | none => rw [hr] at hk; simp at hk
  | some j =>
    rw [hr] at hk
    obtain ⟨hl, he⟩ := List.getElem?_eq_some_iff.mp hr
    simp at hl he hk
    subst he
    exact ⟨hl, hk.symm⟩
def zup {α : Type} (f : Nat → Int → α) (o : Nat) (k : Int) (v : α) : Nat → Int → α := fun o' k' => if o' = o ∧ k' = k then v else f o' k'
theorem zup_s {α : Type} (f : Nat → Int → α) (o : Nat) (k : Int) (v : α) : zup f o k v o k = v := by simp [zup]
theorem zup_o {α : Type} (f : Nat → Int → α) {o o' : Nat} (k k' : Int) (v : α) (h : o' ≠ o) : zup f o k v o' k' = f o' k' := by simp [zup, h]
theorem zup_k {α : Type} (f : Nat → Int → α) (o o' : Nat) {k k' : Int} (v : α) (h : k' ≠ k) : zup f o k v o' k' = f o' k' := by simp [zup, h]
theorem zws_set {cy : Nat → ClassId} {ad : Nat → Nat} {K : List (Nat × Nat)} {I I' : Nat → Int → Int} {R R' : Nat → Int → Option Nat} {o : Nat} {kd : Nat × Nat} (hk : K[o]? = some kd) (hI : ∀ i, i ≠ o → I' i = I i) (hR : ∀ i, i ≠ o → R' i = R i) :
    zws cy ad (K, I', R') = (zws cy ad (K, I, R)).set o (ad o, zE cy ad kd (I' o) (R' o)) := by
  obtain ⟨hl, he⟩ := List.getElem?_eq_some_iff.mp hk
  refine List.ext_getElem? fun i => ?_
  by_cases hi : i = o
  · subst hi
    rw [zws_get (h := (K, I', R')) hk, List.getElem?_set_self (by rw [zws_len]; exact hl)]
  · rw [List.getElem?_set_ne (fun h => hi h.symm)]
    by_cases h2 : i < K.length
    · rw [zws_get (h := (K, I', R')) (List.getElem?_eq_getElem h2), zws_get (h := (K, I, R)) (List.getElem?_eq_getElem h2)]
      simp only [hI i hi, hR i hi]
    · rw [List.getElem?_eq_none (by rw [zws_len]; exact Nat.le_of_not_lt h2), List.getElem?_eq_none (by rw [zws_len]; exact Nat.le_of_not_lt h2)]
/-- a method: name, code, its locals, what it returns, its handlers, its room -/
abbrev zM : Type := MethodName × ByteArray × Nat × Option FieldType × List (Nat × Nat × Nat × Nat) × Room
abbrev zname (y : zM) : MethodName := y.1
abbrev zcode (y : zM) : ByteArray := y.2.1
abbrev zmax (y : zM) : Nat := y.2.2.1
abbrev zret (y : zM) : Option FieldType := y.2.2.2.1
abbrev zhh (y : zM) : List (Nat × Nat × Nat × Nat) := y.2.2.2.2.1
abbrev zroom (y : zM) : Room := y.2.2.2.2.2
def zgw : List Cond := lw_tbl.filter goodWord
theorem zgw_in {w : Cond} (h : w ∈ lw_tbl) (g : goodWord w = true) : w ∈ zgw := List.mem_filter.mpr ⟨h, g⟩
def zword (y : zM) : Cond := match zhh y with
  | [] => .code (zname y) (zcode y) (zmax y) (zret y)
  | hh => .codeWith (zname y) (zcode y) (zmax y) (zret y) hh
def zwsM (y : zM) : List Cond := zword y :: zgw
def zTy (cy : Nat → ClassId) : List (ClassId × FieldType) := [(cy 5, .int), (cy 6, .boolean), (cy 7, .object "SlackRows$Node"), (cy 8, .object "SlackRows$Tree"), (cy 9, .long)]
abbrev zO : Type := (Option zV ⊕ Nat) × zH
def zEx (k : Nat) : String := match k with
  | 0 => "java/lang/IndexOutOfBoundsException"
  | 1 => "java/lang/IllegalArgumentException"
  | _ => "java/lang/IllegalStateException"
/-- the cells of a world, at a state and its heap -/
def zWh (D : va_G) (cy : Nat → ClassId) (ad : Nat → Nat) (A : Nat → Prop) (h : zH) (U : State) (H : Heap) : Prop :=
  va_P D vwCl (zws cy ad h) H ∧ va_D A (zws cy ad h) ∧ va_K D vwCl (zTy cy) U ∧ h.1.length ≤ 4096 ∧ ∀ o k, zin (h.2.1 o k)
def zNestM : List (String × Nat × MethodName × String) := [("SlackRows", 9, yX2_init, "SlackRows"), ("SlackRows$Tree", 30, yX3_init, "SlackRows"), ("SlackRows$CommandText", 58, yX6_isBetween, "SlackRows"), ("SlackRows$Tree", 113, yX6_isBetween, "SlackRows"), ("SlackRows$Tree", 266, yX6_mix, "SlackRows")]
def zMsg : List (Nat × String) := [(172, "there is no such node"), (181, "a number is out of range"), (206, "the tree does not allow this"), (190, "the node is no group"), (184, "a number is negative"), (192, "the node is no task"), (130, "the command text is full"), (147, "the undo stack is empty")]
def zDecl : List MethodName := [⟨"java/lang/Exception", "<init>", "()V"⟩, ⟨"java/lang/Exception", "<init>", "(Ljava/lang/String;)V"⟩, ⟨"java/lang/RuntimeException", "<init>", "()V"⟩, ⟨"java/lang/RuntimeException", "<init>", "(Ljava/lang/String;)V"⟩, ⟨"java/lang/Throwable", "<init>", "()V"⟩, ⟨"java/lang/Throwable", "<init>", "(Ljava/lang/String;)V"⟩]
def zCmd : List String := ["GROUP", "TASK", "LAST", "BORROW", "BACK", "MOVE", "DROP", "UNTIL"]
def zRef : List String := ["NOT", "NO_NODE", "OUT_OF_RANGE", "IMPOSSIBLE"]
def zNumC : List Int := [2, 3, 2, 2, 2, 3, 1, 1]
def zSw : List Int := [1, 2, 4, 5, 6, 3, 7, 0]
def zWlen : List Nat := [5, 4, 4, 6, 4, 4, 4, 5]
def zWbyt : List (List Int32) := [[103, 114, 111, 117, 112], [116, 97, 115, 107], [108, 97, 115, 116], [98, 111, 114, 114, 111, 119], [98, 97, 99, 107], [109, 111, 118, 101], [100, 114, 111, 112], [117, 110, 116, 105, 108]]
/-- what stands outside the worlds and is never written; objects by numbers from 4096 on -/
def zSt (ad : Nat → Nat) (J : Nat → Int → Int) (A : Nat → Prop) (U : State) (H : Heap) : Prop :=
  (∀ q ∈ zNestM, va_Nw (.methodLinkNest q.1 q.2.1 q.2.2.1 q.2.2.2) U) ∧
  va_Nw (.fieldLinkNest "SlackRows$CommandText" 65 "SlackRows" "COMMANDS" "[LSlackRows$Command;" "SlackRows") U ∧
  ((∀ k, k < 3 → va_Nw (.castable (zEx k) (zEx k)) U) ∧ ∀ x ∈ zDecl, va_Nw (.declares x) U) ∧
  (∀ j k, j < 3 → k < 3 → j ≠ k → va_Nc (zEx j) (zEx k) U) ∧
  (va_AO "SlackRows$Tree" U ∧ va_AO "SlackRows$Node" U) ∧
  va_En "SlackRows$Command" "LSlackRows$Command;" zCmd [("java/lang/Enum", "ordinal", "I", [0, 1, 2, 3, 4, 5, 6, 7]), ("SlackRows$Command", "numberCount", "I", [2, 3, 2, 2, 2, 3, 1, 1])] (fun i => ad (4096 + i)) A U H ∧
  va_En "SlackRows$Refusal" "LSlackRows$Refusal;" zRef [] (fun i => ad (4104 + i)) A U H ∧
  (va_Z "SlackRows" "COMMANDS" "[LSlackRows$Command;" (.ref (ad 4108)) A U H ∧ va_T (.object "SlackRows$Command") (ad 4108) 8 (fun j => .ref (ad (4096 + j))) A U H) ∧
  (va_Z "SlackRows$1" "$SwitchMap$SlackRows$Command" "[I" (.ref (ad 4109)) A U H ∧ va_T .int (ad 4109) 8 (fun j => .int (Int32.ofInt (zSw.getD j 0))) A U H) ∧
  va_Ef 8 "SlackRows$Command" "word" "Ljava/lang/String;" (fun i => .ref (ad (4110 + i))) (fun i => ad (4096 + i)) A U H ∧
  vk_S 8 zWlen zWbyt (fun i => ad (4110 + i)) (fun i => ad (4120 + i)) A U H ∧
  va_Z "java/lang/String" "COMPACT_STRINGS" "Z" (.int 1) A U H ∧
  (vx_Zq Bundle.tN "UNASSIGNED_STACK" Bundle.steD A U H ∧ vx_Zq Bundle.tN "SUPPRESSED_SENTINEL" Bundle.listD A U H) ∧
  (∀ q ∈ zMsg, ∃ a, vk_R "SlackRows" q.1 q.2 a U) ∧
  ((J 4131 0).toNat < 2147483648 ∧ va_T .int (ad 4130) (J 4131 0).toNat (fun j => .int (Int32.ofInt (J 4130 (j : Nat)))) A U H)
theorem zSt.to {ad ad' : Nat → Nat} {J : Nat → Int → Int} {A A' : Nat → Prop} {s U : State} {H : Heap} (h : zSt ad J A s s.heap) (had : ∀ i, 4096 ≤ i → ad' i = ad i) (hW : s.WarmedH U.vm) (hq : ∀ a : Nat, a < s.heap.size → ¬ A a → H[a]? = s.heap[a]?) (hA : ∀ q, A' q → A q) : zSt ad' J A' U H := by
  have hvm : s.vm.Alike U.vm := hW.alike
  obtain ⟨h1, h2, ⟨h3, h3'⟩, h4, ⟨h5, h5'⟩, h6, h7, ⟨h8, h8'⟩, ⟨h9, h9'⟩, h10, h11, h12, ⟨h13, h13'⟩, h14, h15, h15'⟩ := h
  have e1 : (fun i => ad' (4096 + i)) = fun i => ad (4096 + i) := funext fun i => had _ (by omega)
  have e2 : (fun i => ad' (4104 + i)) = fun i => ad (4104 + i) := funext fun i => had _ (by omega)
  have e3 : (fun i => ad' (4110 + i)) = fun i => ad (4110 + i) := funext fun i => had _ (by omega)
  have e4 : (fun i => ad' (4120 + i)) = fun i => ad (4120 + i) := funext fun i => had _ (by omega)
  have e5 : (fun i => Value.ref (ad' (4110 + i))) = fun i => Value.ref (ad (4110 + i)) := funext fun i => by rw [had _ (by omega)]
  have e6 : (fun i => Value.ref (ad' (4096 + i))) = fun i => Value.ref (ad (4096 + i)) := funext fun i => by rw [had _ (by omega)]
  unfold zSt
  rw [e1, e2, e3, e4, e5, e6, had 4108 (by omega), had 4109 (by omega), had 4130 (by omega)]
  refine ⟨fun q hq1 => (h1 q hq1).warmM hW, h2.warmF hW, ⟨fun k hk => (h3 k hk).warmC hW, fun x hx => (h3' x hx).warmD hW⟩, fun j k hj hk hjk => (h4 j k hj hk hjk).moved hvm, ⟨h5.moved hvm, h5'.moved hvm⟩, ((h6.kept hq).narrow hA).moved hvm, ((h7.kept hq).narrow hA).moved hvm, ⟨((h8.kept hq).narrow hA).moved hvm, ((h8'.kept hq).narrow hA).moved hvm⟩, ⟨((h9.kept hq).narrow hA).moved hvm, ((h9'.kept hq).narrow hA).moved hvm⟩, ((h10.kept hq).narrow hA).moved hvm, ((h11.kept hq).narrow hA).moved hvm, ((h12.kept hq).narrow hA).moved hvm, ⟨((h13.kept hq).narrow hA).moved hvm, ((h13'.kept hq).narrow hA).moved hvm⟩, fun q hq1 => ?_, h15, ((h15'.kept hq).narrow hA).moved hvm⟩
  obtain ⟨a, ha⟩ := h14 q hq1
  exact ⟨a, ha.warm hW⟩
/-! ===== a method's walk, in these words ===== -/
def zCx (l : Launch) (p : Program) (y : zM) (s : State) (m : MethodId) (args : Array Value) (meth : Method) (c : Code) (A : Nat → Prop) : Prop :=
  l.stackTraces = false ∧ p.tables.exec = Jvm.exec ∧ c.code = zcode y ∧ c.maxLocals = zmax y ∧ meth.sig.returnType = zret y ∧ s.vm.findClass (zname y).cls = some m.cls ∧ (∀ w ∈ zgw, w.before args s = true) ∧ meth.locks = false ∧ c.exceptionTable.toList = tableOf (zhh y) ∧ meth.name = (zname y).name ∧ ∀ q, s.heap.size ≤ q → A q
/-- references lead to what is there -/
def zvd (K : Nat) (v : zV) : Prop := match v with
  | .inl _ => True
  | .inr (.inl _) => True
  | .inr (.inr r) => ∀ x, r = some x → x < K ∨ 4096 ≤ x
def zgo (K : Nat) (v : zV) : Prop := zok v ∧ zvd K v
def zhvd (h : zH) : Prop := ∀ o k x, h.2.2 o k = some x → x < h.1.length ∨ 4096 ≤ x
def zWl (D : va_G) (cy : Nat → ClassId) (A : Nat → Prop) (ad0 : Nat → Nat) (k0 : Nat) (J : Nat → Int → Int) (ad : Nat → Nat) (h : zH) (s : State) (H : Heap) (locs : List Loc) : Prop :=
  zWh D cy ad A h s H ∧ va_S A s.heap H locs ∧ (∀ i, i < k0 ∨ 4096 ≤ i → ad i = ad0 i) ∧ k0 ≤ h.1.length ∧ (∀ i, 4096 ≤ i → h.2.1 i = J i) ∧ zhvd h
def zEnd (D : va_G) (cy : Nat → ClassId) (A : Nat → Prop) (ad0 : Nat → Nat) (k0 : Nat) (J : Nat → Int → Int) (h : zH) (ad' : Nat → Nat) (st t : State) : Prop :=
  (∀ i, i < k0 ∨ 4096 ≤ i → ad' i = ad0 i) ∧ zWh D cy ad' A h t t.heap ∧ k0 ≤ h.1.length ∧ (∀ i, 4096 ≤ i → h.2.1 i = J i) ∧ zhvd h ∧ va_F A st t
def zQc (D : va_G) (cy : Nat → ClassId) (A : Nat → Prop) (ad0 : Nat → Nat) (k0 : Nat) (J : Nat → Int → Int) (o : zO) : Array Value → State → Outcome → State → Prop := fun _ st oc t =>
  ∃ (v : Option zV) (ad' : Nat → Nat), o.1 = .inl v ∧ oc = .returned (v.map (zc ad')) ∧ (∀ w, v = some w → zgo o.2.1.length w) ∧ zEnd D cy A ad0 k0 J o.2 ad' st t
def zXC (D : va_G) (cy : Nat → ClassId) (A : Nat → Prop) (ad0 : Nat → Nat) (k0 : Nat) (J : Nat → Int → Int) (o : zO) : String → State → State → Prop := fun E st t =>
  ∃ (k : Nat) (ad' : Nat → Nat), o.1 = .inr k ∧ k < 3 ∧ E = zEx k ∧ zEnd D cy A ad0 k0 J o.2 ad' st t
def zQ (below : List Frame) (args : Array Value) (s : State) (y : zM) (D : va_G) (cy : Nat → ClassId) (A : Nat → Prop) (ad0 : Nat → Nat) (k0 : Nat) (J : Nat → Int → Int) (o : zO) : State → Prop :=
  vx_MQ below (zQc D cy A ad0 k0 J o) (zXC D cy A ad0 k0 J o) args s (zroom y).cells (zroom y).slots A
abbrev zLs (ad : Nat → Nat) (L : List (Nat × zV)) : List (Nat × Value) := L.map fun q => (q.1, zc ad q.2)
/-- from here, with these locals, this stack, this heap and so much room used, the method comes to the outcome o -/
def Ev (y : zM) (pc : Nat) (L : List (Nat × zV)) (stk : List zV) (h : zH) (n : Nat × Nat) (o : zO) : Prop :=
  ∀ (l : Launch) (p : Program) (e : Env) (s : State) (m : MethodId) (args : Array Value) (below : List Frame) (meth : Method) (c : Code) (D : va_G) (cy : Nat → ClassId) (A : Nat → Prop) (ad0 : Nat → Nat) (k0 : Nat) (J : Nat → Int → Int) (ad : Nat → Nat) (H : Heap) (locs : List Loc) (ls : Array Slot),
    zCx l p y s m args meth c A → zSt ad0 J A s s.heap → zWl D cy A ad0 k0 J ad h s H locs → lv_has ls (zmax y) (zLs ad L) → (∀ q ∈ L, zgo h.1.length q.2) → (∀ v ∈ stk, zgo h.1.length v) →
    W p l e (zroom y) s m args below meth c H locs n.1 n.2 (zQ below args s y D cy A ad0 k0 J o) (F0 m pc ls (stk.map (zc ad)))
/-! whole numbers -/
theorem zI_toInt {x : Int} (h : zin x) : (Int32.ofInt x).toInt = x := by
  obtain ⟨h1, h2⟩ := h
  rw [Int32.toInt_ofInt]
  have e : ((Int32.size : Nat) : Int) = 4294967296 := rfl
  exact Int.bmod_eq_of_le (by omega) (by omega)
theorem zL_toInt {x : Int} (h : zinL x) : (Int64.ofInt x).toInt = x := by
  obtain ⟨h1, h2⟩ := h
  rw [Int64.toInt_ofInt]
  have e : ((Int64.size : Nat) : Int) = 18446744073709551616 := rfl
  exact Int.bmod_eq_of_le (by omega) (by omega)
theorem zI_of (x : Int32) : Int32.ofInt x.toInt = x := Int32.ofInt_toInt x
theorem zI_in (x : Int32) : zin x.toInt := ⟨by have := x.le_toInt; omega, by have := x.toInt_lt; omega⟩
theorem zI_lt {x y : Int} (hx : zin x) (hy : zin y) : Int32.ofInt x < Int32.ofInt y ↔ x < y := by rw [Int32.lt_iff_toInt_lt, zI_toInt hx, zI_toInt hy]
theorem zI_le {x y : Int} (hx : zin x) (hy : zin y) : Int32.ofInt x ≤ Int32.ofInt y ↔ x ≤ y := by rw [Int32.le_iff_toInt_le, zI_toInt hx, zI_toInt hy]
theorem zI_eq {x y : Int} (hx : zin x) (hy : zin y) : Int32.ofInt x = Int32.ofInt y ↔ x = y := by rw [← Int32.toInt_inj, zI_toInt hx, zI_toInt hy]
theorem zI_0 : (0 : Int32) = Int32.ofInt 0 := rfl
theorem zin0 : zin 0 := ⟨by omega, by omega⟩
theorem zI_nat {x : Int} (h : zin x) (h0 : 0 ≤ x) : (Int32.ofInt x).toNatClampNeg = x.toNat := by
  show (Int32.ofInt x).toInt.toNat = x.toNat
  rw [zI_toInt h]
theorem zI_vp {x : Int} {n : Nat} (h : zin x) (h0 : 0 ≤ x) (h1 : x < n) : vp_in (Int32.ofInt x) n := by
  unfold vp_in
  rw [zI_nat h h0, zI_0, zI_lt h zin0]
  omega
theorem zcast {x : Int} (h0 : 0 ≤ x) : ((x.toNat : Nat) : Int) = x := Int.toNat_of_nonneg h0
/-! locals -/
theorem zL_get {ad : Nat → Nat} {L : List (Nat × zV)} {ls : Array Slot} {nL k i : Nat} {v : zV} (h : lv_has ls nL (zLs ad L)) (hk : L[k]? = some (i, v)) : ls[i]? = some (.val (zc ad v)) :=
  h.2.2 (i, zc ad v) (List.mem_map.mpr ⟨(i, v), List.mem_of_getElem? hk, rfl⟩)
/-- what a store leaves: of category one, of category two -/
def zset (L : List (Nat × zV)) (i : Nat) (v : zV) : List (Nat × zV) := (i, v) :: L.filter (fun q => !(q.1 == i) && !(q.1 + 1 == i && zcat q.2 == 2))
def zsetL (L : List (Nat × zV)) (i : Nat) (v : zV) : List (Nat × zV) := (i, v) :: L.filter (fun q => !(q.1 == i) && (!(q.1 == i + 1) && !(q.1 + 1 == i && zcat q.2 == 2)))
theorem zset_ls (ad : Nat → Nat) (L : List (Nat × zV)) (i : Nat) (v : zV) : (i, zc ad v) :: (zLs ad L).filter (fun q => !(q.1 == i) && !(q.1 + 1 == i && q.2.category == 2)) = zLs ad (zset L i v) := by
  simp only [zset, zLs, List.map_cons, List.filter_map]
  congr 2
  refine List.filter_congr fun q _ => ?_
  simp [Function.comp, zc_cat]
theorem zsetL_ls (ad : Nat → Nat) (L : List (Nat × zV)) (i : Nat) (v : zV) : (i, zc ad v) :: (zLs ad L).filter (fun q => !(q.1 == i) && (!(q.1 == i + 1) && !(q.1 + 1 == i && q.2.category == 2))) = zLs ad (zsetL L i v) := by
  simp only [zsetL, zLs, List.map_cons, List.filter_map]
  congr 2
  refine List.filter_congr fun q _ => ?_
  simp [Function.comp, zc_cat]
theorem zset_go {K : Nat} {L : List (Nat × zV)} {i : Nat} {v : zV} (h : ∀ q ∈ L, zgo K q.2) (hv : zgo K v) : ∀ q ∈ zset L i v, zgo K q.2 := by
  intro q hq
  rcases List.mem_cons.mp hq with e | e
  · rw [e]; exact hv
  · exact h q (List.mem_filter.mp e).1
theorem zsetL_go {K : Nat} {L : List (Nat × zV)} {i : Nat} {v : zV} (h : ∀ q ∈ L, zgo K q.2) (hv : zgo K v) : ∀ q ∈ zsetL L i v, zgo K q.2 := by
  intro q hq
  rcases List.mem_cons.mp hq with e | e
  · rw [e]; exact hv
  · exact h q (List.mem_filter.mp e).1
theorem zst_go {K : Nat} {v : zV} {st : List zV} (h : ∀ w ∈ st, zgo K w) (hv : zgo K v) : ∀ w ∈ v :: st, zgo K w := by
  intro w hw
  rcases List.mem_cons.mp hw with e | e
  · rw [e]; exact hv
  · exact h w e
theorem zst_tl {K : Nat} {v : zV} {st : List zV} (h : ∀ w ∈ v :: st, zgo K w) : ∀ w ∈ st, zgo K w := fun w hw => h w (List.mem_cons_of_mem _ hw)
theorem zst_hd {K : Nat} {v : zV} {st : List zV} (h : ∀ w ∈ v :: st, zgo K w) : zgo K v := h v List.mem_cons_self
/-! fewer locals, in another order -/
theorem Ev.loc {y : zM} {pc : Nat} {L L' : List (Nat × zV)} {st : List zV} {h : zH} {n : Nat × Nat} {o : zO} (hs : ∀ q ∈ L', q ∈ L) (k : Ev y pc L' st h n o) : Ev y pc L st h n o := by
  intro l p e s m args below meth c D cy A ad0 k0 J ad H locs ls hC hZ hW hl hL hs2
  refine k l p e s m args below meth c D cy A ad0 k0 J ad H locs ls hC hZ hW ⟨hl.1, hl.2.1, ?_⟩ (fun q hq => hL q (hs q hq)) hs2
  intro q hq
  obtain ⟨r, hr, rfl⟩ := List.mem_map.mp hq
  exact hl.2.2 _ (List.mem_map.mpr ⟨r, hs r hr, rfl⟩)
/-- more room counted as used -/
theorem Ev.wide {y : zM} {pc : Nat} {L : List (Nat × zV)} {st : List zV} {h : zH} {n n' : Nat × Nat} {o : zO} (h1 : n.1 ≤ n'.1) (h2 : n.2 ≤ n'.2) (k : Ev y pc L st h n' o) : Ev y pc L st h n o := by
  intro l p e s m args below meth c D cy A ad0 k0 J ad H locs ls hC hZ hW hl hL hs
  exact W.widen h1 h2 (k l p e s m args below meth c D cy A ad0 k0 J ad H locs ls hC hZ hW hl hL hs)
def zlk (L : List (Nat × zV)) (i : Nat) : Option zV := match L with
  | [] => none
  | q :: L => match Nat.beq q.1 i with
    | true => some q.2
    | false => zlk L i
theorem zlk_mem {L : List (Nat × zV)} {i : Nat} {v : zV} (h : zlk L i = some v) : (i, v) ∈ L := by
  induction L with
  | nil => simp [zlk] at h
  | cons q L ih =>
    unfold zlk at h
    cases hq : Nat.beq q.1 i with
    | true =>
      rw [hq] at h
      have e := Nat.eq_of_beq_eq_true hq
      obtain ⟨q1, q2⟩ := q
      simp at h e
      subst h; subst e
      exact List.mem_cons_self
    | false =>
      rw [hq] at h
      exact List.mem_cons_of_mem _ (ih h)
theorem zlk_get {ad : Nat → Nat} {L : List (Nat × zV)} {ls : Array Slot} {nL i : Nat} {v : zV} (h : lv_has ls nL (zLs ad L)) (hk : zlk L i = some v) : ls[i]? = some (.val (zc ad v)) :=
  h.2.2 (i, zc ad v) (List.mem_map.mpr ⟨(i, v), zlk_mem hk, rfl⟩)
def zw (x : Int) : Int := x.bmod 18446744073709551616
theorem zw_in (x : Int) : zinL (zw x) := by
  unfold zw zinL
  have h1 := Int.le_bmod (x := x) (m := 18446744073709551616) (by decide)
  have h2 := Int.bmod_lt (x := x) (m := 18446744073709551616) (by decide)
  omega
theorem zw_id {x : Int} (h : zinL x) : zw x = x := by
  obtain ⟨h1, h2⟩ := h
  exact Int.bmod_eq_of_le (by omega) (by omega)
theorem zw_of (x : Int) : Int64.ofInt (zw x) = Int64.ofInt x := by
  rw [← Int64.toInt_inj, Int64.toInt_ofInt, Int64.toInt_ofInt]
  exact Int.bmod_bmod
theorem zin_L {x : Int} (h : zin x) : zinL x := ⟨by have := h.1; omega, by have := h.2; omega⟩
theorem zI_l {x : Int} (h : zin x) : (Int32.ofInt x).toInt64 = Int64.ofInt x := by
  rw [← Int64.toInt_inj, zL_toInt (zin_L h), Int32.toInt_toInt64, zI_toInt h]
theorem zne0 {b : Int} (gb : zin b) (hb : 0 < b) : ¬ Int32.ofInt b = 0 := by
  rw [zI_0, zI_eq gb zin0]; omega
theorem zdiv_in {a b : Int} (ga : zin a) (ha : 0 ≤ a) (hb : 0 < b) : zin (a / b) := by
  have h1 : a / b ≤ a := Int.ediv_le_self b ha
  have h2 : 0 ≤ a / b := Int.ediv_nonneg ha (by omega)
  obtain ⟨g1, g2⟩ := ga
  exact ⟨by omega, by omega⟩
theorem zrem_in {a b : Int} (ga : zin a) (ha : 0 ≤ a) (hb : 0 < b) : zin (a % b) := by
  have h1 : a % b ≤ a := by
    have e1 := Int.emod_add_mul_ediv a b
    have e2 : 0 ≤ b * (a / b) := Int.mul_nonneg (by omega) (Int.ediv_nonneg ha (by omega))
    omega
  have h2 : 0 ≤ a % b := Int.emod_nonneg a (by omega)
  obtain ⟨g1, g2⟩ := ga
  exact ⟨by omega, by omega⟩
theorem zdiv {a b : Int} (ga : zin a) (gb : zin b) (ha : 0 ≤ a) (hb : 0 < b) : Int32.ofInt (a / b) = Int32.ofInt a / Int32.ofInt b := by
  rw [← Int32.toInt_inj, Int32.toInt_div, zI_toInt (zdiv_in ga ha hb), zI_toInt ga, zI_toInt gb, Int.tdiv_eq_ediv_of_nonneg ha]
  have := zdiv_in ga ha hb
  exact (Int.bmod_eq_of_le (by have := this.1; omega) (by have := this.2; omega)).symm
theorem zrem {a b : Int} (ga : zin a) (gb : zin b) (ha : 0 ≤ a) (hb : 0 < b) : Int32.ofInt (a % b) = Int32.ofInt a - Int32.ofInt a / Int32.ofInt b * Int32.ofInt b := by
  rw [← zdiv ga gb ha hb, ← Int32.ofInt_mul, ← Int32.ofInt_sub]
  congr 1
  have := Int.emod_add_mul_ediv a b
  rw [Int.mul_comm] at this
  omega
theorem zcmp_in (a b : Int) : zin (if b < a then 1 else if a = b then 0 else -1) := by
  split
  · exact ⟨by decide, by decide⟩
  · split <;> exact ⟨by decide, by decide⟩
theorem zcmp {a b : Int} (ga : zinL a) (gb : zinL b) : Int32.ofInt (if b < a then 1 else if a = b then 0 else -1) = lg_cmp (Int64.ofInt a) (Int64.ofInt b) := by
  unfold lg_cmp
  have h1 : (Int64.ofInt a > Int64.ofInt b) ↔ b < a := by rw [gt_iff_lt, Int64.lt_iff_toInt_lt, zL_toInt ga, zL_toInt gb]
  have h2 : (Int64.ofInt a = Int64.ofInt b) ↔ a = b := by rw [← Int64.toInt_inj, zL_toInt ga, zL_toInt gb]
  simp only [h1, h2]
  split
  · rfl
  · split <;> rfl

section ZR
variable {y : zM} {pc : Nat} {L : List (Nat × zV)} {st : List zV} {h : zH} {n : Nat × Nat} {o : zO}
theorem Ev.iconst {x : Int} (d : decode (zcode y) pc = .ok (.iconst x, 1)) (k : Ev y (pc + 1) L (zi x :: st) h n o) (hx0 : -2147483648 ≤ x ∧ x ≤ 2147483647 := by decide) : Ev y pc L st h n o := by
  intro l p e s m args below meth c D cy A ad0 k0 J ad H locs ls hC hZ hW hl hL hs
  have hx := hC.2.1
  have hb := hC.2.2.1
  exact lv_iconst hx hb d rfl (k l p e s m args below meth c D cy A ad0 k0 J ad H locs ls hC hZ hW hl hL (zst_go hs ⟨hx0, trivial⟩))
theorem Ev.bipush {x : Int} (d : decode (zcode y) pc = .ok (.bipush x, 2)) (k : Ev y (pc + 2) L (zi x :: st) h n o) (hv : (Int8.ofInt x).toInt32 = Int32.ofInt x := by decide) (hx0 : -2147483648 ≤ x ∧ x ≤ 2147483647 := by decide) : Ev y pc L st h n o := by
  intro l p e s m args below meth c D cy A ad0 k0 J ad H locs ls hC hZ hW hl hL hs
  have hx := hC.2.1
  have hb := hC.2.2.1
  exact lv_bipush hx hb d hv (k l p e s m args below meth c D cy A ad0 k0 J ad H locs ls hC hZ hW hl hL (zst_go hs ⟨hx0, trivial⟩))
theorem Ev.sipush {x : Int} (d : decode (zcode y) pc = .ok (.sipush x, 3)) (k : Ev y (pc + 3) L (zi x :: st) h n o) (hv : (Int16.ofInt x).toInt32 = Int32.ofInt x := by decide) (hx0 : -2147483648 ≤ x ∧ x ≤ 2147483647 := by decide) : Ev y pc L st h n o := by
  intro l p e s m args below meth c D cy A ad0 k0 J ad H locs ls hC hZ hW hl hL hs
  have hx := hC.2.1
  have hb := hC.2.2.1
  exact lv_sipush hx hb d hv (k l p e s m args below meth c D cy A ad0 k0 J ad H locs ls hC hZ hW hl hL (zst_go hs ⟨hx0, trivial⟩))
theorem Ev.ldc2 {own : String} {idx : Nat} {x : Int} (d : decode (zcode y) pc = .ok (.ldc2_w idx, 3)) (hw : Cond.constantLong (zname y).cls idx (Int64.ofInt x) ∈ zgw) (k : Ev y (pc + 3) L (zl x :: st) h n o) (hx0 : -9223372036854775808 ≤ x ∧ x ≤ 9223372036854775807 := by decide) : Ev y pc L st h n o := by
  intro l p e s m args below meth c D cy A ad0 k0 J ad H locs ls hC hZ hW hl hL hs
  have hx := hC.2.1
  have hb := hC.2.2.1
  exact lv_ldc2 hx hb hC.2.2.2.2.2.1 (hC.2.2.2.2.2.2.1 _ hw) d (k l p e s m args below meth c D cy A ad0 k0 J ad H locs ls hC hZ hW hl hL (zst_go hs ⟨hx0, trivial⟩))
theorem Ev.lconst {f : Fin 2} {x : Int} (d : decode (zcode y) pc = .ok (.lconst f, 1)) (hf : Int64.ofNat (f : Nat) = Int64.ofInt x) (k : Ev y (pc + 1) L (zl x :: st) h n o) (hx0 : -9223372036854775808 ≤ x ∧ x ≤ 9223372036854775807 := by decide) : Ev y pc L st h n o := by
  intro l p e s m args below meth c D cy A ad0 k0 J ad H locs ls hC hZ hW hl hL hs
  have hx := hC.2.1
  have hb := hC.2.2.1
  exact lv_lconst hx hb d hf (k l p e s m args below meth c D cy A ad0 k0 J ad H locs ls hC hZ hW hl hL (zst_go hs ⟨hx0, trivial⟩))
theorem Ev.null (d : decode (zcode y) pc = .ok (.aconst_null, 1)) (k : Ev y (pc + 1) L (zr none :: st) h n o) : Ev y pc L st h n o := by
  intro l p e s m args below meth c D cy A ad0 k0 J ad H locs ls hC hZ hW hl hL hs
  have hx := hC.2.1
  have hb := hC.2.2.1
  exact lv_null hx hb d (k l p e s m args below meth c D cy A ad0 k0 J ad H locs ls hC hZ hW hl hL (zst_go hs ⟨trivial, fun _ h => nomatch h⟩))
theorem Ev.iload_n {f : Fin 4} {i : Nat} {x : Int} (d : decode (zcode y) pc = .ok (.iload_n f, 1)) (hi : (f : Nat) = i) (hk : zlk L i = some (zi x)) (k : Ev y (pc + 1) L (zi x :: st) h n o) : Ev y pc L st h n o := by
  intro l p e s m args below meth c D cy A ad0 k0 J ad H locs ls hC hZ hW hl hL hs
  have hx := hC.2.1
  have hb := hC.2.2.1
  exact lv_iload_n hx hb d hi (zlk_get hl hk) (k l p e s m args below meth c D cy A ad0 k0 J ad H locs ls hC hZ hW hl hL (zst_go hs (hL _ (zlk_mem hk))))
theorem Ev.iload {i : Nat} {x : Int} (d : decode (zcode y) pc = .ok (.iload i, 2)) (hk : zlk L i = some (zi x)) (k : Ev y (pc + 2) L (zi x :: st) h n o) : Ev y pc L st h n o := by
  intro l p e s m args below meth c D cy A ad0 k0 J ad H locs ls hC hZ hW hl hL hs
  have hx := hC.2.1
  have hb := hC.2.2.1
  exact lv_iload hx hb d (zlk_get hl hk) (k l p e s m args below meth c D cy A ad0 k0 J ad H locs ls hC hZ hW hl hL (zst_go hs (hL _ (zlk_mem hk))))
theorem Ev.lload_n {f : Fin 4} {i : Nat} {x : Int} (d : decode (zcode y) pc = .ok (.lload_n f, 1)) (hi : (f : Nat) = i) (hk : zlk L i = some (zl x)) (k : Ev y (pc + 1) L (zl x :: st) h n o) : Ev y pc L st h n o := by
  intro l p e s m args below meth c D cy A ad0 k0 J ad H locs ls hC hZ hW hl hL hs
  have hx := hC.2.1
  have hb := hC.2.2.1
  exact lv_lload_n hx hb d hi (zlk_get hl hk) (k l p e s m args below meth c D cy A ad0 k0 J ad H locs ls hC hZ hW hl hL (zst_go hs (hL _ (zlk_mem hk))))
theorem Ev.lload {i : Nat} {x : Int} (d : decode (zcode y) pc = .ok (.lload i, 2)) (hk : zlk L i = some (zl x)) (k : Ev y (pc + 2) L (zl x :: st) h n o) : Ev y pc L st h n o := by
  intro l p e s m args below meth c D cy A ad0 k0 J ad H locs ls hC hZ hW hl hL hs
  have hx := hC.2.1
  have hb := hC.2.2.1
  exact lv_lload hx hb d (zlk_get hl hk) (k l p e s m args below meth c D cy A ad0 k0 J ad H locs ls hC hZ hW hl hL (zst_go hs (hL _ (zlk_mem hk))))
theorem Ev.aload_n {f : Fin 4} {i : Nat} {r : Option Nat} (d : decode (zcode y) pc = .ok (.aload_n f, 1)) (hi : (f : Nat) = i) (hk : zlk L i = some (zr r)) (k : Ev y (pc + 1) L (zr r :: st) h n o) : Ev y pc L st h n o := by
  intro l p e s m args below meth c D cy A ad0 k0 J ad H locs ls hC hZ hW hl hL hs
  have hx := hC.2.1
  have hb := hC.2.2.1
  have hk2 := zlk_get hl hk
  have hgo := hL _ (zlk_mem hk)
  cases r with
  | none => exact lv_aload_nN hx hb d hi hk2 (k l p e s m args below meth c D cy A ad0 k0 J ad H locs ls hC hZ hW hl hL (zst_go hs hgo))
  | some x => exact lv_aload_n hx hb d hi hk2 (k l p e s m args below meth c D cy A ad0 k0 J ad H locs ls hC hZ hW hl hL (zst_go hs hgo))
theorem Ev.aload {i : Nat} {r : Option Nat} (d : decode (zcode y) pc = .ok (.aload i, 2)) (hk : zlk L i = some (zr r)) (k : Ev y (pc + 2) L (zr r :: st) h n o) : Ev y pc L st h n o := by
  intro l p e s m args below meth c D cy A ad0 k0 J ad H locs ls hC hZ hW hl hL hs
  have hx := hC.2.1
  have hb := hC.2.2.1
  have hk2 := zlk_get hl hk
  have hgo := hL _ (zlk_mem hk)
  cases r with
  | none => exact lv_aloadN hx hb d hk2 (k l p e s m args below meth c D cy A ad0 k0 J ad H locs ls hC hZ hW hl hL (zst_go hs hgo))
  | some x => exact lv_aload hx hb d hk2 (k l p e s m args below meth c D cy A ad0 k0 J ad H locs ls hC hZ hW hl hL (zst_go hs hgo))
theorem Ev.istore_n {f : Fin 4} {i : Nat} {x : Int} {L' : List (Nat × zV)} (d : decode (zcode y) pc = .ok (.istore_n f, 1)) (hi : (f : Nat) = i) (hn : i < zmax y) (e0 : zset L i (zi x) = L') (k : Ev y (pc + 1) L' st h n o) : Ev y pc L (zi x :: st) h n o := by
  intro l p e s m args below meth c D cy A ad0 k0 J ad H locs ls hC hZ hW hl hL hs
  have hx := hC.2.1
  have hb := hC.2.2.1
  refine lv_istore_n hx hb d hi hl hn (zset_ls ad L i (zi x)) (fun ls' hl' => ?_)
  subst e0
  exact k l p e s m args below meth c D cy A ad0 k0 J ad H locs ls' hC hZ hW hl' (zset_go hL (zst_hd hs)) (zst_tl hs)
theorem Ev.lstore_n {f : Fin 4} {i : Nat} {x : Int} {L' : List (Nat × zV)} (d : decode (zcode y) pc = .ok (.lstore_n f, 1)) (hi : (f : Nat) = i) (hn : i + 1 < zmax y) (e0 : zsetL L i (zl x) = L') (k : Ev y (pc + 1) L' st h n o) : Ev y pc L (zl x :: st) h n o := by
  intro l p e s m args below meth c D cy A ad0 k0 J ad H locs ls hC hZ hW hl hL hs
  have hx := hC.2.1
  have hb := hC.2.2.1
  refine lv_lstore_n hx hb d hi hl hn (zsetL_ls ad L i (zl x)) (fun ls' hl' => ?_)
  subst e0
  exact k l p e s m args below meth c D cy A ad0 k0 J ad H locs ls' hC hZ hW hl' (zsetL_go hL (zst_hd hs)) (zst_tl hs)
theorem Ev.astore_n {f : Fin 4} {i : Nat} {r : Option Nat} {L' : List (Nat × zV)} (d : decode (zcode y) pc = .ok (.astore_n f, 1)) (hi : (f : Nat) = i) (hn : i < zmax y) (e0 : zset L i (zr r) = L') (k : Ev y (pc + 1) L' st h n o) : Ev y pc L (zr r :: st) h n o := by
  intro l p e s m args below meth c D cy A ad0 k0 J ad H locs ls hC hZ hW hl hL hs
  have hx := hC.2.1
  have hb := hC.2.2.1
  subst e0
  cases r with
  | none =>
    refine lv_astore_nN hx hb d hi hl hn (zset_ls ad L i (zr none)) (fun ls' hl' => ?_)
    exact k l p e s m args below meth c D cy A ad0 k0 J ad H locs ls' hC hZ hW hl' (zset_go hL (zst_hd hs)) (zst_tl hs)
  | some x =>
    refine lv_astore_n hx hb d hi hl hn (zset_ls ad L i (zr (some x))) (fun ls' hl' => ?_)
    exact k l p e s m args below meth c D cy A ad0 k0 J ad H locs ls' hC hZ hW hl' (zset_go hL (zst_hd hs)) (zst_tl hs)
theorem Ev.istore {i : Nat} {x : Int} {L' : List (Nat × zV)} (d : decode (zcode y) pc = .ok (.istore i, 2)) (hn : i < zmax y) (e0 : zset L i (zi x) = L') (k : Ev y (pc + 2) L' st h n o) : Ev y pc L (zi x :: st) h n o := by
  intro l p e s m args below meth c D cy A ad0 k0 J ad H locs ls hC hZ hW hl hL hs
  have hx := hC.2.1
  have hb := hC.2.2.1
  refine lv_istore hx hb d hl hn (zset_ls ad L i (zi x)) (fun ls' hl' => ?_)
  subst e0
  exact k l p e s m args below meth c D cy A ad0 k0 J ad H locs ls' hC hZ hW hl' (zset_go hL (zst_hd hs)) (zst_tl hs)
theorem Ev.lstore {i : Nat} {x : Int} {L' : List (Nat × zV)} (d : decode (zcode y) pc = .ok (.lstore i, 2)) (hn : i + 1 < zmax y) (e0 : zsetL L i (zl x) = L') (k : Ev y (pc + 2) L' st h n o) : Ev y pc L (zl x :: st) h n o := by
  intro l p e s m args below meth c D cy A ad0 k0 J ad H locs ls hC hZ hW hl hL hs
  have hx := hC.2.1
  have hb := hC.2.2.1
  refine lv_lstore hx hb d hl hn (zsetL_ls ad L i (zl x)) (fun ls' hl' => ?_)
  subst e0
  exact k l p e s m args below meth c D cy A ad0 k0 J ad H locs ls' hC hZ hW hl' (zsetL_go hL (zst_hd hs)) (zst_tl hs)
theorem Ev.astore {i : Nat} {r : Option Nat} {L' : List (Nat × zV)} (d : decode (zcode y) pc = .ok (.astore i, 2)) (hn : i < zmax y) (e0 : zset L i (zr r) = L') (k : Ev y (pc + 2) L' st h n o) : Ev y pc L (zr r :: st) h n o := by
  intro l p e s m args below meth c D cy A ad0 k0 J ad H locs ls hC hZ hW hl hL hs
  have hx := hC.2.1
  have hb := hC.2.2.1
  subst e0
  cases r with
  | none =>
    refine lv_astoreN hx hb d hl hn (zset_ls ad L i (zr none)) (fun ls' hl' => ?_)
    exact k l p e s m args below meth c D cy A ad0 k0 J ad H locs ls' hC hZ hW hl' (zset_go hL (zst_hd hs)) (zst_tl hs)
  | some x =>
    refine lv_astore hx hb d hl hn (zset_ls ad L i (zr (some x))) (fun ls' hl' => ?_)
    exact k l p e s m args below meth c D cy A ad0 k0 J ad H locs ls' hC hZ hW hl' (zset_go hL (zst_hd hs)) (zst_tl hs)
theorem Ev.iinc {i : Nat} {z x : Int} {L' : List (Nat × zV)} (d : decode (zcode y) pc = .ok (.iinc i z, 3)) (hk : zlk L i = some (zi x)) (hn : i < zmax y) (hr : -2147483648 ≤ x + z ∧ x + z ≤ 2147483647) (e0 : zset L i (zi (x + z)) = L') (k : Ev y (pc + 3) L' st h n o) : Ev y pc L st h n o := by
  intro l p e s m args below meth c D cy A ad0 k0 J ad H locs ls hC hZ hW hl hL hs
  have hx := hC.2.1
  have hb := hC.2.2.1
  subst e0
  obtain ⟨j, hj⟩ := List.getElem?_of_mem (zlk_mem hk)
  refine lv_iinc hx hb d hl (k := j) (x := Int32.ofInt x) (v := Int32.ofInt (x + z)) (by rw [zLs, List.getElem?_map, hj]; rfl) (Int32.ofInt_add _ _).symm hn (zset_ls ad L i (zi (x + z))) (fun ls' hl' => ?_)
  exact k l p e s m args below meth c D cy A ad0 k0 J ad H locs ls' hC hZ hW hl' (zset_go hL ⟨hr, trivial⟩) hs
theorem Ev.dup {v : zV} (d : decode (zcode y) pc = .ok (.dup, 1)) (hv : zcat v = 1) (k : Ev y (pc + 1) L (v :: v :: st) h n o) : Ev y pc L (v :: st) h n o := by
  intro l p e s m args below meth c D cy A ad0 k0 J ad H locs ls hC hZ hW hl hL hs
  have hx := hC.2.1
  have hb := hC.2.2.1
  exact lv_dup hx hb d ((zc_cat ad v).trans hv) (k l p e s m args below meth c D cy A ad0 k0 J ad H locs ls hC hZ hW hl hL (zst_go hs (zst_hd hs)))
theorem Ev.dup2 {v w : zV} (d : decode (zcode y) pc = .ok (.dup2, 1)) (hv : zcat v = 1) (hw : zcat w = 1) (k : Ev y (pc + 1) L (v :: w :: v :: w :: st) h n o) : Ev y pc L (v :: w :: st) h n o := by
  intro l p e s m args below meth c D cy A ad0 k0 J ad H locs ls hC hZ hW hl hL hs
  have hx := hC.2.1
  have hb := hC.2.2.1
  exact lv_dup2_11 hx hb d ((zc_cat ad v).trans hv) ((zc_cat ad w).trans hw) (k l p e s m args below meth c D cy A ad0 k0 J ad H locs ls hC hZ hW hl hL (zst_go (zst_go hs (zst_hd (zst_tl hs))) (zst_hd hs)))
theorem Ev.pop {v : zV} (d : decode (zcode y) pc = .ok (.pop, 1)) (hv : zcat v = 1) (k : Ev y (pc + 1) L st h n o) : Ev y pc L (v :: st) h n o := by
  intro l p e s m args below meth c D cy A ad0 k0 J ad H locs ls hC hZ hW hl hL hs
  have hx := hC.2.1
  have hb := hC.2.2.1
  exact lv_pop hx hb d ((zc_cat ad v).trans hv) (k l p e s m args below meth c D cy A ad0 k0 J ad H locs ls hC hZ hW hl hL (zst_tl hs))
theorem Ev.iadd {a b : Int} (d : decode (zcode y) pc = .ok (.iadd, 1)) (hr : -2147483648 ≤ a + b ∧ a + b ≤ 2147483647) (k : Ev y (pc + 1) L (zi (a + b) :: st) h n o) : Ev y pc L (zi b :: zi a :: st) h n o := by
  intro l p e s m args below meth c D cy A ad0 k0 J ad H locs ls hC hZ hW hl hL hs
  have hx := hC.2.1
  have hb := hC.2.2.1
  refine lv_iadd hx hb d ?_
  have k9 := (k l p e s m args below meth c D cy A ad0 k0 J ad H locs ls hC hZ hW hl hL (zst_go (zst_tl (zst_tl hs)) ⟨hr, trivial⟩))
  have e9 : zc ad (zi (a + b)) = .int (Int32.ofInt a + Int32.ofInt b) := congrArg Value.int (Int32.ofInt_add a b)
  rw [List.map_cons, e9] at k9
  exact k9
theorem Ev.isub {a b : Int} (d : decode (zcode y) pc = .ok (.isub, 1)) (hr : -2147483648 ≤ a - b ∧ a - b ≤ 2147483647) (k : Ev y (pc + 1) L (zi (a - b) :: st) h n o) : Ev y pc L (zi b :: zi a :: st) h n o := by
  intro l p e s m args below meth c D cy A ad0 k0 J ad H locs ls hC hZ hW hl hL hs
  have hx := hC.2.1
  have hb := hC.2.2.1
  refine lv_isub hx hb d ?_
  have k9 := (k l p e s m args below meth c D cy A ad0 k0 J ad H locs ls hC hZ hW hl hL (zst_go (zst_tl (zst_tl hs)) ⟨hr, trivial⟩))
  have e9 : zc ad (zi (a - b)) = .int (Int32.ofInt a - Int32.ofInt b) := congrArg Value.int (Int32.ofInt_sub a b)
  rw [List.map_cons, e9] at k9
  exact k9
theorem Ev.imul {a b : Int} (d : decode (zcode y) pc = .ok (.imul, 1)) (hr : -2147483648 ≤ a * b ∧ a * b ≤ 2147483647) (k : Ev y (pc + 1) L (zi (a * b) :: st) h n o) : Ev y pc L (zi b :: zi a :: st) h n o := by
  intro l p e s m args below meth c D cy A ad0 k0 J ad H locs ls hC hZ hW hl hL hs
  have hx := hC.2.1
  have hb := hC.2.2.1
  refine lv_imul hx hb d ?_
  have k9 := (k l p e s m args below meth c D cy A ad0 k0 J ad H locs ls hC hZ hW hl hL (zst_go (zst_tl (zst_tl hs)) ⟨hr, trivial⟩))
  have e9 : zc ad (zi (a * b)) = .int (Int32.ofInt a * Int32.ofInt b) := congrArg Value.int (Int32.ofInt_mul a b)
  rw [List.map_cons, e9] at k9
  exact k9
theorem Ev.ineg {a : Int} (d : decode (zcode y) pc = .ok (.ineg, 1)) (hr : -2147483648 ≤ -a ∧ -a ≤ 2147483647) (k : Ev y (pc + 1) L (zi (-a) :: st) h n o) : Ev y pc L (zi a :: st) h n o := by
  intro l p e s m args below meth c D cy A ad0 k0 J ad H locs ls hC hZ hW hl hL hs
  have hx := hC.2.1
  have hb := hC.2.2.1
  refine lv_ineg hx hb d ?_
  have k9 := (k l p e s m args below meth c D cy A ad0 k0 J ad H locs ls hC hZ hW hl hL (zst_go (zst_tl hs) ⟨hr, trivial⟩))
  have e9 : zc ad (zi (-a)) = .int (-(Int32.ofInt a)) := congrArg Value.int (Int32.ofInt_neg a)
  rw [List.map_cons, e9] at k9
  exact k9
theorem Ev.idiv {a b : Int} (d : decode (zcode y) pc = .ok (.idiv, 1)) (ha : 0 ≤ a) (hb0 : 0 < b) (k : Ev y (pc + 1) L (zi (a / b) :: st) h n o) : Ev y pc L (zi b :: zi a :: st) h n o := by
  intro l p e s m args below meth c D cy A ad0 k0 J ad H locs ls hC hZ hW hl hL hs
  have hx := hC.2.1
  have hb := hC.2.2.1
  have ga := (zst_hd (zst_tl hs)).1
  have gb := (zst_hd hs).1
  have gr : zin (a / b) := zdiv_in ga ha hb0
  refine lv_idiv hx hb d (zne0 gb hb0) ?_
  have k9 := (k l p e s m args below meth c D cy A ad0 k0 J ad H locs ls hC hZ hW hl hL (zst_go (zst_tl (zst_tl hs)) ⟨gr, trivial⟩))
  have e9 : zc ad (zi (a / b)) = .int (Int32.ofInt a / Int32.ofInt b) := congrArg Value.int (zdiv ga gb ha hb0)
  rw [List.map_cons, e9] at k9
  exact k9
theorem Ev.irem {a b : Int} (d : decode (zcode y) pc = .ok (.irem, 1)) (ha : 0 ≤ a) (hb0 : 0 < b) (k : Ev y (pc + 1) L (zi (a % b) :: st) h n o) : Ev y pc L (zi b :: zi a :: st) h n o := by
  intro l p e s m args below meth c D cy A ad0 k0 J ad H locs ls hC hZ hW hl hL hs
  have hx := hC.2.1
  have hb := hC.2.2.1
  have ga := (zst_hd (zst_tl hs)).1
  have gb := (zst_hd hs).1
  have gr : zin (a % b) := zrem_in ga ha hb0
  refine lv_irem hx hb d (zne0 gb hb0) ?_
  have k9 := (k l p e s m args below meth c D cy A ad0 k0 J ad H locs ls hC hZ hW hl hL (zst_go (zst_tl (zst_tl hs)) ⟨gr, trivial⟩))
  have e9 : zc ad (zi (a % b)) = .int (Int32.ofInt a - Int32.ofInt a / Int32.ofInt b * Int32.ofInt b) := congrArg Value.int (zrem ga gb ha hb0)
  rw [List.map_cons, e9] at k9
  exact k9
theorem Ev.iand {a b : Int} (d : decode (zcode y) pc = .ok (.iand, 1)) (k : Ev y (pc + 1) L (zi (Int32.ofInt a &&& Int32.ofInt b).toInt :: st) h n o) : Ev y pc L (zi b :: zi a :: st) h n o := by
  intro l p e s m args below meth c D cy A ad0 k0 J ad H locs ls hC hZ hW hl hL hs
  have hx := hC.2.1
  have hb := hC.2.2.1
  refine lv_iand hx hb d ?_
  have k9 := (k l p e s m args below meth c D cy A ad0 k0 J ad H locs ls hC hZ hW hl hL (zst_go (zst_tl (zst_tl hs)) ⟨zI_in _, trivial⟩))
  have e9 : zc ad (zi (Int32.ofInt a &&& Int32.ofInt b).toInt) = .int (Int32.ofInt a &&& Int32.ofInt b) := congrArg Value.int (zI_of _)
  rw [List.map_cons, e9] at k9
  exact k9
theorem Ev.i2l {a : Int} (d : decode (zcode y) pc = .ok (.i2l, 1)) (k : Ev y (pc + 1) L (zl a :: st) h n o) : Ev y pc L (zi a :: st) h n o := by
  intro l p e s m args below meth c D cy A ad0 k0 J ad H locs ls hC hZ hW hl hL hs
  have hx := hC.2.1
  have hb := hC.2.2.1
  exact lv_i2l hx hb d (zI_l (zst_hd hs).1) (k l p e s m args below meth c D cy A ad0 k0 J ad H locs ls hC hZ hW hl hL (zst_go (zst_tl hs) ⟨zin_L (zst_hd hs).1, trivial⟩))
theorem Ev.ladd {a b : Int} (d : decode (zcode y) pc = .ok (.ladd, 1)) (k : Ev y (pc + 1) L (zl (zw (a + b)) :: st) h n o) : Ev y pc L (zl b :: zl a :: st) h n o := by
  intro l p e s m args below meth c D cy A ad0 k0 J ad H locs ls hC hZ hW hl hL hs
  have hx := hC.2.1
  have hb := hC.2.2.1
  refine lv_ladd hx hb d ?_
  have k9 := (k l p e s m args below meth c D cy A ad0 k0 J ad H locs ls hC hZ hW hl hL (zst_go (zst_tl (zst_tl hs)) ⟨zw_in _, trivial⟩))
  have e9 : zc ad (zl (zw (a + b))) = .long (Int64.ofInt a + Int64.ofInt b) := congrArg Value.long ((zw_of _).trans (Int64.ofInt_add a b))
  rw [List.map_cons, e9] at k9
  exact k9
theorem Ev.lsub {a b : Int} (d : decode (zcode y) pc = .ok (.lsub, 1)) (k : Ev y (pc + 1) L (zl (zw (a - b)) :: st) h n o) : Ev y pc L (zl b :: zl a :: st) h n o := by
  intro l p e s m args below meth c D cy A ad0 k0 J ad H locs ls hC hZ hW hl hL hs
  have hx := hC.2.1
  have hb := hC.2.2.1
  refine lv_lsub hx hb d ?_
  have k9 := (k l p e s m args below meth c D cy A ad0 k0 J ad H locs ls hC hZ hW hl hL (zst_go (zst_tl (zst_tl hs)) ⟨zw_in _, trivial⟩))
  have e9 : zc ad (zl (zw (a - b))) = .long (Int64.ofInt a - Int64.ofInt b) := congrArg Value.long ((zw_of _).trans (Int64.ofInt_sub a b))
  rw [List.map_cons, e9] at k9
  exact k9
theorem Ev.lmul {a b : Int} (d : decode (zcode y) pc = .ok (.lmul, 1)) (k : Ev y (pc + 1) L (zl (zw (a * b)) :: st) h n o) : Ev y pc L (zl b :: zl a :: st) h n o := by
  intro l p e s m args below meth c D cy A ad0 k0 J ad H locs ls hC hZ hW hl hL hs
  have hx := hC.2.1
  have hb := hC.2.2.1
  refine lv_lmul hx hb d ?_
  have k9 := (k l p e s m args below meth c D cy A ad0 k0 J ad H locs ls hC hZ hW hl hL (zst_go (zst_tl (zst_tl hs)) ⟨zw_in _, trivial⟩))
  have e9 : zc ad (zl (zw (a * b))) = .long (Int64.ofInt a * Int64.ofInt b) := congrArg Value.long ((zw_of _).trans (Int64.ofInt_mul a b))
  rw [List.map_cons, e9] at k9
  exact k9
theorem Ev.lcmp {a b : Int} (d : decode (zcode y) pc = .ok (.lcmp, 1)) (k : Ev y (pc + 1) L (zi (if b < a then 1 else if a = b then 0 else -1) :: st) h n o) : Ev y pc L (zl b :: zl a :: st) h n o := by
  intro l p e s m args below meth c D cy A ad0 k0 J ad H locs ls hC hZ hW hl hL hs
  have hx := hC.2.1
  have hb := hC.2.2.1
  have ga := (zst_hd (zst_tl hs)).1
  have gb := (zst_hd hs).1
  refine W.lcmp hx hb d ?_
  have k9 := (k l p e s m args below meth c D cy A ad0 k0 J ad H locs ls hC hZ hW hl hL (zst_go (zst_tl (zst_tl hs)) ⟨zcmp_in a b, trivial⟩))
  have e9 : zc ad (zi (if b < a then 1 else if a = b then 0 else -1)) = .int (lg_cmp (Int64.ofInt a) (Int64.ofInt b)) := congrArg Value.int (zcmp ga gb)
  rw [List.map_cons, e9] at k9
  exact k9
theorem Ev.goto {off : Int} {tgt : Nat} (d : decode (zcode y) pc = .ok (.goto off, 3)) (ht : (pc : Int) + off = (tgt : Int)) (k : Ev y tgt L st h n o) : Ev y pc L st h n o := by
  intro l p e s m args below meth c D cy A ad0 k0 J ad H locs ls hC hZ hW hl hL hs
  have hx := hC.2.1
  have hb := hC.2.2.1
  exact lv_goto hx hb d ht (k l p e s m args below meth c D cy A ad0 k0 J ad H locs ls hC hZ hW hl hL hs)
theorem Ev.if_eq {a off : Int} {tgt : Nat} (d : decode (zcode y) pc = .ok (.ifCond .eq off, 3)) (ht : (pc : Int) + off = (tgt : Int)) (kt : a = 0 → Ev y tgt L st h n o) (kf : ¬ a = 0 → Ev y (pc + 3) L st h n o) : Ev y pc L (zi a :: st) h n o := by
  intro l p e s m args below meth c D cy A ad0 k0 J ad H locs ls hC hZ hW hl hL hs
  have hx := hC.2.1
  have hb := hC.2.2.1
  have ga := (zst_hd hs).1
  exact lv_if_eq hx hb d ht (fun hc => (kt ((zI_eq ga zin0).mp hc) l p e s m args below meth c D cy A ad0 k0 J ad H locs ls hC hZ hW hl hL (zst_tl hs))) (fun hc => (kf (fun q => hc ((zI_eq ga zin0).mpr q)) l p e s m args below meth c D cy A ad0 k0 J ad H locs ls hC hZ hW hl hL (zst_tl hs)))
theorem Ev.if_ne {a off : Int} {tgt : Nat} (d : decode (zcode y) pc = .ok (.ifCond .ne off, 3)) (ht : (pc : Int) + off = (tgt : Int)) (kt : ¬ a = 0 → Ev y tgt L st h n o) (kf : a = 0 → Ev y (pc + 3) L st h n o) : Ev y pc L (zi a :: st) h n o := by
  intro l p e s m args below meth c D cy A ad0 k0 J ad H locs ls hC hZ hW hl hL hs
  have hx := hC.2.1
  have hb := hC.2.2.1
  have ga := (zst_hd hs).1
  exact lv_if_ne hx hb d ht (fun hc => (kt (fun q => hc ((zI_eq ga zin0).mpr q)) l p e s m args below meth c D cy A ad0 k0 J ad H locs ls hC hZ hW hl hL (zst_tl hs))) (fun hc => (kf ((zI_eq ga zin0).mp hc) l p e s m args below meth c D cy A ad0 k0 J ad H locs ls hC hZ hW hl hL (zst_tl hs)))
theorem Ev.if_lt {a off : Int} {tgt : Nat} (d : decode (zcode y) pc = .ok (.ifCond .lt off, 3)) (ht : (pc : Int) + off = (tgt : Int)) (kt : a < 0 → Ev y tgt L st h n o) (kf : ¬ a < 0 → Ev y (pc + 3) L st h n o) : Ev y pc L (zi a :: st) h n o := by
  intro l p e s m args below meth c D cy A ad0 k0 J ad H locs ls hC hZ hW hl hL hs
  have hx := hC.2.1
  have hb := hC.2.2.1
  have ga := (zst_hd hs).1
  exact lv_if_lt hx hb d ht (fun hc => (kt ((zI_lt ga zin0).mp hc) l p e s m args below meth c D cy A ad0 k0 J ad H locs ls hC hZ hW hl hL (zst_tl hs))) (fun hc => (kf (fun q => hc ((zI_lt ga zin0).mpr q)) l p e s m args below meth c D cy A ad0 k0 J ad H locs ls hC hZ hW hl hL (zst_tl hs)))
theorem Ev.if_ge {a off : Int} {tgt : Nat} (d : decode (zcode y) pc = .ok (.ifCond .ge off, 3)) (ht : (pc : Int) + off = (tgt : Int)) (kt : 0 ≤ a → Ev y tgt L st h n o) (kf : ¬ 0 ≤ a → Ev y (pc + 3) L st h n o) : Ev y pc L (zi a :: st) h n o := by
  intro l p e s m args below meth c D cy A ad0 k0 J ad H locs ls hC hZ hW hl hL hs
  have hx := hC.2.1
  have hb := hC.2.2.1
  have ga := (zst_hd hs).1
  exact lv_if_ge hx hb d ht (fun hc => (kt ((zI_le zin0 ga).mp hc) l p e s m args below meth c D cy A ad0 k0 J ad H locs ls hC hZ hW hl hL (zst_tl hs))) (fun hc => (kf (fun q => hc ((zI_le zin0 ga).mpr q)) l p e s m args below meth c D cy A ad0 k0 J ad H locs ls hC hZ hW hl hL (zst_tl hs)))
theorem Ev.if_gt {a off : Int} {tgt : Nat} (d : decode (zcode y) pc = .ok (.ifCond .gt off, 3)) (ht : (pc : Int) + off = (tgt : Int)) (kt : 0 < a → Ev y tgt L st h n o) (kf : ¬ 0 < a → Ev y (pc + 3) L st h n o) : Ev y pc L (zi a :: st) h n o := by
  intro l p e s m args below meth c D cy A ad0 k0 J ad H locs ls hC hZ hW hl hL hs
  have hx := hC.2.1
  have hb := hC.2.2.1
  have ga := (zst_hd hs).1
  exact lv_if_gt hx hb d ht (fun hc => (kt ((zI_lt zin0 ga).mp hc) l p e s m args below meth c D cy A ad0 k0 J ad H locs ls hC hZ hW hl hL (zst_tl hs))) (fun hc => (kf (fun q => hc ((zI_lt zin0 ga).mpr q)) l p e s m args below meth c D cy A ad0 k0 J ad H locs ls hC hZ hW hl hL (zst_tl hs)))
theorem Ev.if_le {a off : Int} {tgt : Nat} (d : decode (zcode y) pc = .ok (.ifCond .le off, 3)) (ht : (pc : Int) + off = (tgt : Int)) (kt : a ≤ 0 → Ev y tgt L st h n o) (kf : ¬ a ≤ 0 → Ev y (pc + 3) L st h n o) : Ev y pc L (zi a :: st) h n o := by
  intro l p e s m args below meth c D cy A ad0 k0 J ad H locs ls hC hZ hW hl hL hs
  have hx := hC.2.1
  have hb := hC.2.2.1
  have ga := (zst_hd hs).1
  exact lv_if_le hx hb d ht (fun hc => (kt ((zI_le ga zin0).mp hc) l p e s m args below meth c D cy A ad0 k0 J ad H locs ls hC hZ hW hl hL (zst_tl hs))) (fun hc => (kf (fun q => hc ((zI_le ga zin0).mpr q)) l p e s m args below meth c D cy A ad0 k0 J ad H locs ls hC hZ hW hl hL (zst_tl hs)))
theorem Ev.icmp_eq {a b off : Int} {tgt : Nat} (d : decode (zcode y) pc = .ok (.if_icmp .eq off, 3)) (ht : (pc : Int) + off = (tgt : Int)) (kt : a = b → Ev y tgt L st h n o) (kf : ¬ a = b → Ev y (pc + 3) L st h n o) : Ev y pc L (zi b :: zi a :: st) h n o := by
  intro l p e s m args below meth c D cy A ad0 k0 J ad H locs ls hC hZ hW hl hL hs
  have hx := hC.2.1
  have hb := hC.2.2.1
  have ga := (zst_hd (zst_tl hs)).1
  have gb := (zst_hd hs).1
  exact lv_icmp_eq hx hb d ht (fun hc => (kt ((zI_eq ga gb).mp hc) l p e s m args below meth c D cy A ad0 k0 J ad H locs ls hC hZ hW hl hL (zst_tl (zst_tl hs)))) (fun hc => (kf (fun q => hc ((zI_eq ga gb).mpr q)) l p e s m args below meth c D cy A ad0 k0 J ad H locs ls hC hZ hW hl hL (zst_tl (zst_tl hs))))
theorem Ev.icmp_ne {a b off : Int} {tgt : Nat} (d : decode (zcode y) pc = .ok (.if_icmp .ne off, 3)) (ht : (pc : Int) + off = (tgt : Int)) (kt : ¬ a = b → Ev y tgt L st h n o) (kf : a = b → Ev y (pc + 3) L st h n o) : Ev y pc L (zi b :: zi a :: st) h n o := by
  intro l p e s m args below meth c D cy A ad0 k0 J ad H locs ls hC hZ hW hl hL hs
  have hx := hC.2.1
  have hb := hC.2.2.1
  have ga := (zst_hd (zst_tl hs)).1
  have gb := (zst_hd hs).1
  exact lv_icmp_ne hx hb d ht (fun hc => (kt (fun q => hc ((zI_eq ga gb).mpr q)) l p e s m args below meth c D cy A ad0 k0 J ad H locs ls hC hZ hW hl hL (zst_tl (zst_tl hs)))) (fun hc => (kf ((zI_eq ga gb).mp hc) l p e s m args below meth c D cy A ad0 k0 J ad H locs ls hC hZ hW hl hL (zst_tl (zst_tl hs))))
theorem Ev.icmp_lt {a b off : Int} {tgt : Nat} (d : decode (zcode y) pc = .ok (.if_icmp .lt off, 3)) (ht : (pc : Int) + off = (tgt : Int)) (kt : a < b → Ev y tgt L st h n o) (kf : ¬ a < b → Ev y (pc + 3) L st h n o) : Ev y pc L (zi b :: zi a :: st) h n o := by
  intro l p e s m args below meth c D cy A ad0 k0 J ad H locs ls hC hZ hW hl hL hs
  have hx := hC.2.1
  have hb := hC.2.2.1
  have ga := (zst_hd (zst_tl hs)).1
  have gb := (zst_hd hs).1
  exact lv_icmp_lt hx hb d ht (fun hc => (kt ((zI_lt ga gb).mp hc) l p e s m args below meth c D cy A ad0 k0 J ad H locs ls hC hZ hW hl hL (zst_tl (zst_tl hs)))) (fun hc => (kf (fun q => hc ((zI_lt ga gb).mpr q)) l p e s m args below meth c D cy A ad0 k0 J ad H locs ls hC hZ hW hl hL (zst_tl (zst_tl hs))))
theorem Ev.icmp_ge {a b off : Int} {tgt : Nat} (d : decode (zcode y) pc = .ok (.if_icmp .ge off, 3)) (ht : (pc : Int) + off = (tgt : Int)) (kt : b ≤ a → Ev y tgt L st h n o) (kf : ¬ b ≤ a → Ev y (pc + 3) L st h n o) : Ev y pc L (zi b :: zi a :: st) h n o := by
  intro l p e s m args below meth c D cy A ad0 k0 J ad H locs ls hC hZ hW hl hL hs
  have hx := hC.2.1
  have hb := hC.2.2.1
  have ga := (zst_hd (zst_tl hs)).1
  have gb := (zst_hd hs).1
  exact lv_icmp_ge hx hb d ht (fun hc => (kt ((zI_le gb ga).mp hc) l p e s m args below meth c D cy A ad0 k0 J ad H locs ls hC hZ hW hl hL (zst_tl (zst_tl hs)))) (fun hc => (kf (fun q => hc ((zI_le gb ga).mpr q)) l p e s m args below meth c D cy A ad0 k0 J ad H locs ls hC hZ hW hl hL (zst_tl (zst_tl hs))))
theorem Ev.icmp_gt {a b off : Int} {tgt : Nat} (d : decode (zcode y) pc = .ok (.if_icmp .gt off, 3)) (ht : (pc : Int) + off = (tgt : Int)) (kt : b < a → Ev y tgt L st h n o) (kf : ¬ b < a → Ev y (pc + 3) L st h n o) : Ev y pc L (zi b :: zi a :: st) h n o := by
  intro l p e s m args below meth c D cy A ad0 k0 J ad H locs ls hC hZ hW hl hL hs
  have hx := hC.2.1
  have hb := hC.2.2.1
  have ga := (zst_hd (zst_tl hs)).1
  have gb := (zst_hd hs).1
  exact lv_icmp_gt hx hb d ht (fun hc => (kt ((zI_lt gb ga).mp hc) l p e s m args below meth c D cy A ad0 k0 J ad H locs ls hC hZ hW hl hL (zst_tl (zst_tl hs)))) (fun hc => (kf (fun q => hc ((zI_lt gb ga).mpr q)) l p e s m args below meth c D cy A ad0 k0 J ad H locs ls hC hZ hW hl hL (zst_tl (zst_tl hs))))
theorem Ev.icmp_le {a b off : Int} {tgt : Nat} (d : decode (zcode y) pc = .ok (.if_icmp .le off, 3)) (ht : (pc : Int) + off = (tgt : Int)) (kt : a ≤ b → Ev y tgt L st h n o) (kf : ¬ a ≤ b → Ev y (pc + 3) L st h n o) : Ev y pc L (zi b :: zi a :: st) h n o := by
  intro l p e s m args below meth c D cy A ad0 k0 J ad H locs ls hC hZ hW hl hL hs
  have hx := hC.2.1
  have hb := hC.2.2.1
  have ga := (zst_hd (zst_tl hs)).1
  have gb := (zst_hd hs).1
  exact lv_icmp_le hx hb d ht (fun hc => (kt ((zI_le ga gb).mp hc) l p e s m args below meth c D cy A ad0 k0 J ad H locs ls hC hZ hW hl hL (zst_tl (zst_tl hs)))) (fun hc => (kf (fun q => hc ((zI_le ga gb).mpr q)) l p e s m args below meth c D cy A ad0 k0 J ad H locs ls hC hZ hW hl hL (zst_tl (zst_tl hs))))
theorem Ev.ifnull {r : Option Nat} {off : Int} {tgt : Nat} (d : decode (zcode y) pc = .ok (.ifnull off, 3)) (ht : (pc : Int) + off = (tgt : Int)) (kt : r = none → Ev y tgt L st h n o) (kf : ∀ x, r = some x → Ev y (pc + 3) L st h n o) : Ev y pc L (zr r :: st) h n o := by
  intro l p e s m args below meth c D cy A ad0 k0 J ad H locs ls hC hZ hW hl hL hs
  have hx := hC.2.1
  have hb := hC.2.2.1
  cases r with
  | none => exact lv_ifnullN hx hb d ht (kt rfl l p e s m args below meth c D cy A ad0 k0 J ad H locs ls hC hZ hW hl hL (zst_tl hs))
  | some x => exact lv_ifnull hx hb d (kf x rfl l p e s m args below meth c D cy A ad0 k0 J ad H locs ls hC hZ hW hl hL (zst_tl hs))
theorem Ev.ifnonnull {r : Option Nat} {off : Int} {tgt : Nat} (d : decode (zcode y) pc = .ok (.ifnonnull off, 3)) (ht : (pc : Int) + off = (tgt : Int)) (kt : ∀ x, r = some x → Ev y tgt L st h n o) (kf : r = none → Ev y (pc + 3) L st h n o) : Ev y pc L (zr r :: st) h n o := by
  intro l p e s m args below meth c D cy A ad0 k0 J ad H locs ls hC hZ hW hl hL hs
  have hx := hC.2.1
  have hb := hC.2.2.1
  cases r with
  | none => exact lv_ifnonnullN hx hb d (kf rfl l p e s m args below meth c D cy A ad0 k0 J ad H locs ls hC hZ hW hl hL (zst_tl hs))
  | some x => exact lv_ifnonnull hx hb d ht (kt x rfl l p e s m args below meth c D cy A ad0 k0 J ad H locs ls hC hZ hW hl hL (zst_tl hs))
theorem Ev.tableIn {dflt lo hi : Int} {offs : Array Int} {len : Nat} {a off : Int} {tgt : Nat} (d : decode (zcode y) pc = .ok (.tableswitch dflt lo hi offs, len)) (h1 : lo ≤ a) (h2 : a ≤ hi) (ho : offs[(a - lo).toNat]? = some off) (ht : (pc : Int) + off = (tgt : Int)) (k : Ev y tgt L st h n o) : Ev y pc L (zi a :: st) h n o := by
  intro l p e s m args below meth c D cy A ad0 k0 J ad H locs ls hC hZ hW hl hL hs
  have hx := hC.2.1
  have hb := hC.2.2.1
  have ga := (zst_hd hs).1
  exact lv_tableIn hx hb d (by rw [zI_toInt ga]; omega) (by rw [zI_toInt ga]; omega) (by rw [zI_toInt ga]; exact ho) ht (k l p e s m args below meth c D cy A ad0 k0 J ad H locs ls hC hZ hW hl hL (zst_tl hs))
theorem Ev.tableOut {dflt lo hi : Int} {offs : Array Int} {len : Nat} {a : Int} {tgt : Nat} (d : decode (zcode y) pc = .ok (.tableswitch dflt lo hi offs, len)) (h1 : a < lo ∨ hi < a) (ht : (pc : Int) + dflt = (tgt : Int)) (k : Ev y tgt L st h n o) : Ev y pc L (zi a :: st) h n o := by
  intro l p e s m args below meth c D cy A ad0 k0 J ad H locs ls hC hZ hW hl hL hs
  have hx := hC.2.1
  have hb := hC.2.2.1
  have ga := (zst_hd hs).1
  exact lv_tableOut hx hb d (by rw [zI_toInt ga]; exact h1) ht (k l p e s m args below meth c D cy A ad0 k0 J ad H locs ls hC hZ hW hl hL (zst_tl hs))

end ZR
end
section
/-! ===== the heap's rows ===== -/
def zT (c : Nat) : u_T := match c with
  | 0 => TX2
  | 1 => TX3
  | 2 => TX5
  | 3 => TX6
  | _ => TX7
def zCn (c : Nat) : String := match c with
  | 0 => RX2
  | 1 => RX3
  | 2 => RX5
  | 3 => RX6
  | _ => RX7
def zty (c : Nat) : Nat → FieldType := match c with
  | 0 => tyX2
  | 1 => tyX3
  | 2 => tyX5
  | 3 => tyX6
  | _ => tyX7
theorem zlt5 {P : Nat → Prop} (h0 : P 0) (h1 : P 1) (h2 : P 2) (h3 : P 3) (h4 : P 4) {c : Nat} (hc : c < 5) : P c := by
  match c, hc with
  | 0, _ => exact h0
  | 1, _ => exact h1
  | 2, _ => exact h2
  | 3, _ => exact h3
  | 4, _ => exact h4
theorem zcl {c : Nat} (hc : c < 5) : vwCl[c]? = some (zCn c, zT c, zNf c) := zlt5 (P := fun c => vwCl[c]? = some (zCn c, zT c, zNf c)) rfl rfl rfl rfl rfl hc
theorem zT_own {c : Nat} (hc : c < 5) : ∀ k, k < zNf c → (zT c k).1 = zCn c := zlt5 (P := fun c => ∀ k, k < zNf c → (zT c k).1 = zCn c) (by decide +kernel) (by decide +kernel) (by decide +kernel) (by decide +kernel) (by decide +kernel) hc
theorem zty_ok {c : Nat} (hc : c < 5) : ∀ k, k < zNf c → parseFieldDescriptor (zT c k).2.2.1 = some (zty c k) := zlt5 (P := fun c => ∀ k, k < zNf c → parseFieldDescriptor (zT c k).2.2.1 = some (zty c k)) tyX2_ok tyX3_ok tyX5_ok tyX6_ok tyX7_ok hc
theorem zT_nm {c : Nat} (hc : c < 5) : ∀ a, a < zNf c → ∀ b, b < zNf c → a ≠ b → (zT c a).2.1 ≠ (zT c b).2.1 := zlt5 (P := fun c => ∀ a, a < zNf c → ∀ b, b < zNf c → a ≠ b → (zT c a).2.1 ≠ (zT c b).2.1) nmX2 nmX3 nmX5 nmX6 nmX7 hc
def zrt (t : FieldType) : Bool := match t with
  | .object _ => true
  | .array _ => true
  | _ => false
theorem zty_r {c : Nat} (hc : c < 5) : ∀ k, k < zNf c → zrt (zty c k) = zRf c k := zlt5 (P := fun c => ∀ k, k < zNf c → zrt (zty c k) = zRf c k) (by decide +kernel) (by decide +kernel) (by decide +kernel) (by decide +kernel) (by decide +kernel) hc
theorem zty_i {c : Nat} (hc : c < 5) : ∀ k, k < zNf c → zRf c k = false → zty c k = .int ∨ zty c k = .boolean := zlt5 (P := fun c => ∀ k, k < zNf c → zRf c k = false → zty c k = .int ∨ zty c k = .boolean) (by decide +kernel) (by decide +kernel) (by decide +kernel) (by decide +kernel) (by decide +kernel) hc
theorem zgood_ws {c : Nat} (hc : c < 5) : (u_ws (zCn c) (zT c) (zNf c)).all goodWord = true := zlt5 (P := fun c => (u_ws (zCn c) (zT c) (zNf c)).all goodWord = true) (by decide +kernel) (by decide +kernel) (by decide +kernel) (by decide +kernel) (by decide +kernel) hc
theorem zin_ws {c : Nat} (hc : c < 5) : ∀ w ∈ u_ws (zCn c) (zT c) (zNf c), w ∈ zgw := fun w hw => zgw_in (zlt5 (P := fun c => ∀ w ∈ u_ws (zCn c) (zT c) (zNf c), w ∈ lw_tbl) inX2 inX3 inX5 inX6 inX7 hc w hw) (List.all_eq_true.mp (zgood_ws hc) w hw)
theorem zE_obj {cy : Nat → ClassId} {ad : Nat → Nat} {c z : Nat} (hc : c < 5) (I : Int → Int) (R : Int → Option Nat) : zE cy ad (c, z) I R = .inr (c, zfl ad c I R) := by
  unfold zE
  dsimp only
  rw [if_neg (by omega), if_neg (by omega), if_neg (by omega), if_neg (by omega), if_neg (by omega)]
theorem zfl_len (ad : Nat → Nat) (c : Nat) (I : Int → Int) (R : Int → Option Nat) : (zfl ad c I R).length = zNf c := by simp [zfl]
theorem zfl_get {ad : Nat → Nat} {c k : Nat} (hk : k < zNf c) (I : Int → Int) (R : Int → Option Nat) : (zfl ad c I R)[k]? = some (if zRf c k = true then va_rf ((R (k : Nat)).map ad) else .int (Int32.ofInt (I (k : Nat)))) := by
  simp [zfl, hk]
theorem zfl_setI {ad : Nat → Nat} {c k : Nat} (hr : zRf c k = false) (I : Int → Int) (R : Int → Option Nat) (x : Int) : zfl ad c (fun j => if j = (k : Int) then x else I j) R = (zfl ad c I R).set k (.int (Int32.ofInt x)) := by
  refine List.ext_getElem? fun i => ?_
  by_cases hi : i < zNf c
  · by_cases he : i = k
    · subst he
      rw [zfl_get hi, List.getElem?_set_self (by rw [zfl_len]; exact hi), hr]
      simp
    · rw [zfl_get hi, List.getElem?_set_ne (fun h => he h.symm), zfl_get hi]
      have : ¬ ((i : Int) = (k : Int)) := fun h => he (Int.ofNat_inj.mp h)
      simp only [this, if_false]
  · rw [List.getElem?_eq_none (by rw [zfl_len]; omega), List.getElem?_eq_none (by rw [List.length_set, zfl_len]; omega)]
theorem zfl_setR {ad : Nat → Nat} {c k : Nat} (hr : zRf c k = true) (I : Int → Int) (R : Int → Option Nat) (x : Option Nat) : zfl ad c I (fun j => if j = (k : Int) then x else R j) = (zfl ad c I R).set k (va_rf (x.map ad)) := by
  refine List.ext_getElem? fun i => ?_
  by_cases hi : i < zNf c
  · by_cases he : i = k
    · subst he
      rw [zfl_get hi, List.getElem?_set_self (by rw [zfl_len]; exact hi), hr]
      simp
    · rw [zfl_get hi, List.getElem?_set_ne (fun h => he h.symm), zfl_get hi]
      have : ¬ ((i : Int) = (k : Int)) := fun h => he (Int.ofNat_inj.mp h)
      simp only [this, if_false]
  · rw [List.getElem?_eq_none (by rw [zfl_len]; omega), List.getElem?_eq_none (by rw [List.length_set, zfl_len]; omega)]
theorem zup_row {α : Type} (f : Nat → Int → α) (o : Nat) (k : Int) (v : α) : zup f o k v o = fun j => if j = k then v else f o j := by
  funext j
  simp [zup]
/-- the link words of a field -/
def zFl (own : String) (idx c k : Nat) : Prop := c < 5 ∧ k < zNf c ∧ Cond.fieldLink own idx (zCn c) (zT c k).2.1 (zT c k).2.2.1 ∈ zgw
section ZH
variable {D : va_G} {cy : Nat → ClassId} {A : Nat → Prop} {ad0 : Nat → Nat} {k0 : Nat} {J : Nat → Int → Int} {ad : Nat → Nat} {h : zH} {s : State} {H H1 : Heap} {locs locs1 : List Loc} {o : Nat} {kd : Nat × Nat}
theorem zWl.putI {k x : Int} (hW : zWl D cy A ad0 k0 J ad h s H locs) (ho : h.1[o]? = some kd) (hx : zin x) (hP1 : va_P D vwCl ((zws cy ad h).set o (ad o, zE cy ad kd (zup h.2.1 o k x o) (h.2.2 o))) H1) (hD1 : va_D A ((zws cy ad h).set o (ad o, zE cy ad kd (zup h.2.1 o k x o) (h.2.2 o)))) (hS1 : va_S A s.heap H1 locs1) : zWl D cy A ad0 k0 J ad (h.1, zup h.2.1 o k x, h.2.2) s H1 locs1 := by
  obtain ⟨⟨-, -, hK, hlen, hin⟩, -, had, hk0, hJ, hv⟩ := hW
  have hol : o < 4096 := Nat.lt_of_lt_of_le (List.getElem?_eq_some_iff.mp ho).1 hlen
  have e : (zws cy ad h).set o (ad o, zE cy ad kd (zup h.2.1 o k x o) (h.2.2 o)) = zws cy ad (h.1, zup h.2.1 o k x, h.2.2) := (zws_set (K := h.1) (I := h.2.1) (I' := zup h.2.1 o k x) (R := h.2.2) (R' := h.2.2) ho (fun i hi => funext fun j => zup_o h.2.1 k j x hi) (fun _ _ => rfl)).symm
  rw [e] at hP1 hD1
  refine ⟨⟨hP1, hD1, hK, hlen, fun o' k' => ?_⟩, hS1, had, hk0, fun i hi => ?_, hv⟩
  · show zin (zup h.2.1 o k x o' k')
    unfold zup
    split
    · exact hx
    · exact hin o' k'
  · have hne : i ≠ o := by omega
    exact (funext fun j => zup_o h.2.1 k j x hne).trans (hJ i hi)
theorem zWl.putR {k : Int} {x : Option Nat} (hW : zWl D cy A ad0 k0 J ad h s H locs) (ho : h.1[o]? = some kd) (hx : zvd h.1.length (zr x)) (hP1 : va_P D vwCl ((zws cy ad h).set o (ad o, zE cy ad kd (h.2.1 o) (zup h.2.2 o k x o))) H1) (hD1 : va_D A ((zws cy ad h).set o (ad o, zE cy ad kd (h.2.1 o) (zup h.2.2 o k x o)))) (hS1 : va_S A s.heap H1 locs1) : zWl D cy A ad0 k0 J ad (h.1, h.2.1, zup h.2.2 o k x) s H1 locs1 := by
  obtain ⟨⟨-, -, hK, hlen, hin⟩, -, had, hk0, hJ, hv⟩ := hW
  have e : (zws cy ad h).set o (ad o, zE cy ad kd (h.2.1 o) (zup h.2.2 o k x o)) = zws cy ad (h.1, h.2.1, zup h.2.2 o k x) := (zws_set (K := h.1) (I := h.2.1) (I' := h.2.1) (R := h.2.2) (R' := zup h.2.2 o k x) ho (fun _ _ => rfl) (fun i hi => funext fun j => zup_o h.2.2 k j x hi)).symm
  rw [e] at hP1 hD1
  refine ⟨⟨hP1, hD1, hK, hlen, hin⟩, hS1, had, hk0, hJ, fun o' k' z hz => ?_⟩
  have hz' : zup h.2.2 o k x o' k' = some z := hz
  unfold zup at hz'
  split at hz'
  · exact hx z hz'
  · exact hv o' k' z hz'
end ZH
section ZR2
variable {y : zM} {pc : Nat} {L : List (Nat × zV)} {st : List zV} {h : zH} {n : Nat × Nat} {q : zO}
theorem Ev.getI {idx ob c z k : Nat} (d : decode (zcode y) pc = .ok (.getfield idx, 3)) (lk : zFl (zname y).cls idx c k) (ho : h.1[ob]? = some (c, z)) (hr : zRf c k = false) (kk : Ev y (pc + 3) L (zi (h.2.1 ob (k : Nat)) :: st) h n q) : Ev y pc L (zr (some ob) :: st) h n q := by
  intro l p e s m args below meth c0 D cy A ad0 k0 J ad H locs ls hC hZ hW hl hL hs
  obtain ⟨hc, hk, hw⟩ := lk
  have he := zws_get (cy := cy) (ad := ad) ho
  rw [zE_obj hc] at he
  exact va_get hC.2.1 hC.2.2.1 hC.2.2.2.2.2.2.1 (zin_ws hc) hC.2.2.2.2.2.1 hW.1.2.2.1 hW.1.1 ob he (zcl hc) k hk (hC.2.2.2.2.2.2.1 _ hw) (fun x e => by rw [zT_own hc k hk] at e; exact e) (by rw [zfl_get hk, hr]; rfl) d
    (kk l p e s m args below meth c0 D cy A ad0 k0 J ad H locs ls hC hZ hW hl hL (zst_go (zst_tl hs) ⟨hW.1.2.2.2.2 _ _, trivial⟩))
theorem Ev.getR {idx ob c z k : Nat} (d : decode (zcode y) pc = .ok (.getfield idx, 3)) (lk : zFl (zname y).cls idx c k) (ho : h.1[ob]? = some (c, z)) (hr : zRf c k = true) (kk : Ev y (pc + 3) L (zr (h.2.2 ob (k : Nat)) :: st) h n q) : Ev y pc L (zr (some ob) :: st) h n q := by
  intro l p e s m args below meth c0 D cy A ad0 k0 J ad H locs ls hC hZ hW hl hL hs
  obtain ⟨hc, hk, hw⟩ := lk
  have he := zws_get (cy := cy) (ad := ad) ho
  rw [zE_obj hc] at he
  exact va_get hC.2.1 hC.2.2.1 hC.2.2.2.2.2.2.1 (zin_ws hc) hC.2.2.2.2.2.1 hW.1.2.2.1 hW.1.1 ob he (zcl hc) k hk (hC.2.2.2.2.2.2.1 _ hw) (fun x e => by rw [zT_own hc k hk] at e; exact e) (by rw [zfl_get hk, hr]; rfl) d
    (kk l p e s m args below meth c0 D cy A ad0 k0 J ad H locs ls hC hZ hW hl hL (zst_go (zst_tl hs) ⟨trivial, fun x hx => hW.2.2.2.2.2 _ _ x hx⟩))
theorem znar_i {t : FieldType} {x : Int} (ht : t = .int ∨ t = .boolean) (hb : t = .boolean → x = 0 ∨ x = 1) : narrow t (.int (Int32.ofInt x)) = .int (Int32.ofInt x) ∧ fits t (.int (Int32.ofInt x)) = true := by
  rcases ht with rfl | rfl
  · exact ⟨rfl, rfl⟩
  · rcases hb rfl with rfl | rfl
    · exact ⟨by decide, by decide⟩
    · exact ⟨by decide, by decide⟩
theorem znar_r {t : FieldType} {x : Option Nat} (ht : zrt t = true) : narrow t (va_rf x) = va_rf x ∧ fits t (va_rf x) = true := by
  cases t <;> simp [zrt] at ht
  · cases x <;> exact ⟨rfl, rfl⟩
  · cases x <;> exact ⟨rfl, rfl⟩
theorem Ev.putI {idx ob c z k : Nat} {x : Int} (d : decode (zcode y) pc = .ok (.putfield idx, 3)) (lk : zFl (zname y).cls idx c k) (ho : h.1[ob]? = some (c, z)) (hr : zRf c k = false) (hf : (zT c k).2.2.2 = false) (hbx : zty c k = .boolean → x = 0 ∨ x = 1) (kk : Ev y (pc + 3) L st (h.1, zup h.2.1 ob (k : Nat) x, h.2.2) n q) : Ev y pc L (zi x :: zr (some ob) :: st) h n q := by
  intro l p e s m args below meth c0 D cy A ad0 k0 J ad H locs ls hC hZ hW hl hL hs
  obtain ⟨hc, hk, hw⟩ := lk
  have he := zws_get (cy := cy) (ad := ad) ho
  rw [zE_obj hc] at he
  have hnf := znar_i (x := x) (zty_i hc k hk hr) hbx
  refine va_put hC.2.1 hC.2.2.1 hC.2.2.2.2.2.2.1 (zin_ws hc) (zty c) (zty_ok hc) (zT_nm hc) hC.2.2.2.2.2.1 hW.1.2.2.1 hW.1.1 hW.1.2.1 hW.2.1 ob he (zcl hc) k hk (hC.2.2.2.2.2.2.1 _ hw) (fun x e => by rw [zT_own hc k hk] at e; exact e) hf (zty_ok hc k hk) hnf.1 hnf.2 (by rw [zfl_len]; exact hk) d (fun H1 locs1 hP1 hD1 hS1 => ?_)
  have e9 : (Sum.inr (c, (zfl ad c (h.2.1 ob) (h.2.2 ob)).set k (zc ad (zi x))) : va_E) = zE cy ad (c, z) (zup h.2.1 ob (k : Nat) x ob) (h.2.2 ob) := by
    rw [zE_obj hc, zup_row, zfl_setI hr]
    rfl
  have hP1 : va_P D vwCl ((zws cy ad h).set ob (ad ob, Sum.inr (c, (zfl ad c (h.2.1 ob) (h.2.2 ob)).set k (zc ad (zi x))))) H1 := hP1
  have hD1 : va_D A ((zws cy ad h).set ob (ad ob, Sum.inr (c, (zfl ad c (h.2.1 ob) (h.2.2 ob)).set k (zc ad (zi x))))) := hD1
  rw [e9] at hP1 hD1
  exact kk l p e s m args below meth c0 D cy A ad0 k0 J ad H1 locs1 ls hC hZ (zWl.putI hW ho (zst_hd hs).1 hP1 hD1 hS1) hl hL (zst_tl (zst_tl hs))
theorem Ev.putR {idx ob c z k : Nat} {x : Option Nat} (d : decode (zcode y) pc = .ok (.putfield idx, 3)) (lk : zFl (zname y).cls idx c k) (ho : h.1[ob]? = some (c, z)) (hr : zRf c k = true) (hf : (zT c k).2.2.2 = false) (kk : Ev y (pc + 3) L st (h.1, h.2.1, zup h.2.2 ob (k : Nat) x) n q) : Ev y pc L (zr x :: zr (some ob) :: st) h n q := by
  intro l p e s m args below meth c0 D cy A ad0 k0 J ad H locs ls hC hZ hW hl hL hs
  obtain ⟨hc, hk, hw⟩ := lk
  have he := zws_get (cy := cy) (ad := ad) ho
  rw [zE_obj hc] at he
  have hnf := znar_r (t := zty c k) (x := x.map ad) ((zty_r hc k hk).trans hr)
  refine va_put hC.2.1 hC.2.2.1 hC.2.2.2.2.2.2.1 (zin_ws hc) (zty c) (zty_ok hc) (zT_nm hc) hC.2.2.2.2.2.1 hW.1.2.2.1 hW.1.1 hW.1.2.1 hW.2.1 ob he (zcl hc) k hk (hC.2.2.2.2.2.2.1 _ hw) (fun x e => by rw [zT_own hc k hk] at e; exact e) hf (zty_ok hc k hk) hnf.1 hnf.2 (by rw [zfl_len]; exact hk) d (fun H1 locs1 hP1 hD1 hS1 => ?_)
  have e9 : (Sum.inr (c, (zfl ad c (h.2.1 ob) (h.2.2 ob)).set k (zc ad (zr x))) : va_E) = zE cy ad (c, z) (h.2.1 ob) (zup h.2.2 ob (k : Nat) x ob) := by
    rw [zE_obj hc, zup_row, zfl_setR hr]
    rfl
  have hP1 : va_P D vwCl ((zws cy ad h).set ob (ad ob, Sum.inr (c, (zfl ad c (h.2.1 ob) (h.2.2 ob)).set k (zc ad (zr x))))) H1 := hP1
  have hD1 : va_D A ((zws cy ad h).set ob (ad ob, Sum.inr (c, (zfl ad c (h.2.1 ob) (h.2.2 ob)).set k (zc ad (zr x))))) := hD1
  rw [e9] at hP1 hD1
  exact kk l p e s m args below meth c0 D cy A ad0 k0 J ad H1 locs1 ls hC hZ (zWl.putR hW ho (zst_hd hs).2 hP1 hD1 hS1) hl hL (zst_tl (zst_tl hs))
/-- a final field in its class's own constructor -/
theorem Ev.putF {idx ob c z k : Nat} {x : Option Nat} (d : decode (zcode y) pc = .ok (.putfield idx, 3)) (lk : zFl (zname y).cls idx c k) (ho : h.1[ob]? = some (c, z)) (hr : zRf c k = true) (hf : (zT c k).2.2.2 = true) (hin : (zname y).name = "<init>") (hcl : zCn c = (zname y).cls) (kk : Ev y (pc + 3) L st (h.1, h.2.1, zup h.2.2 ob (k : Nat) x) n q) : Ev y pc L (zr x :: zr (some ob) :: st) h n q := by
  intro l p e s m args below meth c0 D cy A ad0 k0 J ad H locs ls hC hZ hW hl hL hs
  obtain ⟨hc, hk, hw⟩ := lk
  have he := zws_get (cy := cy) (ad := ad) ho
  rw [zE_obj hc] at he
  have hnf := znar_r (t := zty c k) (x := x.map ad) ((zty_r hc k hk).trans hr)
  refine va_putF hC.2.1 hC.2.2.1 hC.2.2.2.2.2.2.1 (zin_ws hc) (zty c) (zty_ok hc) (zT_nm hc) hC.2.2.2.2.2.1 hW.1.2.2.1 hW.1.1 hW.1.2.1 hW.2.1 ob he (zcl hc) k hk (hC.2.2.2.2.2.2.1 _ hw) (fun x e => by rw [zT_own hc k hk] at e; exact e) hf (hC.2.2.2.2.2.2.2.2.2.1.trans hin) ((zT_own hc k hk).trans hcl) (zty_ok hc k hk) hnf.1 hnf.2 (by rw [zfl_len]; exact hk) d (fun H1 locs1 hP1 hD1 hS1 => ?_)
  have e9 : (Sum.inr (c, (zfl ad c (h.2.1 ob) (h.2.2 ob)).set k (zc ad (zr x))) : va_E) = zE cy ad (c, z) (h.2.1 ob) (zup h.2.2 ob (k : Nat) x ob) := by
    rw [zE_obj hc, zup_row, zfl_setR hr]
    rfl
  have hP1 : va_P D vwCl ((zws cy ad h).set ob (ad ob, Sum.inr (c, (zfl ad c (h.2.1 ob) (h.2.2 ob)).set k (zc ad (zr x))))) H1 := hP1
  have hD1 : va_D A ((zws cy ad h).set ob (ad ob, Sum.inr (c, (zfl ad c (h.2.1 ob) (h.2.2 ob)).set k (zc ad (zr x))))) := hD1
  rw [e9] at hP1 hD1
  exact kk l p e s m args below meth c0 D cy A ad0 k0 J ad H1 locs1 ls hC hZ (zWl.putR hW ho (zst_hd hs).2 hP1 hD1 hS1) hl hL (zst_tl (zst_tl hs))
/-! arrays -/
theorem zE5 (cy : Nat → ClassId) (ad : Nat → Nat) (N : Nat) (I : Int → Int) (R : Int → Option Nat) : zE cy ad (5, N) I R = .inl (cy 5, N, .inl fun j => Int32.ofInt (I (j : Nat))) := rfl
theorem zE6 (cy : Nat → ClassId) (ad : Nat → Nat) (N : Nat) (I : Int → Int) (R : Int → Option Nat) : zE cy ad (6, N) I R = .inl (cy 6, N, .inl fun j => Int32.ofInt (I (j : Nat))) := rfl
theorem zE7 (cy : Nat → ClassId) (ad : Nat → Nat) (N : Nat) (I : Int → Int) (R : Int → Option Nat) : zE cy ad (7, N) I R = .inl (cy 7, N, .inr (.inr (.inr (.inr fun j => (R (j : Nat)).map ad)))) := rfl
theorem zE8 (cy : Nat → ClassId) (ad : Nat → Nat) (N : Nat) (I : Int → Int) (R : Int → Option Nat) : zE cy ad (8, N) I R = .inl (cy 8, N, .inr (.inr (.inr (.inr fun j => (R (j : Nat)).map ad)))) := rfl
theorem zE9 (cy : Nat → ClassId) (ad : Nat → Nat) (N : Nat) (I : Int → Int) (R : Int → Option Nat) : zE cy ad (9, N) I R = .inl (cy 9, N, .inr (.inl fun j => Int64.ofInt (I (j : Nat)))) := rfl
theorem zupd {I : Int → Int} {x i : Int} (gi : zin i) (h0 : 0 ≤ i) : upd (fun j => Int32.ofInt (I (j : Nat))) (Int32.ofInt i).toNatClampNeg (Int32.ofInt x) = fun j : Nat => Int32.ofInt (if (j : Int) = i then x else I j) := by
  funext j
  unfold upd
  rw [zI_nat gi h0]
  by_cases hj : (j : Int) = i
  · rw [if_pos (by omega), if_pos hj]
  · rw [if_neg (by omega), if_neg hj]
theorem zupdL {I : Int → Int} {x i : Int} (gi : zin i) (h0 : 0 ≤ i) : vp_updL (fun j => Int64.ofInt (I (j : Nat))) (Int32.ofInt i).toNatClampNeg (Int64.ofInt x) = fun j : Nat => Int64.ofInt (if (j : Int) = i then x else I j) := by
  funext j
  unfold vp_updL
  rw [zI_nat gi h0]
  by_cases hj : (j : Int) = i
  · rw [if_pos (by omega), if_pos hj]
  · rw [if_neg (by omega), if_neg hj]
theorem zupdR {ad : Nat → Nat} {R : Int → Option Nat} {i : Int} {x : Nat} (gi : zin i) (h0 : 0 ≤ i) : va_up (fun j => (R (j : Nat)).map ad) (Int32.ofInt i).toNatClampNeg (some (ad x)) = fun j : Nat => (if (j : Int) = i then some x else R j).map ad := by
  funext j
  unfold va_up
  rw [zI_nat gi h0]
  by_cases hj : (j : Int) = i
  · rw [if_pos (by omega), if_pos hj]; rfl
  · rw [if_neg (by omega), if_neg hj]
theorem Ev.iald {ob N : Nat} {i : Int} (d : decode (zcode y) pc = .ok (.iaload, 1)) (ho : h.1[ob]? = some (5, N)) (h0 : 0 ≤ i) (h1 : i < N) (kk : Ev y (pc + 1) L (zi (h.2.1 ob i) :: st) h n q) : Ev y pc L (zi i :: zr (some ob) :: st) h n q := by
  intro l p e s m args below meth c0 D cy A ad0 k0 J ad H locs ls hC hZ hW hl hL hs
  have gi := (zst_hd hs).1
  have he := zws_get (cy := cy) (ad := ad) ho
  rw [zE5] at he
  refine va_iald hC.2.1 hC.2.2.1 hW.1.2.2.1 hW.1.1 ob 0 he rfl (zI_vp gi h0 h1) d ?_
  have k9 := kk l p e s m args below meth c0 D cy A ad0 k0 J ad H locs ls hC hZ hW hl hL (zst_go (zst_tl (zst_tl hs)) ⟨hW.1.2.2.2.2 _ _, trivial⟩)
  rw [zI_nat gi h0, zcast h0]
  exact k9
theorem Ev.zald {ob N : Nat} {i : Int} (d : decode (zcode y) pc = .ok (.baload, 1)) (ho : h.1[ob]? = some (6, N)) (h0 : 0 ≤ i) (h1 : i < N) (kk : Ev y (pc + 1) L (zi (h.2.1 ob i) :: st) h n q) : Ev y pc L (zi i :: zr (some ob) :: st) h n q := by
  intro l p e s m args below meth c0 D cy A ad0 k0 J ad H locs ls hC hZ hW hl hL hs
  have gi := (zst_hd hs).1
  have he := zws_get (cy := cy) (ad := ad) ho
  rw [zE6] at he
  refine va_zald hC.2.1 hC.2.2.1 hW.1.2.2.1 hW.1.1 ob 1 he rfl (zI_vp gi h0 h1) d ?_
  have k9 := kk l p e s m args below meth c0 D cy A ad0 k0 J ad H locs ls hC hZ hW hl hL (zst_go (zst_tl (zst_tl hs)) ⟨hW.1.2.2.2.2 _ _, trivial⟩)
  rw [zI_nat gi h0, zcast h0]
  exact k9
theorem Ev.lald {ob N : Nat} {i : Int} (d : decode (zcode y) pc = .ok (.laload, 1)) (ho : h.1[ob]? = some (9, N)) (h0 : 0 ≤ i) (h1 : i < N) (kk : Ev y (pc + 1) L (zl (h.2.1 ob i) :: st) h n q) : Ev y pc L (zi i :: zr (some ob) :: st) h n q := by
  intro l p e s m args below meth c0 D cy A ad0 k0 J ad H locs ls hC hZ hW hl hL hs
  have gi := (zst_hd hs).1
  have he := zws_get (cy := cy) (ad := ad) ho
  rw [zE9] at he
  refine va_lald hC.2.1 hC.2.2.1 hW.1.2.2.1 hW.1.1 ob 4 he rfl (zI_vp gi h0 h1) d ?_
  have k9 := kk l p e s m args below meth c0 D cy A ad0 k0 J ad H locs ls hC hZ hW hl hL (zst_go (zst_tl (zst_tl hs)) ⟨zin_L (hW.1.2.2.2.2 _ _), trivial⟩)
  rw [zI_nat gi h0, zcast h0]
  exact k9
theorem Ev.aald {ob N kd : Nat} {i : Int} (d : decode (zcode y) pc = .ok (.aaload, 1)) (ho : h.1[ob]? = some (kd, N)) (hkd : kd = 7 ∨ kd = 8) (h0 : 0 ≤ i) (h1 : i < N) (kk : Ev y (pc + 1) L (zr (h.2.2 ob i) :: st) h n q) : Ev y pc L (zi i :: zr (some ob) :: st) h n q := by
  intro l p e s m args below meth c0 D cy A ad0 k0 J ad H locs ls hC hZ hW hl hL hs
  have gi := (zst_hd hs).1
  have he := zws_get (cy := cy) (ad := ad) ho
  have k9 := kk l p e s m args below meth c0 D cy A ad0 k0 J ad H locs ls hC hZ hW hl hL (zst_go (zst_tl (zst_tl hs)) ⟨trivial, fun x hx => hW.2.2.2.2.2 _ _ x hx⟩)
  rcases hkd with rfl | rfl
  · rw [zE7] at he
    refine va_aldq hC.2.1 hC.2.2.1 hW.1.2.2.1 hW.1.1 ob 2 he rfl (zI_vp gi h0 h1) d ?_
    rw [zI_nat gi h0, zcast h0]
    exact k9
  · rw [zE8] at he
    refine va_aldq hC.2.1 hC.2.2.1 hW.1.2.2.1 hW.1.1 ob 3 he rfl (zI_vp gi h0 h1) d ?_
    rw [zI_nat gi h0, zcast h0]
    exact k9
theorem Ev.iast {ob N : Nat} {i x : Int} (d : decode (zcode y) pc = .ok (.iastore, 1)) (ho : h.1[ob]? = some (5, N)) (h0 : 0 ≤ i) (h1 : i < N) (kk : Ev y (pc + 1) L st (h.1, zup h.2.1 ob i x, h.2.2) n q) : Ev y pc L (zi x :: zi i :: zr (some ob) :: st) h n q := by
  intro l p e s m args below meth c0 D cy A ad0 k0 J ad H locs ls hC hZ hW hl hL hs
  have gi := (zst_hd (zst_tl hs)).1
  have he := zws_get (cy := cy) (ad := ad) ho
  rw [zE5] at he
  refine va_iast hC.2.1 hC.2.2.1 hW.1.2.2.1 hW.1.1 hW.1.2.1 hW.2.1 ob 0 he rfl (zI_vp gi h0 h1) d (fun H1 locs1 hP1 hD1 hS1 => ?_)
  have e9 : (Sum.inl (cy 5, N, Sum.inl (upd (fun j => Int32.ofInt (h.2.1 ob (j : Nat))) (Int32.ofInt i).toNatClampNeg (Int32.ofInt x))) : va_E) = zE cy ad (5, N) (zup h.2.1 ob i x ob) (h.2.2 ob) := by
    rw [zE5, zup_row, zupd gi h0]
  rw [e9] at hP1 hD1
  exact kk l p e s m args below meth c0 D cy A ad0 k0 J ad H1 locs1 ls hC hZ (zWl.putI hW ho (zst_hd hs).1 hP1 hD1 hS1) hl hL (zst_tl (zst_tl (zst_tl hs)))
theorem Ev.zast {ob N : Nat} {i x : Int} (d : decode (zcode y) pc = .ok (.bastore, 1)) (ho : h.1[ob]? = some (6, N)) (h0 : 0 ≤ i) (h1 : i < N) (hx : x = 0 ∨ x = 1) (kk : Ev y (pc + 1) L st (h.1, zup h.2.1 ob i x, h.2.2) n q) : Ev y pc L (zi x :: zi i :: zr (some ob) :: st) h n q := by
  intro l p e s m args below meth c0 D cy A ad0 k0 J ad H locs ls hC hZ hW hl hL hs
  have gi := (zst_hd (zst_tl hs)).1
  have he := zws_get (cy := cy) (ad := ad) ho
  rw [zE6] at he
  refine va_zast hC.2.1 hC.2.2.1 hW.1.2.2.1 hW.1.1 hW.1.2.1 hW.2.1 ob 1 he rfl (zI_vp gi h0 h1) d (fun H1 locs1 hP1 hD1 hS1 => ?_)
  have ex : vp_nar .boolean (Int32.ofInt x) = Int32.ofInt x := by
    rcases hx with rfl | rfl
    · decide
    · decide
  have e9 : (Sum.inl (cy 6, N, Sum.inl (upd (fun j => Int32.ofInt (h.2.1 ob (j : Nat))) (Int32.ofInt i).toNatClampNeg (vp_nar .boolean (Int32.ofInt x)))) : va_E) = zE cy ad (6, N) (zup h.2.1 ob i x ob) (h.2.2 ob) := by
    rw [zE6, zup_row, ex, zupd gi h0]
  rw [e9] at hP1 hD1
  exact kk l p e s m args below meth c0 D cy A ad0 k0 J ad H1 locs1 ls hC hZ (zWl.putI hW ho (zst_hd hs).1 hP1 hD1 hS1) hl hL (zst_tl (zst_tl (zst_tl hs)))
theorem Ev.last {ob N : Nat} {i x : Int} (d : decode (zcode y) pc = .ok (.lastore, 1)) (ho : h.1[ob]? = some (9, N)) (h0 : 0 ≤ i) (h1 : i < N) (hx : zin x) (kk : Ev y (pc + 1) L st (h.1, zup h.2.1 ob i x, h.2.2) n q) : Ev y pc L (zl x :: zi i :: zr (some ob) :: st) h n q := by
  intro l p e s m args below meth c0 D cy A ad0 k0 J ad H locs ls hC hZ hW hl hL hs
  have gi := (zst_hd (zst_tl hs)).1
  have he := zws_get (cy := cy) (ad := ad) ho
  rw [zE9] at he
  refine va_last hC.2.1 hC.2.2.1 hW.1.2.2.1 hW.1.1 hW.1.2.1 hW.2.1 ob 4 he rfl (zI_vp gi h0 h1) d (fun H1 locs1 hP1 hD1 hS1 => ?_)
  have e9 : (Sum.inl (cy 9, N, Sum.inr (Sum.inl (vp_updL (fun j => Int64.ofInt (h.2.1 ob (j : Nat))) (Int32.ofInt i).toNatClampNeg (Int64.ofInt x)))) : va_E) = zE cy ad (9, N) (zup h.2.1 ob i x ob) (h.2.2 ob) := by
    rw [zE9, zup_row, zupdL gi h0]
  rw [e9] at hP1 hD1
  exact kk l p e s m args below meth c0 D cy A ad0 k0 J ad H1 locs1 ls hC hZ (zWl.putI hW ho hx hP1 hD1 hS1) hl hL (zst_tl (zst_tl (zst_tl hs)))
/-- a node into a row of nodes, a tree into a row of trees -/
theorem Ev.aast {ob N kd xo ci z : Nat} {i : Int} (d : decode (zcode y) pc = .ok (.aastore, 1)) (ho : h.1[ob]? = some (kd, N)) (hkd : kd = 7 ∧ ci = 1 ∨ kd = 8 ∧ ci = 2) (hxo : h.1[xo]? = some (ci, z)) (h0 : 0 ≤ i) (h1 : i < N) (kk : Ev y (pc + 1) L st (h.1, h.2.1, zup h.2.2 ob i (some xo)) n q) : Ev y pc L (zr (some xo) :: zi i :: zr (some ob) :: st) h n q := by
  intro l p e s m args below meth c0 D cy A ad0 k0 J ad H locs ls hC hZ hW hl hL hs
  have gi := (zst_hd (zst_tl hs)).1
  have he := zws_get (cy := cy) (ad := ad) ho
  have hv := zws_get (cy := cy) (ad := ad) hxo
  rcases hkd with ⟨rfl, rfl⟩ | ⟨rfl, rfl⟩
  · rw [zE7] at he
    rw [zE_obj (by omega)] at hv
    refine va_astq hC.2.1 hC.2.2.1 hW.1.2.2.1 hW.1.1 hW.1.2.1 hW.2.1 ob 2 xo 1 (r := (RX3, TX3, 15)) he rfl hv rfl (zI_vp gi h0 h1) d (fun H1 locs1 hP1 hD1 hS1 => ?_)
    have e9 : (Sum.inl (cy 7, N, Sum.inr (Sum.inr (Sum.inr (Sum.inr (va_up (fun j => (h.2.2 ob (j : Nat)).map ad) (Int32.ofInt i).toNatClampNeg (some (ad xo))))))) : va_E) = zE cy ad (7, N) (h.2.1 ob) (zup h.2.2 ob i (some xo) ob) := by
      rw [zE7, zup_row, zupdR gi h0]
    rw [e9] at hP1 hD1
    exact kk l p e s m args below meth c0 D cy A ad0 k0 J ad H1 locs1 ls hC hZ (zWl.putR hW ho (zst_hd hs).2 hP1 hD1 hS1) hl hL (zst_tl (zst_tl (zst_tl hs)))
  · rw [zE8] at he
    rw [zE_obj (by omega)] at hv
    refine va_astq hC.2.1 hC.2.2.1 hW.1.2.2.1 hW.1.1 hW.1.2.1 hW.2.1 ob 3 xo 2 (r := (RX5, TX5, 5)) he rfl hv rfl (zI_vp gi h0 h1) d (fun H1 locs1 hP1 hD1 hS1 => ?_)
    have e9 : (Sum.inl (cy 8, N, Sum.inr (Sum.inr (Sum.inr (Sum.inr (va_up (fun j => (h.2.2 ob (j : Nat)).map ad) (Int32.ofInt i).toNatClampNeg (some (ad xo))))))) : va_E) = zE cy ad (8, N) (h.2.1 ob) (zup h.2.2 ob i (some xo) ob) := by
      rw [zE8, zup_row, zupdR gi h0]
    rw [e9] at hP1 hD1
    exact kk l p e s m args below meth c0 D cy A ad0 k0 J ad H1 locs1 ls hC hZ (zWl.putR hW ho (zst_hd hs).2 hP1 hD1 hS1) hl hL (zst_tl (zst_tl (zst_tl hs)))
theorem Ev.alen8 {ob N : Nat} {v : Int} (d : decode (zcode y) pc = .ok (.arraylength, 1)) (ho : h.1[ob]? = some (8, N)) (hv : Int32.ofNat N = Int32.ofInt v) (hv2 : zin v) (kk : Ev y (pc + 1) L (zi v :: st) h n q) : Ev y pc L (zr (some ob) :: st) h n q := by
  intro l p e s m args below meth c0 D cy A ad0 k0 J ad H locs ls hC hZ hW hl hL hs
  have he := zws_get (cy := cy) (ad := ad) ho
  rw [zE8] at he
  exact va_alen hC.2.1 hC.2.2.1 hW.1.2.2.1 hW.1.1 ob 3 he (ty := .object "SlackRows$Tree") rfl hv d (kk l p e s m args below meth c0 D cy A ad0 k0 J ad H locs ls hC hZ hW hl hL (zst_go (zst_tl hs) ⟨hv2, trivial⟩))
/-! references compared -/
def zcm (K : Nat) (a b : Option Nat) : Prop := (∀ x, a = some x → x < K) ∧ (∀ x, b = some x → x < K) ∨ (∃ i j, i < 8 ∧ j < 8 ∧ a = some (4096 + i) ∧ b = some (4096 + j)) ∨ ∃ i j, i < 4 ∧ j < 4 ∧ a = some (4104 + i) ∧ b = some (4104 + j)
theorem zcm_iff {D : va_G} {cy : Nat → ClassId} {A : Nat → Prop} {ad0 : Nat → Nat} {k0 : Nat} {J : Nat → Int → Int} {ad : Nat → Nat} {h : zH} {s : State} {H : Heap} {locs : List Loc} {a b : Option Nat} (hZ : zSt ad0 J A s s.heap) (hW : zWl D cy A ad0 k0 J ad h s H locs) (hc : zcm h.1.length a b) : a.map ad = b.map ad ↔ a = b := by
  constructor
  · intro he
    rcases hc with ⟨h1, h2⟩ | ⟨i, j, hi, hj, rfl, rfl⟩ | ⟨i, j, hi, hj, rfl, rfl⟩
    · cases a with
      | none => cases b with
        | none => rfl
        | some y => simp at he
      | some x => cases b with
        | none => simp at he
        | some y =>
          simp at he
          have hx := h1 x rfl
          have hy := h2 y rfl
          have e1 := zws_get (cy := cy) (ad := ad) (h := h) (List.getElem?_eq_getElem hx)
          have e2 := zws_get (cy := cy) (ad := ad) (h := h) (List.getElem?_eq_getElem hy)
          exact congrArg some (hW.1.2.1.1 x y _ _ e1 e2 he)
    · have he' : ad (4096 + i) = ad (4096 + j) := by simpa using he
      rw [hW.2.2.1 _ (Or.inr (by omega)), hW.2.2.1 _ (Or.inr (by omega))] at he'
      rw [hZ.2.2.2.2.2.1.2 i j hi hj he']
    · have he' : ad (4104 + i) = ad (4104 + j) := by simpa using he
      rw [hW.2.2.1 _ (Or.inr (by omega)), hW.2.2.1 _ (Or.inr (by omega))] at he'
      rw [hZ.2.2.2.2.2.2.1.2 i j hi hj he']
  · intro he
    rw [he]
theorem Ev.acmp_eq {a b : Option Nat} {off : Int} {tgt : Nat} (d : decode (zcode y) pc = .ok (.if_acmp .eq off, 3)) (ht : (pc : Int) + off = (tgt : Int)) (hc : zcm h.1.length a b) (kt : a = b → Ev y tgt L st h n q) (kf : ¬ a = b → Ev y (pc + 3) L st h n q) : Ev y pc L (zr b :: zr a :: st) h n q := by
  intro l p e s m args below meth c0 D cy A ad0 k0 J ad H locs ls hC hZ hW hl hL hs
  exact lv_acmp_eq hC.2.1 hC.2.2.1 d ht (fun g => kt ((zcm_iff hZ hW hc).mp g) l p e s m args below meth c0 D cy A ad0 k0 J ad H locs ls hC hZ hW hl hL (zst_tl (zst_tl hs))) (fun g => kf (fun w => g ((zcm_iff hZ hW hc).mpr w)) l p e s m args below meth c0 D cy A ad0 k0 J ad H locs ls hC hZ hW hl hL (zst_tl (zst_tl hs)))
theorem Ev.acmp_ne {a b : Option Nat} {off : Int} {tgt : Nat} (d : decode (zcode y) pc = .ok (.if_acmp .ne off, 3)) (ht : (pc : Int) + off = (tgt : Int)) (hc : zcm h.1.length a b) (kt : ¬ a = b → Ev y tgt L st h n q) (kf : a = b → Ev y (pc + 3) L st h n q) : Ev y pc L (zr b :: zr a :: st) h n q := by
  intro l p e s m args below meth c0 D cy A ad0 k0 J ad H locs ls hC hZ hW hl hL hs
  exact lv_acmp_ne hC.2.1 hC.2.2.1 d ht (fun g => kt (fun w => g ((zcm_iff hZ hW hc).mpr w)) l p e s m args below meth c0 D cy A ad0 k0 J ad H locs ls hC hZ hW hl hL (zst_tl (zst_tl hs))) (fun g => kf ((zcm_iff hZ hW hc).mp g) l p e s m args below meth c0 D cy A ad0 k0 J ad H locs ls hC hZ hW hl hL (zst_tl (zst_tl hs)))
/-! ends -/
theorem zWl.end {D : va_G} {cy : Nat → ClassId} {A : Nat → Prop} {ad0 : Nat → Nat} {k0 : Nat} {J : Nat → Int → Int} {ad : Nat → Nat} {h : zH} {s t : State} {H : Heap} {locs : List Loc} (hW : zWl D cy A ad0 k0 J ad h s H locs) (ht : t.heap = H) (hw : s.vm.Alike t.vm) : zEnd D cy A ad0 k0 J h ad s t :=
  ⟨hW.2.2.1, ⟨by rw [ht]; exact hW.1.1, hW.1.2.1, va_K.moved hw hW.1.2.2.1, hW.1.2.2.2⟩, hW.2.2.2.1, hW.2.2.2.2.1, hW.2.2.2.2.2, hW.2.1.F ht⟩
theorem Ev.iret {x : Int} (d : decode (zcode y) pc = .ok (.ireturn, 1)) (hr : zret y = some .int) (hn : n.1 ≤ (zroom y).cells ∧ n.2 ≤ (zroom y).slots) : Ev y pc L [zi x] h n (.inl (some (zi x)), h) := by
  intro l p e s m args below meth c0 D cy A ad0 k0 J ad H locs ls hC hZ hW hl hL hs
  refine W.widen hn.1 hn.2 (vx_ret (W.iret hC.2.1 hC.2.2.1 (hC.2.2.2.2.1.trans hr) (fun t ht hWm => ⟨some (zi x), ad, rfl, rfl, fun w hw => ?_, hW.end ht hWm.alike⟩) (fun q hq => hW.2.1.2.2 q hq) d hC.2.2.2.2.2.2.2.1))
  cases hw
  exact zst_hd hs
theorem Ev.bret {x : Int} (d : decode (zcode y) pc = .ok (.ireturn, 1)) (hr : zret y = some .boolean) (hx : x = 0 ∨ x = 1) (hn : n.1 ≤ (zroom y).cells ∧ n.2 ≤ (zroom y).slots) : Ev y pc L [zi x] h n (.inl (some (zi x)), h) := by
  intro l p e s m args below meth c0 D cy A ad0 k0 J ad H locs ls hC hZ hW hl hL hs
  refine W.widen hn.1 hn.2 (vx_ret (W.zret hC.2.1 hC.2.2.1 (hC.2.2.2.2.1.trans hr) (znar_i (Or.inr rfl) (fun _ => hx)).1 (fun t ht hWm => ⟨some (zi x), ad, rfl, rfl, fun w hw => ?_, hW.end ht hWm.alike⟩) (fun q hq => hW.2.1.2.2 q hq) d hC.2.2.2.2.2.2.2.1))
  cases hw
  exact zst_hd hs
theorem Ev.lret {x : Int} (d : decode (zcode y) pc = .ok (.lreturn, 1)) (hr : zret y = some .long) (hn : n.1 ≤ (zroom y).cells ∧ n.2 ≤ (zroom y).slots) : Ev y pc L [zl x] h n (.inl (some (zl x)), h) := by
  intro l p e s m args below meth c0 D cy A ad0 k0 J ad H locs ls hC hZ hW hl hL hs
  refine W.widen hn.1 hn.2 (vx_ret (W.lret hC.2.1 hC.2.2.1 (hC.2.2.2.2.1.trans hr) (fun t ht hWm => ⟨some (zl x), ad, rfl, rfl, fun w hw => ?_, hW.end ht hWm.alike⟩) (fun q hq => hW.2.1.2.2 q hq) d hC.2.2.2.2.2.2.2.1))
  cases hw
  exact zst_hd hs
theorem Ev.aret {r : Option Nat} {rt : FieldType} (d : decode (zcode y) pc = .ok (.areturn, 1)) (hr : zret y = some rt) (hrt : zrt rt = true) (hn : n.1 ≤ (zroom y).cells ∧ n.2 ≤ (zroom y).slots) : Ev y pc L [zr r] h n (.inl (some (zr r)), h) := by
  intro l p e s m args below meth c0 D cy A ad0 k0 J ad H locs ls hC hZ hW hl hL hs
  have e1 : (∃ n, rt = .object n) ∨ ∃ t, rt = .array t := by
    cases rt <;> simp [zrt] at hrt
    · exact Or.inl ⟨_, rfl⟩
    · exact Or.inr ⟨_, rfl⟩
  have e2 : va_rf (r.map ad) = .null ∨ ∃ a, va_rf (r.map ad) = .ref a := by
    cases r with
    | none => exact Or.inl rfl
    | some x => exact Or.inr ⟨_, rfl⟩
  refine W.widen hn.1 hn.2 (vx_ret (W.aret hC.2.1 hC.2.2.1 (hC.2.2.2.2.1.trans hr) e1 e2 (fun t ht hWm => ⟨some (zr r), ad, rfl, rfl, fun w hw => ?_, hW.end ht hWm.alike⟩) (fun q hq => hW.2.1.2.2 q hq) d hC.2.2.2.2.2.2.2.1))
  cases hw
  exact zst_hd hs
theorem Ev.vret (d : decode (zcode y) pc = .ok (.return_, 1)) (hr : zret y = none) (hn : n.1 ≤ (zroom y).cells ∧ n.2 ≤ (zroom y).slots) : Ev y pc L [] h n (.inl none, h) := by
  intro l p e s m args below meth c0 D cy A ad0 k0 J ad H locs ls hC hZ hW hl hL hs
  exact W.widen hn.1 hn.2 (vx_ret (W.vret hC.2.1 hC.2.2.1 (hC.2.2.2.2.1.trans hr) (fun t ht hWm => ⟨none, ad, rfl, rfl, fun w hw => (by cases hw), hW.end ht hWm.alike⟩) (fun q hq => hW.2.1.2.2 q hq) d hC.2.2.2.2.2.2.2.1))
end ZR2
end
section
/-! ===== calls ===== -/
def zA (ad : Nat → Nat) (h : zH) (sz : Nat) : Nat → Prop := fun q => (∃ i, i < h.1.length ∧ q = ad i) ∨ sz ≤ q
def zargs (i : Nat) (as : List zV) : List (Nat × zV) := match as with
  | [] => []
  | v :: vs => (i, v) :: zargs (if zcat v = 2 then i + 2 else i + 1) vs
theorem zargs_ls (ad : Nat → Nat) (as : List zV) : ∀ i, lv_args i (as.map (zc ad)) = zLs ad (zargs i as) := by
  induction as with
  | nil => intro i; rfl
  | cons v vs ih =>
    intro i
    show (i, zc ad v) :: lv_args (if (zc ad v).category = 2 then i + 2 else i + 1) (vs.map (zc ad)) = (i, zc ad v) :: zLs ad (zargs (if zcat v = 2 then i + 2 else i + 1) vs)
    rw [zc_cat, ih]
theorem zargs_mem {as : List zV} : ∀ {i : Nat} {q : Nat × zV}, q ∈ zargs i as → q.2 ∈ as := by
  induction as with
  | nil => intro i q h; cases h
  | cons v vs ih =>
    intro i q h
    rcases List.mem_cons.mp h with e | e
    · rw [e]; exact List.mem_cons_self
    · exact List.mem_cons_of_mem _ (ih e)
theorem zsl_len (ad : Nat → Nat) (as : List zV) : (lg_sl (as.map (zc ad))).length = (as.map zcat).sum := by
  induction as with
  | nil => rfl
  | cons v vs ih =>
    have e : (lg_sl ((v :: vs).map (zc ad))).length = (if (zc ad v).category = 2 then [Slot.val (zc ad v), .second] else [.val (zc ad v)]).length + (lg_sl (vs.map (zc ad))).length := by
      simp [lg_sl, List.flatMap_cons]
    rw [e, ih, zc_cat, List.map_cons, List.sum_cons]
    rcases v with x | x | r <;> rfl
theorem zcat_sum (ad : Nat → Nat) (st : List zV) : ((st.map (zc ad)).map fun v => v.category).sum = (st.map zcat).sum := by
  rw [List.map_map]
  congr 1
  exact List.map_congr_left fun v _ => zc_cat ad v
theorem zgo_mono {K K' : Nat} {v : zV} (h : zgo K v) (hk : K ≤ K') : zgo K' v := by
  refine ⟨h.1, ?_⟩
  rcases v with x | x | r
  · trivial
  · trivial
  · intro x hx
    rcases h.2 x hx with g | g
    · exact Or.inl (Nat.lt_of_lt_of_le g hk)
    · exact Or.inr g
theorem zc_eq {ad ad' : Nat → Nat} {K : Nat} {v : zV} (hv : zvd K v) (he : ∀ i, i < K ∨ 4096 ≤ i → ad' i = ad i) : zc ad' v = zc ad v := by
  rcases v with x | x | r
  · rfl
  · rfl
  · cases r with
    | none => rfl
    | some x =>
      show va_rf (some (ad' x)) = va_rf (some (ad x))
      rw [he x (hv x rfl)]
theorem zLs_eq {ad ad' : Nat → Nat} {K : Nat} {L : List (Nat × zV)} (hL : ∀ q ∈ L, zgo K q.2) (he : ∀ i, i < K ∨ 4096 ≤ i → ad' i = ad i) : zLs ad' L = zLs ad L :=
  List.map_congr_left fun q hq => by rw [zc_eq (hL q hq).2 he]
theorem zst_eq {ad ad' : Nat → Nat} {K : Nat} {st : List zV} (hs : ∀ v ∈ st, zgo K v) (he : ∀ i, i < K ∨ 4096 ≤ i → ad' i = ad i) : st.map (zc ad') = st.map (zc ad) :=
  List.map_congr_left fun v hv => zc_eq (hs v hv).2 he
def zPc (D : va_G) (cy : Nat → ClassId) (ad : Nat → Nat) (h : zH) (as : List zV) (sz : Nat) : Array Value → State → Prop :=
  va_Pc (as.map (zc ad)) (fun U => U.heap.size = sz ∧ zWh D cy ad (zA ad h sz) h U U.heap ∧ zSt ad h.2.1 (zA ad h sz) U U.heap ∧ zhvd h)
/-- what the tables say of a method -/
def zOk (z : zM) : Prop := zhh z = [] ∧ plainName (zname z).cls = true ∧ Cond.code (zname z) (zcode z) (zmax z) (zret z) ∈ zgw ∧ Cond.initialized (zname z).cls ∈ zgw ∧ (zname z).cls ≠ "java/lang/invoke/MethodHandle" ∧ (zname z).cls ≠ "java/lang/invoke/VarHandle"
theorem zwsM_nil {z : zM} (hz : zhh z = []) : zwsM z = Cond.code (zname z) (zcode z) (zmax z) (zret z) :: zgw := by
  unfold zwsM zword
  rw [hz]
theorem zMet {z : zM} {as : List zV} {h : zH} {o : zO} (hok : zOk z) (hsz : (as.map zcat).sum ≤ zmax z) (hE : Ev z 0 (zargs 0 as) [] h (0, 0) o) (hgo : ∀ v ∈ as, zgo h.1.length v) {l : Launch} (hl : l.stackTraces = false) (D : va_G) (cy : Nat → ClassId) (ad : Nat → Nat) (sz : Nat) :
    vx_Met l (zname z) (zwsM z) (zroom z) (zPc D cy ad h as sz) (zQc D cy (zA ad h sz) ad h.1.length h.2.1 o) (zXC D cy (zA ad h sz) ad h.1.length h.2.1 o) (zroom z).cells (zroom z).slots (zA ad h sz) := by
  refine vx_ofW (cc := zcode z) (maxL := zmax z) (ret := zret z) hok.2.1 (zwsM_nil hok.1) ?_
  intro p e s m args below meth c s₁ B hml hex hPc
  obtain ⟨rfl, hsz', hWh, hSt, hv⟩ := hPc
  subst hsz'
  have hts : ∀ w ∈ zgw, w.before (as.map (zc ad)).toArray s = true := fun w hw => atoms_spec (ws := zwsM z) B.pre w (List.mem_cons_of_mem _ hw)
  have hT : c.exceptionTable.toList = tableOf (zhh z) := by
    rw [hok.1]
    exact List.eq_nil_iff_forall_not_mem.mpr fun x hx => hex x hx
  have hl1 := lv_entry (as.map (zc ad)) (n := zmax z) (by rw [zsl_len]; exact hsz)
  rw [zargs_ls] at hl1
  rw [lg_entry_eq]
  exact hE l p e s m _ below meth c D cy (zA ad h s.heap.size) ad h.1.length h.2.1 ad s.heap [] _ ⟨hl, B.exec, B.bytes, hml, B.returns, findClass_of_methodNamed B.named, hts, B.notSynchronized, hT, (name_of_methodNamed B.named B.method).1, fun q hq => Or.inr hq⟩ hSt ⟨hWh, va_S.rf, fun _ _ => rfl, Nat.le_refl _, fun _ _ => rfl, hv⟩ hl1 (fun q hq => hgo _ (zargs_mem hq)) (fun v hv => by cases hv)
theorem zMetR {z : zM} {as : List zV} {h h1 : zH} {v : Option zV} (hok : zOk z) (hsz : (as.map zcat).sum ≤ zmax z) (hE : Ev z 0 (zargs 0 as) [] h (0, 0) (.inl v, h1)) (hgo : ∀ v ∈ as, zgo h.1.length v) {l : Launch} (hl : l.stackTraces = false) (D : va_G) (cy : Nat → ClassId) (ad : Nat → Nat) (sz : Nat) :
    Met l (zname z) (zwsM z) (zroom z) (zPc D cy ad h as sz) (zQc D cy (zA ad h sz) ad h.1.length h.2.1 (.inl v, h1)) (zroom z).cells (zroom z).slots (zA ad h sz) := by
  have hM := zMet hok hsz hE hgo hl D cy ad sz
  intro p e ha hc hk s m args below hf happ hP hK
  obtain ⟨k, o, a1, a2, a3, a4⟩ := hM p e ha hc hk s m args below hf happ hP hK
  refine ⟨k, o, a1, a2, a3, ?_⟩
  rcases a4 with g | ⟨q, -, E, ce, L, ⟨k9, ad9, e9, -⟩, -⟩
  · exact g
  · cases e9
section ZC
variable {l : Launch} {p : Program} {e : Env} {s : State} {m : MethodId} {args : Array Value} {below : List Frame} {meth : Method} {c : Code} {D : va_G} {cy : Nat → ClassId} {A : Nat → Prop} {ad0 : Nat → Nat} {k0 : Nat} {J : Nat → Int → Int} {ad : Nat → Nat} {H : Heap} {locs : List Loc} {ls : Array Slot} {y : zM} {h : zH}
theorem zA_A (hC : zCx l p y s m args meth c A) (hW : zWl D cy A ad0 k0 J ad h s H locs) : ∀ q, zA ad h H.size q → A q := by
  intro q hq
  rcases hq with ⟨i, hi, rfl⟩ | hq
  · exact hW.1.2.1.2 i _ (zws_get (List.getElem?_eq_getElem hi))
  · exact hC.2.2.2.2.2.2.2.2.2.2 q (Nat.le_trans hW.2.1.1 hq)
theorem zPre (hC : zCx l p y s m args meth c A) (hZ : zSt ad0 J A s s.heap) (hW : zWl D cy A ad0 k0 J ad h s H locs) {as : List zV} {U : State} (hU : U.heap = H) (hWm : s.WarmedH U.vm) : zPc D cy ad h as H.size (as.map (zc ad)).toArray U := by
  have eJ : J = J := rfl
  refine ⟨rfl, by rw [hU], ⟨by rw [hU]; exact hW.1.1, ⟨hW.1.2.1.1, fun k q hk => ?_⟩, va_K.moved hWm.alike hW.1.2.2.1, hW.1.2.2.2⟩, ?_, hW.2.2.2.2.2⟩
  · obtain ⟨hi, rfl⟩ := zws_inv hk
    exact Or.inl ⟨k, hi, rfl⟩
  · have h1 := hZ.to (ad' := ad) (A' := zA ad h H.size) (U := U) (H := H) (fun i hi => hW.2.2.1 i (Or.inr hi)) hWm (fun a h1 h2 => hW.2.1.2.1 a h1 h2) (zA_A hC hW)
    rw [hU]
    have e1 := hW.2.2.2.2.1 4130 (by omega)
    have e2 := hW.2.2.2.2.1 4131 (by omega)
    unfold zSt at h1 ⊢
    rw [e1, e2]
    exact h1
theorem zBlind {as : List zV} {sz : Nat} : FrameBlind (zPc D cy ad h as sz) := by
  intro a U g mk hq
  obtain ⟨e1, e2, hWh, hSt, hv⟩ := hq
  exact ⟨e1, e2, ⟨hWh.1, hWh.2.1, va_K.moved (u := U) (U := U.calling g mk a) (Vm.Alike.refl U.vm) hWh.2.2.1, hWh.2.2.2⟩, hSt.to (U := U.calling g mk a) (fun _ _ => rfl) (State.WarmedH.refl U) (fun _ _ _ => rfl) (fun _ h => h), hv⟩
theorem zAfter {h1 : zH} {ad' : Nat → Nat} {st₀ t T' : State} {L : List Loc} (hC : zCx l p y s m args meth c A) (hW : zWl D cy A ad0 k0 J ad h s H locs) (hE : zEnd D cy (zA ad h H.size) ad h.1.length h.2.1 h1 ad' st₀ t) (h0 : st₀.heap = H) (e1 : T'.heap = t.heap) (hL : ∀ q ∈ L, zA ad h H.size q.base) : zWl D cy A ad0 k0 J ad' h1 s T'.heap (locs ++ L) := by
  obtain ⟨had, hWh, hk, hJ, hv, hF⟩ := hE
  have hAA := zA_A hC hW
  obtain ⟨-, -, hS⟩ := vx_keep h0 e1 hW.2.1 (fun q _ g => hAA q g) hAA hL hF
  refine ⟨⟨by rw [e1]; exact hWh.1, ⟨hWh.2.1.1, fun k q hq => hAA _ (hWh.2.1.2 k q hq)⟩, hW.1.2.2.1, hWh.2.2.2⟩, hS, fun i hi => ?_, Nat.le_trans hW.2.2.2.1 hk, fun i hi => (hJ i hi).trans (hW.2.2.2.2.1 i hi), hv⟩
  rw [had i ?_, hW.2.2.1 i hi]
  rcases hi with g | g
  · exact Or.inl (Nat.lt_of_lt_of_le g hW.2.2.2.1)
  · exact Or.inr g
theorem zCore {pc : Nat} {Ls : List (Nat × zV)} {st : List zV} {n : Nat × Nat} {o : zO} {v : Option zV} {h1 : zH} {stk : List Value} {a : Array Value} {mc ms : Nat}
    (hRun : va_Run p l e (zroom y) s m args below meth c H locs n.1 n.2 mc ms (F0 m pc ls stk) (st.map (zc ad)) (zQc D cy (zA ad h H.size) ad h.1.length h.2.1 (.inl v, h1) a) (zA ad h H.size))
    (hC : zCx l p y s m args meth c A) (hZ : zSt ad0 J A s s.heap) (hW : zWl D cy A ad0 k0 J ad h s H locs) (hl : lv_has ls (zmax y) (zLs ad Ls)) (hL : ∀ q ∈ Ls, zgo h.1.length q.2) (hs : ∀ w ∈ st, zgo h.1.length w)
    (kk : Ev y (pc + 3) Ls (v.toList ++ st) h1 (n.1 + mc, n.2 + ms) o) : W p l e (zroom y) s m args below meth c H locs n.1 n.2 (zQ below args s y D cy A ad0 k0 J o) (F0 m pc ls stk) := by
  intro T hT X
  obtain ⟨v9, st₀, t, T', L, h0, X', hL9, e1, e2, ⟨v', ad', ev, eo, hgo, hEnd⟩, go⟩ := hRun T hT X
  cases ev
  cases eo
  have hW' := zAfter (T' := T') hC hW hEnd h0 e1 hL9
  have hle : h.1.length ≤ h1.1.length := hEnd.2.2.1
  have had : ∀ i, i < h.1.length ∨ 4096 ≤ i → ad' i = ad i := hEnd.1
  have k9 := kk l p e s m args below meth c D cy A ad0 k0 J ad' T'.heap (locs ++ L) ls hC hZ hW' (by rw [zLs_eq hL had]; exact hl) (fun q hq => zgo_mono (hL q hq) hle) (fun w hw => by
    rcases List.mem_append.mp hw with g | g
    · cases v with
      | none => cases g
      | some v0 =>
        rw [List.mem_singleton.mp g]
        exact hgo v0 rfl
    · exact zgo_mono (hs w g) hle)
  obtain ⟨t2, a1, b1⟩ := k9 T' rfl X'
  refine ⟨t2, go t2 ?_, b1⟩
  have e9 : (v.toList ++ st).map (zc ad') = (v.map (zc ad')).toList ++ st.map (zc ad) := by
    rw [List.map_append, zst_eq hs had]
    cases v <;> rfl
  rw [e9] at a1
  exact a1
theorem zGood {z : zM} (hok : zOk z) : GoodIn zgw (zwsM z) := by
  intro w hw
  rw [zwsM_nil hok.1] at hw
  rcases List.mem_cons.mp hw with e | e
  · rw [e]
    exact ⟨hok.2.2.1, good_of_word (List.mem_filter.mp hok.2.2.1).2⟩
  · exact ⟨e, good_of_word (List.mem_filter.mp e).2⟩
end ZC
def zRm (y z : zM) : Prop := (zroom z).frames + 1 ≤ (zroom y).frames ∧ 8 + (zmax z + 11) + (zroom z).locals ≤ (zroom y).locals
def zLkV (y z : zM) (idx nA : Nat) : Prop := Cond.methodLink (zname y).cls idx (zname z) ∈ zgw ∧ Cond.instanceMethod (zname z) ∈ zgw ∧ Cond.selects (zname z).cls (zname z) (zname z) ∈ zgw ∧ (parseMethodDescriptor (zname z).desc).map (fun d => d.parameters.length) = some nA
def zLkS (y z : zM) (idx nA : Nat) : Prop := Cond.methodLink (zname y).cls idx (zname z) ∈ zgw ∧ Cond.static (zname z) ∈ zgw ∧ (parseMethodDescriptor (zname z).desc).map (fun d => d.parameters.length) = some nA
section ZR3
variable {y : zM} {pc : Nat} {L : List (Nat × zV)} {st : List zV} {h : zH} {n : Nat × Nat} {q : zO}
theorem Ev.callV {z : zM} {idx ob ci cz : Nat} {as : List zV} {stk : List zV} {v : Option zV} {h1 : zH} (hz : Ev z 0 (zargs 0 (zr (some ob) :: as)) [] h (0, 0) (.inl v, h1)) (d : decode (zcode y) pc = .ok (.invokevirtual idx, 3)) (hok : zOk z) (lk : zLkV y z idx as.length) (hrm : zRm y z) (ho : h.1[ob]? = some (ci, cz)) (hci : ci < 5 ∧ zCn ci = (zname z).cls) (hstk : stk = as.reverse ++ zr (some ob) :: st) (hsz : ((zr (some ob) :: as).map zcat).sum ≤ zmax z) (hop : (st.map zcat).sum ≤ 8) (hn : n.1 + (zroom z).cells ≤ (zroom y).cells ∧ n.2 + (zroom z).slots ≤ (zroom y).slots)
    (kk : Ev y (pc + 3) L (v.toList ++ st) h1 (n.1 + (zroom z).cells, n.2 + (zroom z).slots) q) : Ev y pc L stk h n q := by
  subst hstk
  intro l p e s m args below meth c0 D cy A ad0 k0 J ad H locs ls hC hZ hW hl hL hs
  have hs2 : ∀ w ∈ zr (some ob) :: as, zgo h.1.length w := fun w hw => hs w (by
    rcases List.mem_cons.mp hw with e | e
    · rw [e]; exact List.mem_append_right _ List.mem_cons_self
    · exact List.mem_append_left _ (List.mem_reverse.mpr e))
  have hs3 : ∀ w ∈ st, zgo h.1.length w := fun w hw => hs w (List.mem_append_right _ (List.mem_cons_of_mem _ hw))
  have hM := zMetR hok hsz hz hs2 hC.1 D cy ad H.size
  have he := zws_get (cy := cy) (ad := ad) ho
  rw [zE_obj hci.1] at he
  have hts := hC.2.2.2.2.2.2.1
  have hrecv := va_recv hW.1.2.2.1 hW.1.1 (zcl hci.1) he
  have hcb : CallW (zroom y) s args (zname y).cls (zname z).cls idx (zname z) (zcode z) (zmax z) (zret z) (zwsM z) (zroom z) (zroom z).cells (zroom z).slots as.length :=
    ⟨callB_of as.length hts (zGood hok) (zwsM_nil hok.1) rfl rfl (hts _ hok.2.2.2.1) (hts _ lk.1) ⟨hok.2.2.2.2.1, hok.2.2.2.2.2, lk.2.2.2⟩ hrm, hts _ lk.2.1, hts _ lk.2.2.1⟩
  refine zCore (a := (Value.ref (ad ob) :: as.map (zc ad)).toArray) (va_runV (As := as.map (zc ad)) (Ts := zgw) (C := (zname z).cls) (b := ad ob) ⟨hC.2.1, hC.2.2.1, hC.2.2.2.1, hC.2.2.2.2.2.1, hts⟩ hM hcb ⟨zBlind, by rw [hci.2] at hrecv; exact hrecv, fun U hU hWm => zPre (as := zr (some ob) :: as) hC hZ hW hU hWm⟩ rfl (by rw [List.length_map]) hl.1 ?_ (lv_room (by rw [zcat_sum]; exact hop)) d hn) hC hZ hW hl hL hs3 kk
  show (as.reverse ++ zr (some ob) :: st).map (zc ad) = (as.map (zc ad)).reverse ++ Value.ref (ad ob) :: st.map (zc ad)
  rw [List.map_append, List.map_reverse]
  rfl
theorem Ev.callS {z : zM} {idx : Nat} {as : List zV} {stk : List zV} {v : Option zV} {h1 : zH} (hz : Ev z 0 (zargs 0 as) [] h (0, 0) (.inl v, h1)) (d : decode (zcode y) pc = .ok (.invokestatic idx, 3)) (hok : zOk z) (lk : zLkS y z idx as.length) (hrm : zRm y z) (hstk : stk = as.reverse ++ st) (hsz : (as.map zcat).sum ≤ zmax z) (hop : (st.map zcat).sum ≤ 8) (hn : n.1 + (zroom z).cells ≤ (zroom y).cells ∧ n.2 + (zroom z).slots ≤ (zroom y).slots)
    (kk : Ev y (pc + 3) L (v.toList ++ st) h1 (n.1 + (zroom z).cells, n.2 + (zroom z).slots) q) : Ev y pc L stk h n q := by
  subst hstk
  intro l p e s m args below meth c0 D cy A ad0 k0 J ad H locs ls hC hZ hW hl hL hs
  have hs2 : ∀ w ∈ as, zgo h.1.length w := fun w hw => hs w (List.mem_append_left _ (List.mem_reverse.mpr hw))
  have hs3 : ∀ w ∈ st, zgo h.1.length w := fun w hw => hs w (List.mem_append_right _ hw)
  have hM := zMetR hok hsz hz hs2 hC.1 D cy ad H.size
  have hts := hC.2.2.2.2.2.2.1
  refine zCore (a := (as.map (zc ad)).toArray) (va_runS (As := as.map (zc ad)) (Ts := zgw) ⟨hC.2.1, hC.2.2.1, hC.2.2.2.1, hC.2.2.2.2.2.1, hts⟩ hM ⟨callB_of as.length hts (zGood hok) (zwsM_nil hok.1) rfl rfl (hts _ hok.2.2.2.1) (hts _ lk.1) ⟨hok.2.2.2.2.1, hok.2.2.2.2.2, lk.2.2⟩ hrm, hts _ lk.2.1⟩ ⟨zBlind, fun U hU hWm => zPre (as := as) hC hZ hW hU hWm⟩ rfl (by rw [List.length_map]) hl.1 ?_ (lv_room (by rw [zcat_sum]; exact hop)) d hn) hC hZ hW hl hL hs3 kk
  show (as.reverse ++ st).map (zc ad) = (as.map (zc ad)).reverse ++ st.map (zc ad)
  rw [List.map_append, List.map_reverse]
/-- a private static method of a nest mate -/
theorem Ev.callSN {z : zM} {idx : Nat} {as : List zV} {stk : List zV} {v : Option zV} {h1 : zH} (hz : Ev z 0 (zargs 0 as) [] h (0, 0) (.inl v, h1)) (d : decode (zcode y) pc = .ok (.invokestatic idx, 3)) (hok : zOk z) (lk : ((zname y).cls, idx, zname z, "SlackRows") ∈ zNestM ∧ Cond.static (zname z) ∈ zgw ∧ (parseMethodDescriptor (zname z).desc).map (fun d => d.parameters.length) = some as.length) (hrm : zRm y z) (hstk : stk = as.reverse ++ st) (hsz : (as.map zcat).sum ≤ zmax z) (hop : (st.map zcat).sum ≤ 8) (hn : n.1 + (zroom z).cells ≤ (zroom y).cells ∧ n.2 + (zroom z).slots ≤ (zroom y).slots)
    (kk : Ev y (pc + 3) L (v.toList ++ st) h1 (n.1 + (zroom z).cells, n.2 + (zroom z).slots) q) : Ev y pc L stk h n q := by
  subst hstk
  intro l p e s m args below meth c0 D cy A ad0 k0 J ad H locs ls hC hZ hW hl hL hs
  have hs2 : ∀ w ∈ as, zgo h.1.length w := fun w hw => hs w (List.mem_append_left _ (List.mem_reverse.mpr hw))
  have hs3 : ∀ w ∈ st, zgo h.1.length w := fun w hw => hs w (List.mem_append_right _ hw)
  have hM := zMetR hok hsz hz hs2 hC.1 D cy ad H.size
  have hts := hC.2.2.2.2.2.2.1
  refine zCore (a := (as.map (zc ad)).toArray) (va_runSN (host := "SlackRows") (As := as.map (zc ad)) (Ts := zgw) ⟨hC.2.1, hC.2.2.1, hC.2.2.2.1, hC.2.2.2.2.2.1, hts⟩ hM ⟨va_cnB as.length hts (zGood hok) (zwsM_nil hok.1) rfl rfl (hZ.1 _ lk.1) (hts _ hok.2.2.2.1) ⟨hok.2.2.2.2.1, hok.2.2.2.2.2, lk.2.2⟩ hrm, hts _ lk.2.1, trivial⟩ ⟨zBlind, fun U hU hWm => zPre (as := as) hC hZ hW hU hWm⟩ rfl (by rw [List.length_map]) hl.1 ?_ (lv_room (by rw [zcat_sum]; exact hop)) d hn) hC hZ hW hl hL hs3 kk
  show (as.reverse ++ st).map (zc ad) = (as.map (zc ad)).reverse ++ st.map (zc ad)
  rw [List.map_append, List.map_reverse]
/-- a constructor -/
theorem Ev.callI {z : zM} {idx ob : Nat} {as : List zV} {stk : List zV} {h1 : zH} (hz : Ev z 0 (zargs 0 (zr (some ob) :: as)) [] h (0, 0) (.inl none, h1)) (d : decode (zcode y) pc = .ok (.invokespecial idx, 3)) (hok : zOk z) (lk : Cond.methodLink (zname y).cls idx (zname z) ∈ zgw ∧ Cond.instanceMethod (zname z) ∈ zgw ∧ (parseMethodDescriptor (zname z).desc).map (fun d => d.parameters.length) = some as.length) (hi : (zname z).name = "<init>") (hv : zret z = none) (hrm : zRm y z) (hstk : stk = as.reverse ++ zr (some ob) :: st) (hsz : ((zr (some ob) :: as).map zcat).sum ≤ zmax z) (hop : (st.map zcat).sum ≤ 8) (hn : n.1 + (zroom z).cells ≤ (zroom y).cells ∧ n.2 + (zroom z).slots ≤ (zroom y).slots)
    (kk : Ev y (pc + 3) L st h1 (n.1 + (zroom z).cells, n.2 + (zroom z).slots) q) : Ev y pc L stk h n q := by
  subst hstk
  intro l p e s m args below meth c0 D cy A ad0 k0 J ad H locs ls hC hZ hW hl hL hs
  have hs2 : ∀ w ∈ zr (some ob) :: as, zgo h.1.length w := fun w hw => hs w (by
    rcases List.mem_cons.mp hw with e | e
    · rw [e]; exact List.mem_append_right _ List.mem_cons_self
    · exact List.mem_append_left _ (List.mem_reverse.mpr e))
  have hs3 : ∀ w ∈ st, zgo h.1.length w := fun w hw => hs w (List.mem_append_right _ (List.mem_cons_of_mem _ hw))
  have hM := zMetR hok hsz hz hs2 hC.1 D cy ad H.size
  have hts := hC.2.2.2.2.2.2.1
  have hcb := callB_of as.length hts (zGood hok) (zwsM_nil hok.1) rfl rfl (hts _ hok.2.2.2.1) (hts _ lk.1) ⟨hok.2.2.2.2.1, hok.2.2.2.2.2, lk.2.2⟩ hrm
  rw [hv] at hcb
  refine zCore (v := none) (a := (Value.ref (ad ob) :: as.map (zc ad)).toArray) (va_runI (As := as.map (zc ad)) (Ts := zgw) (b := ad ob) ⟨hC.2.1, hC.2.2.1, hC.2.2.2.1, hC.2.2.2.2.2.1, hts⟩ hM ⟨hcb, hi, hts _ lk.2.1⟩ ⟨zBlind, fun U hU hWm => zPre (as := zr (some ob) :: as) hC hZ hW hU hWm⟩ rfl (by rw [List.length_map]) hl.1 ?_ (lv_room (by rw [zcat_sum]; exact hop)) d hn) hC hZ hW hl hL hs3 kk
  show (as.reverse ++ zr (some ob) :: st).map (zc ad) = (as.map (zc ad)).reverse ++ Value.ref (ad ob) :: st.map (zc ad)
  rw [List.map_append, List.map_reverse]
  rfl
/-- a private constructor of a nest mate -/
theorem Ev.callIN {z : zM} {idx ob : Nat} {as : List zV} {stk : List zV} {h1 : zH} (hz : Ev z 0 (zargs 0 (zr (some ob) :: as)) [] h (0, 0) (.inl none, h1)) (d : decode (zcode y) pc = .ok (.invokespecial idx, 3)) (hok : zOk z) (lk : ((zname y).cls, idx, zname z, "SlackRows") ∈ zNestM ∧ Cond.instanceMethod (zname z) ∈ zgw ∧ (parseMethodDescriptor (zname z).desc).map (fun d => d.parameters.length) = some as.length) (hi : (zname z).name = "<init>") (hv : zret z = none) (hrm : zRm y z) (hstk : stk = as.reverse ++ zr (some ob) :: st) (hsz : ((zr (some ob) :: as).map zcat).sum ≤ zmax z) (hop : (st.map zcat).sum ≤ 8) (hn : n.1 + (zroom z).cells ≤ (zroom y).cells ∧ n.2 + (zroom z).slots ≤ (zroom y).slots)
    (kk : Ev y (pc + 3) L st h1 (n.1 + (zroom z).cells, n.2 + (zroom z).slots) q) : Ev y pc L stk h n q := by
  subst hstk
  intro l p e s m args below meth c0 D cy A ad0 k0 J ad H locs ls hC hZ hW hl hL hs
  have hs2 : ∀ w ∈ zr (some ob) :: as, zgo h.1.length w := fun w hw => hs w (by
    rcases List.mem_cons.mp hw with e | e
    · rw [e]; exact List.mem_append_right _ List.mem_cons_self
    · exact List.mem_append_left _ (List.mem_reverse.mpr e))
  have hs3 : ∀ w ∈ st, zgo h.1.length w := fun w hw => hs w (List.mem_append_right _ (List.mem_cons_of_mem _ hw))
  have hM := zMetR hok hsz hz hs2 hC.1 D cy ad H.size
  have hts := hC.2.2.2.2.2.2.1
  have hcb := va_cnB (host := "SlackRows") as.length hts (zGood hok) (zwsM_nil hok.1) rfl rfl (hZ.1 _ lk.1) (hts _ hok.2.2.2.1) ⟨hok.2.2.2.2.1, hok.2.2.2.2.2, lk.2.2⟩ hrm
  rw [hv] at hcb
  refine zCore (v := none) (a := (Value.ref (ad ob) :: as.map (zc ad)).toArray) (va_runIN (host := "SlackRows") (As := as.map (zc ad)) (Ts := zgw) (b := ad ob) ⟨hC.2.1, hC.2.2.1, hC.2.2.2.1, hC.2.2.2.2.2.1, hts⟩ hM ⟨hcb, hi, hts _ lk.2.1⟩ ⟨zBlind, fun U hU hWm => zPre (as := zr (some ob) :: as) hC hZ hW hU hWm⟩ rfl (by rw [List.length_map]) hl.1 ?_ (lv_room (by rw [zcat_sum]; exact hop)) d hn) hC hZ hW hl hL hs3 kk
  show (as.reverse ++ zr (some ob) :: st).map (zc ad) = (as.map (zc ad)).reverse ++ Value.ref (ad ob) :: st.map (zc ad)
  rw [List.map_append, List.map_reverse]
  rfl
/-- Math.max, Math.min -/
theorem Ev.mmax {idx : Nat} {a b : Int} (d : decode (zcode y) pc = .ok (.invokestatic idx, 3)) (lk : Cond.methodLink (zname y).cls idx Lib.Math.max.name ∈ zgw ∧ Cond.static Lib.Math.max.name ∈ zgw ∧ Cond.initialized "java/lang/Math" ∈ zgw ∧ Cond.code Lib.Math.max.name Lib.Math.max.code 2 (some .int) ∈ zgw) (hrm : 1 ≤ (zroom y).frames ∧ 21 ≤ (zroom y).locals) (hop : (st.map zcat).sum ≤ 8) (hn : n.1 ≤ (zroom y).cells ∧ n.2 ≤ (zroom y).slots) (kk : Ev y (pc + 3) L (zi (if a < b then b else a) :: st) h n q) : Ev y pc L (zi b :: zi a :: st) h n q := by
  intro l p e s m args below meth c0 D cy A ad0 k0 J ad H locs ls hC hZ hW hl hL hs
  have hts := hC.2.2.2.2.2.2.1
  have ga := (zst_hd (zst_tl hs)).1
  have gb := (zst_hd hs).1
  refine va_mmax hC.2.1 hC.2.2.1 (hC.2.2.2.1.trans hl.1.symm) hC.2.2.2.2.2.1 (hts _ lk.1) (hts _ lk.2.1) (hts _ lk.2.2.1) (hts _ lk.2.2.2) hrm.1 (by rw [zcat_sum]; omega) hn.1 hn.2 d ?_
  have e9 : zc ad (zi (if a < b then b else a)) = .int (if Int32.ofInt a < Int32.ofInt b then Int32.ofInt b else Int32.ofInt a) := by
    by_cases hab : a < b
    · rw [if_pos hab, if_pos ((zI_lt ga gb).mpr hab)]; rfl
    · rw [if_neg hab, if_neg (fun g => hab ((zI_lt ga gb).mp g))]; rfl
  have k9 := kk l p e s m args below meth c0 D cy A ad0 k0 J ad H locs ls hC hZ hW hl hL (zst_go (zst_tl (zst_tl hs)) ⟨by split; exact gb; exact ga, trivial⟩)
  rw [List.map_cons, e9] at k9
  exact k9
theorem Ev.mmin {idx : Nat} {a b : Int} (d : decode (zcode y) pc = .ok (.invokestatic idx, 3)) (lk : Cond.methodLink (zname y).cls idx Lib.Math.min.name ∈ zgw ∧ Cond.static Lib.Math.min.name ∈ zgw ∧ Cond.initialized "java/lang/Math" ∈ zgw ∧ Cond.code Lib.Math.min.name Lib.Math.min.code 2 (some .int) ∈ zgw) (hrm : 1 ≤ (zroom y).frames ∧ 21 ≤ (zroom y).locals) (hop : (st.map zcat).sum ≤ 8) (hn : n.1 ≤ (zroom y).cells ∧ n.2 ≤ (zroom y).slots) (kk : Ev y (pc + 3) L (zi (if b < a then b else a) :: st) h n q) : Ev y pc L (zi b :: zi a :: st) h n q := by
  intro l p e s m args below meth c0 D cy A ad0 k0 J ad H locs ls hC hZ hW hl hL hs
  have hts := hC.2.2.2.2.2.2.1
  have ga := (zst_hd (zst_tl hs)).1
  have gb := (zst_hd hs).1
  refine va_mmin hC.2.1 hC.2.2.1 (hC.2.2.2.1.trans hl.1.symm) hC.2.2.2.2.2.1 (hts _ lk.1) (hts _ lk.2.1) (hts _ lk.2.2.1) (hts _ lk.2.2.2) hrm.1 (by rw [zcat_sum]; omega) hn.1 hn.2 d ?_
  have e9 : zc ad (zi (if b < a then b else a)) = .int (if Int32.ofInt b < Int32.ofInt a then Int32.ofInt b else Int32.ofInt a) := by
    by_cases hab : b < a
    · rw [if_pos hab, if_pos ((zI_lt gb ga).mpr hab)]; rfl
    · rw [if_neg hab, if_neg (fun g => hab ((zI_lt gb ga).mp g))]; rfl
  have k9 := kk l p e s m args below meth c0 D cy A ad0 k0 J ad H locs ls hC hZ hW hl hL (zst_go (zst_tl (zst_tl hs)) ⟨by split; exact gb; exact ga, trivial⟩)
  rw [List.map_cons, e9] at k9
  exact k9
theorem Ev.objInit {idx : Nat} {r : Option Nat} (d : decode (zcode y) pc = .ok (.invokespecial idx, 3)) (lk : Cond.methodLink (zname y).cls idx Lib.objectInit ∈ zgw ∧ Cond.instanceMethod Lib.objectInit ∈ zgw ∧ Cond.code Lib.objectInit ⟨#[0xb1]⟩ 1 none ∈ zgw) (hrm : 1 ≤ (zroom y).frames ∧ 20 ≤ (zroom y).locals) (hop : (st.map zcat).sum ≤ 8) {x : Nat} (hr : r = some x) (kk : Ev y (pc + 3) L st h n q) : Ev y pc L (zr r :: st) h n q := by
  subst hr
  intro l p e s m args below meth c0 D cy A ad0 k0 J ad H locs ls hC hZ hW hl hL hs
  have hts := hC.2.2.2.2.2.2.1
  exact W.objInit hC.2.1 hC.2.2.1 hC.2.2.2.2.2.1 (hts _ lk.1) (hts _ lk.2.1) (hts _ lk.2.2) rfl (hl.1.trans hC.2.2.2.1.symm) rfl d hrm.1 (by
    have e1 := lv_room (m := m) (pc := pc) (ls := ls) (rest := zc ad (zr (some x)) :: st.map (zc ad)) (st := st.map (zc ad)) (by rw [zcat_sum]; exact hop)
    have e2 : 2 * (F0 m pc ls (zc ad (zr (some x)) :: st.map (zc ad))).monitorRoom + ((st.map (zc ad)).map fun v => v.category).sum + 12 ≤ 20 := by omega
    exact Nat.le_trans e2 hrm.2) (kk l p e s m args below meth c0 D cy A ad0 k0 J ad H locs ls hC hZ hW hl hL (zst_tl hs))
end ZR3
end
section
abbrev M_X2_init : zM := (yX2_init, cX2_init, 1, none, [], ⟨1, 2, 153, 20⟩)
abbrev M_X2_append : zM := (yX2_append, cX2_append, 2, (some .boolean), [], ⟨0, 0, 0, 0⟩)
abbrev M_X2_findFault : zM := (yX2_findFault, cX2_findFault, 3, (some .int), [], ⟨9, 0, 0, 187⟩)
abbrev M_X2_rewind : zM := (yX2_rewind, cX2_rewind, 1, none, [], ⟨0, 0, 0, 0⟩)
abbrev M_X2_readCommand : zM := (yX2_readCommand, cX2_readCommand, 3, (some (.object "SlackRows$Command")), [], ⟨8, 0, 0, 165⟩)
abbrev M_X2_peek : zM := (yX2_peek, cX2_peek, 1, (some .int), [], ⟨0, 0, 0, 0⟩)
abbrev M_X2_isAtLetter : zM := (yX2_isAtLetter, cX2_isAtLetter, 1, (some .boolean), [], ⟨1, 0, 0, 22⟩)
abbrev M_X2_isAtDigit : zM := (yX2_isAtDigit, cX2_isAtDigit, 1, (some .boolean), [], ⟨1, 0, 0, 22⟩)
abbrev M_X2_skipSpaces : zM := (yX2_skipSpaces, cX2_skipSpaces, 2, (some .boolean), [], ⟨1, 0, 0, 20⟩)
abbrev M_X2_readWord : zM := (yX2_readWord, cX2_readWord, 3, (some (.object "SlackRows$Command")), [], ⟨7, 0, 0, 143⟩)
abbrev M_X2_isWordAt : zM := (yX2_isWordAt, cX2_isWordAt, 4, (some .boolean), [], ⟨6, 0, 0, 120⟩)
abbrev M_X2_readNumbers : zM := (yX2_readNumbers, cX2_readNumbers, 3, (some .boolean), [], ⟨3, 0, 0, 64⟩)
abbrev M_X2_readDigits : zM := (yX2_readDigits, cX2_readDigits, 3, (some .int), [], ⟨2, 0, 0, 42⟩)
abbrev M_X2_readSemicolon : zM := (yX2_readSemicolon, cX2_readSemicolon, 1, (some .boolean), [], ⟨2, 0, 0, 41⟩)
abbrev M_X3_init : zM := (yX3_init, cX3_init, 1, none, [], ⟨1, 1, 4, 20⟩)
abbrev M_X3_copyFrom : zM := (yX3_copyFrom, cX3_copyFrom, 2, none, [], ⟨0, 0, 0, 0⟩)
abbrev M_X3_isCritical : zM := (yX3_isCritical, cX3_isCritical, 1, (some .boolean), [], ⟨0, 0, 0, 0⟩)
abbrev M_X3_isCriticalTask : zM := (yX3_isCriticalTask, cX3_isCriticalTask, 1, (some .boolean), [], ⟨1, 0, 0, 20⟩)
abbrev M_X3_runsAt : zM := (yX3_runsAt, cX3_runsAt, 2, (some .boolean), [], ⟨0, 0, 0, 0⟩)
abbrev M_X3_standsIn : zM := (yX3_standsIn, cX3_standsIn, 3, (some .boolean), [], ⟨0, 0, 0, 0⟩)
abbrev M_X3_isWithin : zM := (yX3_isWithin, cX3_isWithin, 3, (some .boolean), [], ⟨0, 0, 0, 0⟩)
abbrev M_X3_whyNotTo : zM := (yX3_whyNotTo, cX3_whyNotTo, 2, (some .int), [], ⟨1, 0, 0, 22⟩)
abbrev M_X3_rowLength : zM := (yX3_rowLength, cX3_rowLength, 2, (some .int), [], ⟨0, 0, 0, 0⟩)
abbrev M_X3_lengthenRow : zM := (yX3_lengthenRow, cX3_lengthenRow, 3, none, [], ⟨0, 0, 0, 0⟩)
abbrev M_X3_longestRowBut : zM := (yX3_longestRowBut, cX3_longestRowBut, 4, (some .int), [], ⟨1, 0, 0, 21⟩)
abbrev M_X3_reserveWith : zM := (yX3_reserveWith, cX3_reserveWith, 3, (some .int), [], ⟨1, 0, 0, 21⟩)
abbrev M_X3_lengthWith : zM := (yX3_lengthWith, cX3_lengthWith, 2, (some .int), [], ⟨2, 0, 0, 43⟩)
abbrev M_X3_endIfLength : zM := (yX3_endIfLength, cX3_endIfLength, 6, (some .int), [], ⟨2, 0, 0, 44⟩)
abbrev M_X3_value : zM := (yX3_value, cX3_value, 2, (some .int), [], ⟨1, 0, 0, 20⟩)
abbrev M_X5_init : zM := (yX5_init, cX5_init, 2, none, [], ⟨2, 50, 504, 40⟩)
abbrev M_X5_copyFrom : zM := (yX5_copyFrom, cX5_copyFrom, 3, none, [], ⟨1, 0, 0, 21⟩)
abbrev M_X5_find : zM := (yX5_find, cX5_find, 3, (some (.object "SlackRows$Node")), [], ⟨0, 0, 0, 0⟩)
abbrev M_X5_plan : zM := (yX5_plan, cX5_plan, 2, none, [], ⟨3, 0, 0, 66⟩)
abbrev M_X5_findOrder : zM := (yX5_findOrder, cX5_findOrder, 6, none, [], ⟨1, 0, 0, 24⟩)
abbrev M_X5_findAhead : zM := (yX5_findAhead, cX5_findAhead, 5, (some (.object "SlackRows$Node")), [], ⟨0, 0, 0, 0⟩)
abbrev M_X5_measureLengths : zM := (yX5_measureLengths, cX5_measureLengths, 3, none, [], ⟨2, 0, 0, 44⟩)
abbrev M_X5_tellTimes : zM := (yX5_tellTimes, cX5_tellTimes, 4, none, [], ⟨1, 0, 0, 21⟩)
abbrev M_X5_refusal : zM := (yX5_refusal, cX5_refusal, 6, (some (.object "SlackRows$Refusal")), [], ⟨4, 0, 0, 87⟩)
abbrev M_X5_areInRange : zM := (yX5_areInRange, cX5_areInRange, 3, (some .boolean), [], ⟨1, 0, 0, 22⟩)
abbrev M_X5_isPossible : zM := (yX5_isPossible, cX5_isPossible, 4, (some .boolean), [], ⟨3, 0, 0, 64⟩)
abbrev M_X5_canMoveTo : zM := (yX5_canMoveTo, cX5_canMoveTo, 2, (some .boolean), [], ⟨2, 0, 0, 43⟩)
abbrev M_X5_carryOut : zM := (yX5_carryOut, cX5_carryOut, 6, (some .int), [], ⟨5, 0, 0, 113⟩)
abbrev M_X5_addNode : zM := (yX5_addNode, cX5_addNode, 6, (some .int), [], ⟨4, 0, 0, 87⟩)
abbrev M_X5_putLast : zM := (yX5_putLast, cX5_putLast, 7, (some .int), [], ⟨4, 0, 0, 87⟩)
abbrev M_X5_dropAll : zM := (yX5_dropAll, cX5_dropAll, 5, (some .int), [], ⟨4, 0, 0, 87⟩)
abbrev M_X5_changeDuration : zM := (yX5_changeDuration, cX5_changeDuration, 3, (some .int), [], ⟨4, 0, 0, 87⟩)
abbrev M_X5_changeReserve : zM := (yX5_changeReserve, cX5_changeReserve, 3, (some .int), [], ⟨4, 0, 0, 87⟩)
abbrev M_X5_end : zM := (yX5_end, cX5_end, 1, (some .int), [], ⟨0, 0, 0, 0⟩)
abbrev M_X5_lateness : zM := (yX5_lateness, cX5_lateness, 1, (some .int), [], ⟨1, 0, 0, 21⟩)
abbrev M_X5_value : zM := (yX5_value, cX5_value, 2, (some .int), [], ⟨4, 0, 0, 91⟩)
abbrev M_X5_countTasks : zM := (yX5_countTasks, cX5_countTasks, 3, (some .int), [], ⟨0, 0, 0, 0⟩)
abbrev M_X5_countCriticalTasks : zM := (yX5_countCriticalTasks, cX5_countCriticalTasks, 3, (some .int), [], ⟨2, 0, 0, 40⟩)
abbrev M_X5_countCriticalRows : zM := (yX5_countCriticalRows, cX5_countCriticalRows, 4, (some .int), [], ⟨3, 0, 0, 68⟩)
abbrev M_X5_sumOfDurations : zM := (yX5_sumOfDurations, cX5_sumOfDurations, 3, (some .int), [], ⟨0, 0, 0, 0⟩)
abbrev M_X5_sumOfReserves : zM := (yX5_sumOfReserves, cX5_sumOfReserves, 3, (some .int), [], ⟨0, 0, 0, 0⟩)
abbrev M_X5_mostRunning : zM := (yX5_mostRunning, cX5_mostRunning, 3, (some .int), [], ⟨2, 0, 0, 44⟩)
abbrev M_X5_countRunning : zM := (yX5_countRunning, cX5_countRunning, 4, (some .int), [], ⟨1, 0, 0, 21⟩)
abbrev M_X5_rowValue : zM := (yX5_rowValue, cX5_rowValue, 4, (some .int), [], ⟨3, 0, 0, 68⟩)
abbrev M_X5_countChildren : zM := (yX5_countChildren, cX5_countChildren, 5, (some .int), [], ⟨1, 0, 0, 22⟩)
abbrev M_X5_isCriticalRow : zM := (yX5_isCriticalRow, cX5_isCriticalRow, 3, (some .boolean), [], ⟨2, 0, 0, 46⟩)
abbrev M_X5_childNumber : zM := (yX5_childNumber, cX5_childNumber, 6, (some .int), [], ⟨1, 0, 0, 22⟩)
abbrev M_X5_criticalNumber : zM := (yX5_criticalNumber, cX5_criticalNumber, 4, (some .int), [], ⟨3, 0, 0, 65⟩)
abbrev M_X5_nextCritical : zM := (yX5_nextCritical, cX5_nextCritical, 6, (some (.object "SlackRows$Node")), [], ⟨2, 0, 0, 40⟩)
abbrev M_X5_startsBefore : zM := (yX5_startsBefore, cX5_startsBefore, 2, (some .boolean), [], ⟨0, 0, 0, 0⟩)
abbrev M_X5_nextNumbered : zM := (yX5_nextNumbered, cX5_nextNumbered, 5, (some (.object "SlackRows$Node")), [], ⟨0, 0, 0, 0⟩)
abbrev M_X5_greatestDuration : zM := (yX5_greatestDuration, cX5_greatestDuration, 3, (some .int), [], ⟨3, 0, 0, 69⟩)
abbrev M_X5_cutNumber : zM := (yX5_cutNumber, cX5_cutNumber, 4, (some .int), [], ⟨3, 0, 0, 69⟩)
abbrev M_X5_slackIfBorrowed : zM := (yX5_slackIfBorrowed, cX5_slackIfBorrowed, 5, (some .int), [], ⟨4, 0, 0, 87⟩)
abbrev M_X5_mixNodes : zM := (yX5_mixNodes, cX5_mixNodes, 7, (some .long), [], ⟨5, 0, 0, 117⟩)
abbrev M_X5_mixNode : zM := (yX5_mixNode, cX5_mixNode, 7, (some .long), [], ⟨4, 0, 0, 91⟩)
abbrev M_X5_mixCritical : zM := (yX5_mixCritical, cX5_mixCritical, 7, (some .long), [], ⟨3, 0, 0, 65⟩)
abbrev M_X6_init : zM := (yX6_init, cX6_init, 2, none, [], ⟨3, 259, 2711, 61⟩)
abbrev M_X6_addGroup : zM := (yX6_addGroup, cX6_addGroup, 3, (some .int), [], ⟨8, 3, 18, 162⟩)
abbrev M_X6_addTask : zM := (yX6_addTask, cX6_addTask, 4, (some .int), [], ⟨8, 3, 18, 162⟩)
abbrev M_X6_move : zM := (yX6_move, cX6_move, 4, (some .int), [], ⟨8, 3, 18, 162⟩)
abbrev M_X6_remove : zM := (yX6_remove, cX6_remove, 2, (some .int), [], ⟨8, 3, 18, 162⟩)
abbrev M_X6_setDuration : zM := (yX6_setDuration, cX6_setDuration, 3, (some .int), [], ⟨8, 3, 18, 162⟩)
abbrev M_X6_borrow : zM := (yX6_borrow, cX6_borrow, 3, (some .int), [], ⟨8, 3, 18, 162⟩)
abbrev M_X6_giveBack : zM := (yX6_giveBack, cX6_giveBack, 3, (some .int), [], ⟨8, 3, 18, 162⟩)
abbrev M_X6_setDeadline : zM := (yX6_setDeadline, cX6_setDeadline, 2, (some .int), [], ⟨8, 3, 18, 162⟩)
abbrev M_X6_node : zM := (yX6_node, cX6_node, 4, (some .int), [], ⟨7, 2, 12, 112⟩)
abbrev M_X6_row : zM := (yX6_row, cX6_row, 5, (some .int), [], ⟨7, 4, 24, 112⟩)
abbrev M_X6_child : zM := (yX6_child, cX6_child, 5, (some .int), [], ⟨7, 4, 24, 112⟩)
abbrev M_X6_critical : zM := (yX6_critical, cX6_critical, 2, (some .int), [], ⟨7, 1, 6, 110⟩)
abbrev M_X6_running : zM := (yX6_running, cX6_running, 2, (some .int), [], ⟨7, 1, 6, 110⟩)
abbrev M_X6_whole : zM := (yX6_whole, cX6_whole, 2, (some .int), [], ⟨7, 1, 6, 133⟩)
abbrev M_X6_endWith : zM := (yX6_endWith, cX6_endWith, 4, (some .int), [], ⟨7, 3, 18, 112⟩)
abbrev M_X6_growsTo : zM := (yX6_growsTo, cX6_growsTo, 3, (some .int), [], ⟨7, 2, 12, 112⟩)
abbrev M_X6_bestCut : zM := (yX6_bestCut, cX6_bestCut, 1, (some .int), [], ⟨4, 0, 0, 92⟩)
abbrev M_X6_slackIf : zM := (yX6_slackIf, cX6_slackIf, 5, (some .int), [], ⟨7, 3, 18, 112⟩)
abbrev M_X6_reason : zM := (yX6_reason, cX6_reason, 3, (some .int), [], ⟨7, 2, 12, 112⟩)
abbrev M_X6_type : zM := (yX6_type, cX6_type, 2, (some .int), [], ⟨7, 2, 12, 112⟩)
abbrev M_X6_clearCommands : zM := (yX6_clearCommands, cX6_clearCommands, 2, (some .int), [], ⟨0, 0, 0, 0⟩)
abbrev M_X6_runCommands : zM := (yX6_runCommands, cX6_runCommands, 2, (some .int), [], ⟨10, 0, 0, 212⟩)
abbrev M_X6_undo : zM := (yX6_undo, cX6_undo, 3, (some .int), [], ⟨6, 1, 6, 90⟩)
abbrev M_X6_digest : zM := (yX6_digest, cX6_digest, 4, (some .long), [], ⟨6, 0, 0, 143⟩)
abbrev M_X6_mix : zM := (yX6_mix, cX6_mix, 3, (some .long), [], ⟨0, 0, 0, 0⟩)
abbrev M_X6_isBetween : zM := (yX6_isBetween, cX6_isBetween, 3, (some .boolean), [], ⟨0, 0, 0, 0⟩)
abbrev M_X6_existing : zM := (yX6_existing, cX6_existing, 3, (some (.object "SlackRows$Node")), [], ⟨6, 1, 6, 90⟩)
abbrev M_X6_requireRange : zM := (yX6_requireRange, cX6_requireRange, 3, none, [], ⟨6, 1, 6, 90⟩)
abbrev M_X6_requireNotNegative : zM := (yX6_requireNotNegative, cX6_requireNotNegative, 1, none, [], ⟨6, 1, 6, 90⟩)
abbrev M_X6_requireGroup : zM := (yX6_requireGroup, cX6_requireGroup, 1, none, [], ⟨6, 1, 6, 90⟩)
abbrev M_X6_requireTask : zM := (yX6_requireTask, cX6_requireTask, 1, none, [], ⟨6, 1, 6, 90⟩)
abbrev M_X6_requireAllowed : zM := (yX6_requireAllowed, cX6_requireAllowed, 1, none, [], ⟨6, 3, 18, 90⟩)
abbrev M_X6_change : zM := (yX6_change, cX6_change, 5, (some .int), [], ⟨7, 3, 18, 138⟩)
abbrev M_X6_save : zM := (yX6_save, cX6_save, 3, none, [], ⟨2, 0, 0, 43⟩)
abbrev M_X6_runFaultless : zM := (yX6_runFaultless, cX6_runFaultless, 6, (some .int), [], ⟨9, 0, 0, 187⟩)
abbrev M_X6_wholeValue : zM := (yX6_wholeValue, cX6_wholeValue, 2, (some .int), [], ⟨5, 0, 0, 112⟩)
abbrev M_X7_init : zM := (yX7_init, cX7_init, 1, none, [], ⟨1, 10, 1347, 20⟩)
abbrev M_X7_in : zM := (yX7_in, cX7_in, 3, (some .boolean), [], ⟨0, 0, 0, 0⟩)
abbrev M_X7_copies : zM := (yX7_copies, cX7_copies, 4, none, [], ⟨0, 0, 0, 0⟩)
abbrev M_X7_saves : zM := (yX7_saves, cX7_saves, 2, none, [], ⟨1, 0, 0, 23⟩)
abbrev M_X7_of : zM := (yX7_of, cX7_of, 3, (some .int), [], ⟨0, 0, 0, 0⟩)
abbrev M_X7_set : zM := (yX7_set, cX7_set, 4, none, [], ⟨0, 0, 0, 0⟩)
abbrev M_X7_find : zM := (yX7_find, cX7_find, 3, (some .int), [], ⟨1, 0, 0, 22⟩)
abbrev M_X7_isTask : zM := (yX7_isTask, cX7_isTask, 2, (some .boolean), [], ⟨2, 0, 0, 44⟩)
abbrev M_X7_thrown : zM := (yX7_thrown, cX7_thrown, 1, (some .int), [], ⟨0, 0, 0, 0⟩)
abbrev M_X7_isRefused : zM := (yX7_isRefused, cX7_isRefused, 2, (some .boolean), [], ⟨0, 0, 0, 0⟩)
abbrev M_X7_isBarred : zM := (yX7_isBarred, cX7_isBarred, 2, (some .boolean), [], ⟨1, 0, 0, 21⟩)
abbrev M_X7_isIn : zM := (yX7_isIn, cX7_isIn, 4, (some .boolean), [], ⟨1, 0, 0, 22⟩)
abbrev M_X7_rowLength : zM := (yX7_rowLength, cX7_rowLength, 5, (some .int), [], ⟨2, 0, 0, 45⟩)
abbrev M_X7_layOrder : zM := (yX7_layOrder, cX7_layOrder, 5, none, [], ⟨1, 0, 0, 22⟩)
abbrev M_X7_lengthOf : zM := (yX7_lengthOf, cX7_lengthOf, 5, (some .int), [], ⟨3, 0, 0, 69⟩)
abbrev M_X7_rowSlack : zM := (yX7_rowSlack, cX7_rowSlack, 3, (some .int), [], ⟨3, 0, 0, 69⟩)
abbrev M_X7_layTimes : zM := (yX7_layTimes, cX7_layTimes, 6, none, [], ⟨4, 0, 0, 91⟩)
abbrev M_X7_lay : zM := (yX7_lay, cX7_lay, 2, none, [], ⟨5, 0, 0, 116⟩)
abbrev M_X7_end : zM := (yX7_end, cX7_end, 1, (some .int), [], ⟨6, 0, 0, 137⟩)
abbrev M_X7_lateness : zM := (yX7_lateness, cX7_lateness, 2, (some .int), [], ⟨7, 0, 0, 157⟩)
abbrev M_X7_childrenOf : zM := (yX7_childrenOf, cX7_childrenOf, 5, (some .int), [], ⟨2, 0, 0, 45⟩)
abbrev M_X7_whyNotAdd : zM := (yX7_whyNotAdd, cX7_whyNotAdd, 4, (some .int), [], ⟨3, 0, 0, 65⟩)
abbrev M_X7_adds : zM := (yX7_adds, cX7_adds, 7, (some .int), [], ⟨3, 0, 0, 69⟩)
abbrev M_X7_addGroup : zM := (yX7_addGroup, cX7_addGroup, 3, (some .int), [], ⟨4, 0, 0, 95⟩)
abbrev M_X7_addTask : zM := (yX7_addTask, cX7_addTask, 4, (some .int), [], ⟨4, 0, 0, 95⟩)
abbrev M_X7_isBelow : zM := (yX7_isBelow, cX7_isBelow, 4, (some .boolean), [], ⟨2, 0, 0, 44⟩)
abbrev M_X7_reasonOf : zM := (yX7_reasonOf, cX7_reasonOf, 3, (some .int), [], ⟨3, 0, 0, 67⟩)
abbrev M_X7_whyNotMove : zM := (yX7_whyNotMove, cX7_whyNotMove, 4, (some .int), [], ⟨4, 0, 0, 89⟩)
abbrev M_X7_leaves : zM := (yX7_leaves, cX7_leaves, 5, none, [], ⟨2, 0, 0, 45⟩)
abbrev M_X7_moves : zM := (yX7_moves, cX7_moves, 6, (some .int), [], ⟨3, 0, 0, 69⟩)
abbrev M_X7_move : zM := (yX7_move, cX7_move, 4, (some .int), [], ⟨5, 0, 0, 112⟩)
abbrev M_X7_whyNotRemove : zM := (yX7_whyNotRemove, cX7_whyNotRemove, 2, (some .int), [], ⟨2, 0, 0, 44⟩)
abbrev M_X7_removes : zM := (yX7_removes, cX7_removes, 6, (some .int), [], ⟨3, 0, 0, 69⟩)
abbrev M_X7_remove : zM := (yX7_remove, cX7_remove, 2, (some .int), [], ⟨4, 0, 0, 94⟩)
abbrev M_X7_whyNotTask : zM := (yX7_whyNotTask, cX7_whyNotTask, 3, (some .int), [], ⟨3, 0, 0, 65⟩)
abbrev M_X7_lasts : zM := (yX7_lasts, cX7_lasts, 6, none, [], ⟨2, 0, 0, 44⟩)
abbrev M_X7_setDuration : zM := (yX7_setDuration, cX7_setDuration, 3, (some .int), [], ⟨7, 0, 0, 157⟩)
abbrev M_X7_slackOf : zM := (yX7_slackOf, cX7_slackOf, 2, (some .int), [], ⟨6, 0, 0, 137⟩)
abbrev M_X7_whyNotBorrow : zM := (yX7_whyNotBorrow, cX7_whyNotBorrow, 4, (some .int), [], ⟨7, 0, 0, 158⟩)
abbrev M_X7_whyNotBack : zM := (yX7_whyNotBack, cX7_whyNotBack, 4, (some .int), [], ⟨4, 0, 0, 87⟩)
abbrev M_X7_reserves : zM := (yX7_reserves, cX7_reserves, 4, (some .int), [], ⟨2, 0, 0, 44⟩)
abbrev M_X7_borrow : zM := (yX7_borrow, cX7_borrow, 3, (some .int), [], ⟨8, 0, 0, 181⟩)
abbrev M_X7_giveBack : zM := (yX7_giveBack, cX7_giveBack, 3, (some .int), [], ⟨5, 0, 0, 110⟩)
abbrev M_X7_whyNotUntil : zM := (yX7_whyNotUntil, cX7_whyNotUntil, 1, (some .int), [], ⟨1, 0, 0, 22⟩)
abbrev M_X7_setDeadline : zM := (yX7_setDeadline, cX7_setDeadline, 2, (some .int), [], ⟨8, 0, 0, 178⟩)
abbrev M_X7_nodeValue : zM := (yX7_nodeValue, cX7_nodeValue, 4, (some .int), [], ⟨4, 0, 0, 91⟩)
abbrev M_X7_node : zM := (yX7_node, cX7_node, 3, (some .int), [], ⟨6, 0, 0, 137⟩)
abbrev M_X7_isCriticalRow : zM := (yX7_isCriticalRow, cX7_isCriticalRow, 3, (some .boolean), [], ⟨4, 0, 0, 91⟩)
abbrev M_X7_whyNotRow : zM := (yX7_whyNotRow, cX7_whyNotRow, 3, (some .int), [], ⟨3, 0, 0, 65⟩)
abbrev M_X7_rowValue : zM := (yX7_rowValue, cX7_rowValue, 4, (some .int), [], ⟨5, 0, 0, 113⟩)
abbrev M_X7_row : zM := (yX7_row, cX7_row, 4, (some .int), [], ⟨6, 0, 0, 137⟩)
abbrev M_X7_child : zM := (yX7_child, cX7_child, 5, (some .int), [], ⟨4, 0, 0, 87⟩)
abbrev M_X7_layCritical : zM := (yX7_layCritical, cX7_layCritical, 4, (some .int), [], ⟨6, 0, 0, 137⟩)
abbrev M_X7_critical : zM := (yX7_critical, cX7_critical, 3, (some .int), [], ⟨7, 0, 0, 160⟩)
abbrev M_X7_runningAt : zM := (yX7_runningAt, cX7_runningAt, 4, (some .int), [], ⟨1, 0, 0, 22⟩)
abbrev M_X7_running : zM := (yX7_running, cX7_running, 2, (some .int), [], ⟨6, 0, 0, 137⟩)
abbrev M_X7_wholeValue : zM := (yX7_wholeValue, cX7_wholeValue, 11, (some .int), [], ⟨8, 0, 0, 178⟩)
abbrev M_X7_whole : zM := (yX7_whole, cX7_whole, 2, (some .int), [], ⟨9, 0, 0, 208⟩)
abbrev M_X7_putAside : zM := (yX7_putAside, cX7_putAside, 1, none, [], ⟨1, 0, 0, 23⟩)
abbrev M_X7_comesBack : zM := (yX7_comesBack, cX7_comesBack, 1, none, [], ⟨1, 0, 0, 23⟩)
abbrev M_X7_endBy : zM := (yX7_endBy, cX7_endBy, 4, (some .int), [], ⟨7, 0, 0, 157⟩)
abbrev M_X7_endWith : zM := (yX7_endWith, cX7_endWith, 3, (some .int), [], ⟨8, 0, 0, 180⟩)
abbrev M_X7_growsTo : zM := (yX7_growsTo, cX7_growsTo, 4, (some .int), [], ⟨8, 0, 0, 180⟩)
abbrev M_X7_cutTask : zM := (yX7_cutTask, cX7_cutTask, 4, (some .int), [], ⟨8, 0, 0, 180⟩)
abbrev M_X7_bestCut : zM := (yX7_bestCut, cX7_bestCut, 1, (some .int), [], ⟨9, 0, 0, 203⟩)
abbrev M_X7_slackIf : zM := (yX7_slackIf, cX7_slackIf, 5, (some .int), [], ⟨7, 0, 0, 158⟩)
abbrev M_X7_reason : zM := (yX7_reason, cX7_reason, 3, (some .int), [], ⟨4, 0, 0, 89⟩)
abbrev M_X7_type : zM := (yX7_type, cX7_type, 2, (some .int), [], ⟨1, 0, 0, 22⟩)
abbrev M_X7_clearCommands : zM := (yX7_clearCommands, cX7_clearCommands, 2, (some .int), [], ⟨0, 0, 0, 0⟩)
abbrev M_X7_here : zM := (yX7_here, cX7_here, 1, (some .int), [], ⟨0, 0, 0, 0⟩)
abbrev M_X7_passSpaces : zM := (yX7_passSpaces, cX7_passSpaces, 1, none, [], ⟨1, 0, 0, 20⟩)
abbrev M_X7_word : zM := (yX7_word, cX7_word, 5, (some .int), [], ⟨1, 0, 0, 22⟩)
abbrev M_X7_numbersOf : zM := (yX7_numbersOf, cX7_numbersOf, 1, (some .int), [], ⟨0, 0, 0, 0⟩)
abbrev M_X7_isNumber : zM := (yX7_isNumber, cX7_isNumber, 3, (some .boolean), [], ⟨2, 0, 0, 40⟩)
abbrev M_X7_command : zM := (yX7_command, cX7_command, 3, (some .int), [], ⟨3, 0, 0, 62⟩)
abbrev M_X7_fault : zM := (yX7_fault, cX7_fault, 1, (some .int), [], ⟨4, 0, 0, 84⟩)
abbrev M_X7_does : zM := (yX7_does, cX7_does, 6, (some .boolean), [], ⟨8, 0, 0, 181⟩)
abbrev M_X7_changes : zM := (yX7_changes, cX7_changes, 5, none, [], ⟨4, 0, 0, 95⟩)
abbrev M_X7_runCommands : zM := (yX7_runCommands, cX7_runCommands, 3, (some .int), [], ⟨9, 0, 0, 206⟩)
abbrev M_X7_undo : zM := (yX7_undo, cX7_undo, 1, (some .int), [], ⟨1, 0, 0, 23⟩)
abbrev M_X7_digest : zM := (yX7_digest, cX7_digest, 6, (some .long), [], ⟨10, 0, 0, 229⟩)
abbrev M_L_addGroup : zM := (yL_addGroup, cL_addGroup, 5, (some .int), [(0, 10, 13, 13), (0, 10, 17, 15), (0, 10, 21, 17)], ⟨9, 3, 18, 184⟩)
abbrev M_L_addTask : zM := (yL_addTask, cL_addTask, 6, (some .int), [(0, 12, 15, 13), (0, 12, 19, 15), (0, 12, 23, 17)], ⟨9, 3, 18, 185⟩)
abbrev M_L_move : zM := (yL_move, cL_move, 6, (some .int), [(0, 12, 15, 13), (0, 12, 19, 15), (0, 12, 23, 17)], ⟨9, 3, 18, 185⟩)
abbrev M_L_remove : zM := (yL_remove, cL_remove, 4, (some .int), [(0, 9, 12, 13), (0, 9, 15, 17)], ⟨9, 3, 18, 183⟩)
abbrev M_L_setDuration : zM := (yL_setDuration, cL_setDuration, 5, (some .int), [(0, 10, 13, 13), (0, 10, 17, 15), (0, 10, 21, 17)], ⟨9, 3, 18, 184⟩)
abbrev M_L_borrow : zM := (yL_borrow, cL_borrow, 5, (some .int), [(0, 10, 13, 13), (0, 10, 17, 15), (0, 10, 21, 17)], ⟨9, 3, 18, 184⟩)
abbrev M_L_giveBack : zM := (yL_giveBack, cL_giveBack, 5, (some .int), [(0, 10, 13, 13), (0, 10, 17, 15), (0, 10, 21, 17)], ⟨9, 3, 18, 184⟩)
abbrev M_L_setDeadline : zM := (yL_setDeadline, cL_setDeadline, 4, (some .int), [(0, 9, 12, 15)], ⟨9, 3, 18, 183⟩)
abbrev M_L_node : zM := (yL_node, cL_node, 5, (some .int), [(0, 10, 13, 13), (0, 10, 17, 15)], ⟨8, 2, 12, 135⟩)
abbrev M_L_row : zM := (yL_row, cL_row, 6, (some .int), [(0, 12, 15, 13), (0, 12, 19, 15), (0, 12, 23, 17)], ⟨8, 4, 24, 136⟩)
abbrev M_L_child : zM := (yL_child, cL_child, 6, (some .int), [(0, 12, 15, 13), (0, 12, 19, 15), (0, 12, 23, 17)], ⟨8, 4, 24, 136⟩)
abbrev M_L_critical : zM := (yL_critical, cL_critical, 4, (some .int), [(0, 9, 12, 15)], ⟨8, 1, 6, 131⟩)
abbrev M_L_running : zM := (yL_running, cL_running, 4, (some .int), [(0, 9, 12, 15)], ⟨8, 1, 6, 131⟩)
abbrev M_L_whole : zM := (yL_whole, cL_whole, 4, (some .int), [(0, 9, 12, 15)], ⟨8, 1, 6, 154⟩)
abbrev M_L_endWith : zM := (yL_endWith, cL_endWith, 5, (some .int), [(0, 10, 13, 13), (0, 10, 17, 15), (0, 10, 21, 17)], ⟨8, 3, 18, 135⟩)
abbrev M_L_growsTo : zM := (yL_growsTo, cL_growsTo, 4, (some .int), [(0, 9, 12, 13), (0, 9, 15, 17)], ⟨8, 2, 12, 134⟩)
abbrev M_L_slackIf : zM := (yL_slackIf, cL_slackIf, 5, (some .int), [(0, 10, 13, 13), (0, 10, 17, 17)], ⟨8, 3, 18, 136⟩)
abbrev M_L_reason : zM := (yL_reason, cL_reason, 5, (some .int), [(0, 10, 13, 13)], ⟨8, 2, 12, 134⟩)
abbrev M_L_type : zM := (yL_type, cL_type, 4, (some .int), [(0, 9, 12, 15), (0, 9, 15, 17)], ⟨8, 2, 12, 133⟩)
abbrev M_L_undo : zM := (yL_undo, cL_undo, 3, (some .int), [(0, 8, 11, 17)], ⟨7, 1, 6, 112⟩)
theorem ok_X2_init : zOk M_X2_init := ⟨rfl, by decide +kernel, zgw_in (List.mem_of_getElem? (i := 123) (by decide +kernel)) rfl, zgw_in (List.mem_of_getElem? (i := 92) (by decide +kernel)) rfl, by decide +kernel, by decide +kernel⟩
theorem ok_X2_append : zOk M_X2_append := ⟨rfl, by decide +kernel, zgw_in (List.mem_of_getElem? (i := 927) (by decide +kernel)) rfl, zgw_in (List.mem_of_getElem? (i := 92) (by decide +kernel)) rfl, by decide +kernel, by decide +kernel⟩
theorem ok_X2_findFault : zOk M_X2_findFault := ⟨rfl, by decide +kernel, zgw_in (List.mem_of_getElem? (i := 295) (by decide +kernel)) rfl, zgw_in (List.mem_of_getElem? (i := 92) (by decide +kernel)) rfl, by decide +kernel, by decide +kernel⟩
theorem ok_X2_rewind : zOk M_X2_rewind := ⟨rfl, by decide +kernel, zgw_in (List.mem_of_getElem? (i := 299) (by decide +kernel)) rfl, zgw_in (List.mem_of_getElem? (i := 92) (by decide +kernel)) rfl, by decide +kernel, by decide +kernel⟩
theorem ok_X2_readCommand : zOk M_X2_readCommand := ⟨rfl, by decide +kernel, zgw_in (List.mem_of_getElem? (i := 303) (by decide +kernel)) rfl, zgw_in (List.mem_of_getElem? (i := 92) (by decide +kernel)) rfl, by decide +kernel, by decide +kernel⟩
theorem ok_X2_peek : zOk M_X2_peek := ⟨rfl, by decide +kernel, zgw_in (List.mem_of_getElem? (i := 311) (by decide +kernel)) rfl, zgw_in (List.mem_of_getElem? (i := 92) (by decide +kernel)) rfl, by decide +kernel, by decide +kernel⟩
theorem ok_X2_isAtLetter : zOk M_X2_isAtLetter := ⟨rfl, by decide +kernel, zgw_in (List.mem_of_getElem? (i := 319) (by decide +kernel)) rfl, zgw_in (List.mem_of_getElem? (i := 92) (by decide +kernel)) rfl, by decide +kernel, by decide +kernel⟩
theorem ok_X2_isAtDigit : zOk M_X2_isAtDigit := ⟨rfl, by decide +kernel, zgw_in (List.mem_of_getElem? (i := 384) (by decide +kernel)) rfl, zgw_in (List.mem_of_getElem? (i := 92) (by decide +kernel)) rfl, by decide +kernel, by decide +kernel⟩
theorem ok_X2_skipSpaces : zOk M_X2_skipSpaces := ⟨rfl, by decide +kernel, zgw_in (List.mem_of_getElem? (i := 307) (by decide +kernel)) rfl, zgw_in (List.mem_of_getElem? (i := 92) (by decide +kernel)) rfl, by decide +kernel, by decide +kernel⟩
theorem ok_X2_readWord : zOk M_X2_readWord := ⟨rfl, by decide +kernel, zgw_in (List.mem_of_getElem? (i := 315) (by decide +kernel)) rfl, zgw_in (List.mem_of_getElem? (i := 92) (by decide +kernel)) rfl, by decide +kernel, by decide +kernel⟩
theorem ok_X2_isWordAt : zOk M_X2_isWordAt := ⟨rfl, by decide +kernel, zgw_in (List.mem_of_getElem? (i := 328) (by decide +kernel)) rfl, zgw_in (List.mem_of_getElem? (i := 92) (by decide +kernel)) rfl, by decide +kernel, by decide +kernel⟩
theorem ok_X2_readNumbers : zOk M_X2_readNumbers := ⟨rfl, by decide +kernel, zgw_in (List.mem_of_getElem? (i := 380) (by decide +kernel)) rfl, zgw_in (List.mem_of_getElem? (i := 92) (by decide +kernel)) rfl, by decide +kernel, by decide +kernel⟩
theorem ok_X2_readDigits : zOk M_X2_readDigits := ⟨rfl, by decide +kernel, zgw_in (List.mem_of_getElem? (i := 388) (by decide +kernel)) rfl, zgw_in (List.mem_of_getElem? (i := 92) (by decide +kernel)) rfl, by decide +kernel, by decide +kernel⟩
theorem ok_X2_readSemicolon : zOk M_X2_readSemicolon := ⟨rfl, by decide +kernel, zgw_in (List.mem_of_getElem? (i := 392) (by decide +kernel)) rfl, zgw_in (List.mem_of_getElem? (i := 92) (by decide +kernel)) rfl, by decide +kernel, by decide +kernel⟩
theorem ok_X3_init : zOk M_X3_init := ⟨rfl, by decide +kernel, zgw_in (List.mem_of_getElem? (i := 156) (by decide +kernel)) rfl, zgw_in (List.mem_of_getElem? (i := 94) (by decide +kernel)) rfl, by decide +kernel, by decide +kernel⟩
theorem ok_X3_copyFrom : zOk M_X3_copyFrom := ⟨rfl, by decide +kernel, zgw_in (List.mem_of_getElem? (i := 407) (by decide +kernel)) rfl, zgw_in (List.mem_of_getElem? (i := 94) (by decide +kernel)) rfl, by decide +kernel, by decide +kernel⟩
theorem ok_X3_isCritical : zOk M_X3_isCritical := ⟨rfl, by decide +kernel, zgw_in (List.mem_of_getElem? (i := 551) (by decide +kernel)) rfl, zgw_in (List.mem_of_getElem? (i := 94) (by decide +kernel)) rfl, by decide +kernel, by decide +kernel⟩
theorem ok_X3_isCriticalTask : zOk M_X3_isCriticalTask := ⟨rfl, by decide +kernel, zgw_in (List.mem_of_getElem? (i := 547) (by decide +kernel)) rfl, zgw_in (List.mem_of_getElem? (i := 94) (by decide +kernel)) rfl, by decide +kernel, by decide +kernel⟩
theorem ok_X3_runsAt : zOk M_X3_runsAt := ⟨rfl, by decide +kernel, zgw_in (List.mem_of_getElem? (i := 588) (by decide +kernel)) rfl, zgw_in (List.mem_of_getElem? (i := 94) (by decide +kernel)) rfl, by decide +kernel, by decide +kernel⟩
theorem ok_X3_standsIn : zOk M_X3_standsIn := ⟨rfl, by decide +kernel, zgw_in (List.mem_of_getElem? (i := 568) (by decide +kernel)) rfl, zgw_in (List.mem_of_getElem? (i := 94) (by decide +kernel)) rfl, by decide +kernel, by decide +kernel⟩
theorem ok_X3_isWithin : zOk M_X3_isWithin := ⟨rfl, by decide +kernel, zgw_in (List.mem_of_getElem? (i := 458) (by decide +kernel)) rfl, zgw_in (List.mem_of_getElem? (i := 94) (by decide +kernel)) rfl, by decide +kernel, by decide +kernel⟩
theorem ok_X3_whyNotTo : zOk M_X3_whyNotTo := ⟨rfl, by decide +kernel, zgw_in (List.mem_of_getElem? (i := 454) (by decide +kernel)) rfl, zgw_in (List.mem_of_getElem? (i := 94) (by decide +kernel)) rfl, by decide +kernel, by decide +kernel⟩
theorem ok_X3_rowLength : zOk M_X3_rowLength := ⟨rfl, by decide +kernel, zgw_in (List.mem_of_getElem? (i := 275) (by decide +kernel)) rfl, zgw_in (List.mem_of_getElem? (i := 94) (by decide +kernel)) rfl, by decide +kernel, by decide +kernel⟩
theorem ok_X3_lengthenRow : zOk M_X3_lengthenRow := ⟨rfl, by decide +kernel, zgw_in (List.mem_of_getElem? (i := 495) (by decide +kernel)) rfl, zgw_in (List.mem_of_getElem? (i := 94) (by decide +kernel)) rfl, by decide +kernel, by decide +kernel⟩
theorem ok_X3_longestRowBut : zOk M_X3_longestRowBut := ⟨rfl, by decide +kernel, zgw_in (List.mem_of_getElem? (i := 279) (by decide +kernel)) rfl, zgw_in (List.mem_of_getElem? (i := 94) (by decide +kernel)) rfl, by decide +kernel, by decide +kernel⟩
theorem ok_X3_reserveWith : zOk M_X3_reserveWith := ⟨rfl, by decide +kernel, zgw_in (List.mem_of_getElem? (i := 264) (by decide +kernel)) rfl, zgw_in (List.mem_of_getElem? (i := 94) (by decide +kernel)) rfl, by decide +kernel, by decide +kernel⟩
theorem ok_X3_lengthWith : zOk M_X3_lengthWith := ⟨rfl, by decide +kernel, zgw_in (List.mem_of_getElem? (i := 260) (by decide +kernel)) rfl, zgw_in (List.mem_of_getElem? (i := 94) (by decide +kernel)) rfl, by decide +kernel, by decide +kernel⟩
theorem ok_X3_endIfLength : zOk M_X3_endIfLength := ⟨rfl, by decide +kernel, zgw_in (List.mem_of_getElem? (i := 271) (by decide +kernel)) rfl, zgw_in (List.mem_of_getElem? (i := 94) (by decide +kernel)) rfl, by decide +kernel, by decide +kernel⟩
theorem ok_X3_value : zOk M_X3_value := ⟨rfl, by decide +kernel, zgw_in (List.mem_of_getElem? (i := 605) (by decide +kernel)) rfl, zgw_in (List.mem_of_getElem? (i := 94) (by decide +kernel)) rfl, by decide +kernel, by decide +kernel⟩
theorem ok_X5_init : zOk M_X5_init := ⟨rfl, by decide +kernel, zgw_in (List.mem_of_getElem? (i := 149) (by decide +kernel)) rfl, zgw_in (List.mem_of_getElem? (i := 93) (by decide +kernel)) rfl, by decide +kernel, by decide +kernel⟩
theorem ok_X5_copyFrom : zOk M_X5_copyFrom := ⟨rfl, by decide +kernel, zgw_in (List.mem_of_getElem? (i := 403) (by decide +kernel)) rfl, zgw_in (List.mem_of_getElem? (i := 93) (by decide +kernel)) rfl, by decide +kernel, by decide +kernel⟩
theorem ok_X5_find : zOk M_X5_find := ⟨rfl, by decide +kernel, zgw_in (List.mem_of_getElem? (i := 428) (by decide +kernel)) rfl, zgw_in (List.mem_of_getElem? (i := 93) (by decide +kernel)) rfl, by decide +kernel, by decide +kernel⟩
theorem ok_X5_plan : zOk M_X5_plan := ⟨rfl, by decide +kernel, zgw_in (List.mem_of_getElem? (i := 478) (by decide +kernel)) rfl, zgw_in (List.mem_of_getElem? (i := 93) (by decide +kernel)) rfl, by decide +kernel, by decide +kernel⟩
theorem ok_X5_findOrder : zOk M_X5_findOrder := ⟨rfl, by decide +kernel, zgw_in (List.mem_of_getElem? (i := 482) (by decide +kernel)) rfl, zgw_in (List.mem_of_getElem? (i := 93) (by decide +kernel)) rfl, by decide +kernel, by decide +kernel⟩
theorem ok_X5_findAhead : zOk M_X5_findAhead := ⟨rfl, by decide +kernel, zgw_in (List.mem_of_getElem? (i := 486) (by decide +kernel)) rfl, zgw_in (List.mem_of_getElem? (i := 93) (by decide +kernel)) rfl, by decide +kernel, by decide +kernel⟩
theorem ok_X5_measureLengths : zOk M_X5_measureLengths := ⟨rfl, by decide +kernel, zgw_in (List.mem_of_getElem? (i := 490) (by decide +kernel)) rfl, zgw_in (List.mem_of_getElem? (i := 93) (by decide +kernel)) rfl, by decide +kernel, by decide +kernel⟩
theorem ok_X5_tellTimes : zOk M_X5_tellTimes := ⟨rfl, by decide +kernel, zgw_in (List.mem_of_getElem? (i := 499) (by decide +kernel)) rfl, zgw_in (List.mem_of_getElem? (i := 93) (by decide +kernel)) rfl, by decide +kernel, by decide +kernel⟩
theorem ok_X5_refusal : zOk M_X5_refusal := ⟨rfl, by decide +kernel, zgw_in (List.mem_of_getElem? (i := 417) (by decide +kernel)) rfl, zgw_in (List.mem_of_getElem? (i := 93) (by decide +kernel)) rfl, by decide +kernel, by decide +kernel⟩
theorem ok_X5_areInRange : zOk M_X5_areInRange := ⟨rfl, by decide +kernel, zgw_in (List.mem_of_getElem? (i := 435) (by decide +kernel)) rfl, zgw_in (List.mem_of_getElem? (i := 93) (by decide +kernel)) rfl, by decide +kernel, by decide +kernel⟩
theorem ok_X5_isPossible : zOk M_X5_isPossible := ⟨rfl, by decide +kernel, zgw_in (List.mem_of_getElem? (i := 447) (by decide +kernel)) rfl, zgw_in (List.mem_of_getElem? (i := 93) (by decide +kernel)) rfl, by decide +kernel, by decide +kernel⟩
theorem ok_X5_canMoveTo : zOk M_X5_canMoveTo := ⟨rfl, by decide +kernel, zgw_in (List.mem_of_getElem? (i := 450) (by decide +kernel)) rfl, zgw_in (List.mem_of_getElem? (i := 93) (by decide +kernel)) rfl, by decide +kernel, by decide +kernel⟩
theorem ok_X5_carryOut : zOk M_X5_carryOut := ⟨rfl, by decide +kernel, zgw_in (List.mem_of_getElem? (i := 465) (by decide +kernel)) rfl, zgw_in (List.mem_of_getElem? (i := 93) (by decide +kernel)) rfl, by decide +kernel, by decide +kernel⟩
theorem ok_X5_addNode : zOk M_X5_addNode := ⟨rfl, by decide +kernel, zgw_in (List.mem_of_getElem? (i := 474) (by decide +kernel)) rfl, zgw_in (List.mem_of_getElem? (i := 93) (by decide +kernel)) rfl, by decide +kernel, by decide +kernel⟩
theorem ok_X5_putLast : zOk M_X5_putLast := ⟨rfl, by decide +kernel, zgw_in (List.mem_of_getElem? (i := 504) (by decide +kernel)) rfl, zgw_in (List.mem_of_getElem? (i := 93) (by decide +kernel)) rfl, by decide +kernel, by decide +kernel⟩
theorem ok_X5_dropAll : zOk M_X5_dropAll := ⟨rfl, by decide +kernel, zgw_in (List.mem_of_getElem? (i := 508) (by decide +kernel)) rfl, zgw_in (List.mem_of_getElem? (i := 93) (by decide +kernel)) rfl, by decide +kernel, by decide +kernel⟩
theorem ok_X5_changeDuration : zOk M_X5_changeDuration := ⟨rfl, by decide +kernel, zgw_in (List.mem_of_getElem? (i := 513) (by decide +kernel)) rfl, zgw_in (List.mem_of_getElem? (i := 93) (by decide +kernel)) rfl, by decide +kernel, by decide +kernel⟩
theorem ok_X5_changeReserve : zOk M_X5_changeReserve := ⟨rfl, by decide +kernel, zgw_in (List.mem_of_getElem? (i := 518) (by decide +kernel)) rfl, zgw_in (List.mem_of_getElem? (i := 93) (by decide +kernel)) rfl, by decide +kernel, by decide +kernel⟩
theorem ok_X5_end : zOk M_X5_end := ⟨rfl, by decide +kernel, zgw_in (List.mem_of_getElem? (i := 283) (by decide +kernel)) rfl, zgw_in (List.mem_of_getElem? (i := 93) (by decide +kernel)) rfl, by decide +kernel, by decide +kernel⟩
theorem ok_X5_lateness : zOk M_X5_lateness := ⟨rfl, by decide +kernel, zgw_in (List.mem_of_getElem? (i := 469) (by decide +kernel)) rfl, zgw_in (List.mem_of_getElem? (i := 93) (by decide +kernel)) rfl, by decide +kernel, by decide +kernel⟩
theorem ok_X5_value : zOk M_X5_value := ⟨rfl, by decide +kernel, zgw_in (List.mem_of_getElem? (i := 535) (by decide +kernel)) rfl, zgw_in (List.mem_of_getElem? (i := 93) (by decide +kernel)) rfl, by decide +kernel, by decide +kernel⟩
theorem ok_X5_countTasks : zOk M_X5_countTasks := ⟨rfl, by decide +kernel, zgw_in (List.mem_of_getElem? (i := 539) (by decide +kernel)) rfl, zgw_in (List.mem_of_getElem? (i := 93) (by decide +kernel)) rfl, by decide +kernel, by decide +kernel⟩
theorem ok_X5_countCriticalTasks : zOk M_X5_countCriticalTasks := ⟨rfl, by decide +kernel, zgw_in (List.mem_of_getElem? (i := 543) (by decide +kernel)) rfl, zgw_in (List.mem_of_getElem? (i := 93) (by decide +kernel)) rfl, by decide +kernel, by decide +kernel⟩
theorem ok_X5_countCriticalRows : zOk M_X5_countCriticalRows := ⟨rfl, by decide +kernel, zgw_in (List.mem_of_getElem? (i := 555) (by decide +kernel)) rfl, zgw_in (List.mem_of_getElem? (i := 93) (by decide +kernel)) rfl, by decide +kernel, by decide +kernel⟩
theorem ok_X5_sumOfDurations : zOk M_X5_sumOfDurations := ⟨rfl, by decide +kernel, zgw_in (List.mem_of_getElem? (i := 572) (by decide +kernel)) rfl, zgw_in (List.mem_of_getElem? (i := 93) (by decide +kernel)) rfl, by decide +kernel, by decide +kernel⟩
theorem ok_X5_sumOfReserves : zOk M_X5_sumOfReserves := ⟨rfl, by decide +kernel, zgw_in (List.mem_of_getElem? (i := 576) (by decide +kernel)) rfl, zgw_in (List.mem_of_getElem? (i := 93) (by decide +kernel)) rfl, by decide +kernel, by decide +kernel⟩
theorem ok_X5_mostRunning : zOk M_X5_mostRunning := ⟨rfl, by decide +kernel, zgw_in (List.mem_of_getElem? (i := 580) (by decide +kernel)) rfl, zgw_in (List.mem_of_getElem? (i := 93) (by decide +kernel)) rfl, by decide +kernel, by decide +kernel⟩
theorem ok_X5_countRunning : zOk M_X5_countRunning := ⟨rfl, by decide +kernel, zgw_in (List.mem_of_getElem? (i := 584) (by decide +kernel)) rfl, zgw_in (List.mem_of_getElem? (i := 93) (by decide +kernel)) rfl, by decide +kernel, by decide +kernel⟩
theorem ok_X5_rowValue : zOk M_X5_rowValue := ⟨rfl, by decide +kernel, zgw_in (List.mem_of_getElem? (i := 609) (by decide +kernel)) rfl, zgw_in (List.mem_of_getElem? (i := 93) (by decide +kernel)) rfl, by decide +kernel, by decide +kernel⟩
theorem ok_X5_countChildren : zOk M_X5_countChildren := ⟨rfl, by decide +kernel, zgw_in (List.mem_of_getElem? (i := 564) (by decide +kernel)) rfl, zgw_in (List.mem_of_getElem? (i := 93) (by decide +kernel)) rfl, by decide +kernel, by decide +kernel⟩
theorem ok_X5_isCriticalRow : zOk M_X5_isCriticalRow := ⟨rfl, by decide +kernel, zgw_in (List.mem_of_getElem? (i := 559) (by decide +kernel)) rfl, zgw_in (List.mem_of_getElem? (i := 93) (by decide +kernel)) rfl, by decide +kernel, by decide +kernel⟩
theorem ok_X5_childNumber : zOk M_X5_childNumber := ⟨rfl, by decide +kernel, zgw_in (List.mem_of_getElem? (i := 847) (by decide +kernel)) rfl, zgw_in (List.mem_of_getElem? (i := 93) (by decide +kernel)) rfl, by decide +kernel, by decide +kernel⟩
theorem ok_X5_criticalNumber : zOk M_X5_criticalNumber := ⟨rfl, by decide +kernel, zgw_in (List.mem_of_getElem? (i := 858) (by decide +kernel)) rfl, zgw_in (List.mem_of_getElem? (i := 93) (by decide +kernel)) rfl, by decide +kernel, by decide +kernel⟩
theorem ok_X5_nextCritical : zOk M_X5_nextCritical := ⟨rfl, by decide +kernel, zgw_in (List.mem_of_getElem? (i := 617) (by decide +kernel)) rfl, zgw_in (List.mem_of_getElem? (i := 93) (by decide +kernel)) rfl, by decide +kernel, by decide +kernel⟩
theorem ok_X5_startsBefore : zOk M_X5_startsBefore := ⟨rfl, by decide +kernel, zgw_in (List.mem_of_getElem? (i := 620) (by decide +kernel)) rfl, zgw_in (List.mem_of_getElem? (i := 93) (by decide +kernel)) rfl, by decide +kernel, by decide +kernel⟩
theorem ok_X5_nextNumbered : zOk M_X5_nextNumbered := ⟨rfl, by decide +kernel, zgw_in (List.mem_of_getElem? (i := 596) (by decide +kernel)) rfl, zgw_in (List.mem_of_getElem? (i := 93) (by decide +kernel)) rfl, by decide +kernel, by decide +kernel⟩
theorem ok_X5_greatestDuration : zOk M_X5_greatestDuration := ⟨rfl, by decide +kernel, zgw_in (List.mem_of_getElem? (i := 897) (by decide +kernel)) rfl, zgw_in (List.mem_of_getElem? (i := 93) (by decide +kernel)) rfl, by decide +kernel, by decide +kernel⟩
theorem ok_X5_cutNumber : zOk M_X5_cutNumber := ⟨rfl, by decide +kernel, zgw_in (List.mem_of_getElem? (i := 256) (by decide +kernel)) rfl, zgw_in (List.mem_of_getElem? (i := 93) (by decide +kernel)) rfl, by decide +kernel, by decide +kernel⟩
theorem ok_X5_slackIfBorrowed : zOk M_X5_slackIfBorrowed := ⟨rfl, by decide +kernel, zgw_in (List.mem_of_getElem? (i := 908) (by decide +kernel)) rfl, zgw_in (List.mem_of_getElem? (i := 93) (by decide +kernel)) rfl, by decide +kernel, by decide +kernel⟩
theorem ok_X5_mixNodes : zOk M_X5_mixNodes := ⟨rfl, by decide +kernel, zgw_in (List.mem_of_getElem? (i := 592) (by decide +kernel)) rfl, zgw_in (List.mem_of_getElem? (i := 93) (by decide +kernel)) rfl, by decide +kernel, by decide +kernel⟩
theorem ok_X5_mixNode : zOk M_X5_mixNode := ⟨rfl, by decide +kernel, zgw_in (List.mem_of_getElem? (i := 600) (by decide +kernel)) rfl, zgw_in (List.mem_of_getElem? (i := 93) (by decide +kernel)) rfl, by decide +kernel, by decide +kernel⟩
theorem ok_X5_mixCritical : zOk M_X5_mixCritical := ⟨rfl, by decide +kernel, zgw_in (List.mem_of_getElem? (i := 613) (by decide +kernel)) rfl, zgw_in (List.mem_of_getElem? (i := 93) (by decide +kernel)) rfl, by decide +kernel, by decide +kernel⟩
theorem ok_X6_init : zOk M_X6_init := ⟨rfl, by decide +kernel, zgw_in (List.mem_of_getElem? (i := 115) (by decide +kernel)) rfl, zgw_in (List.mem_of_getElem? (i := 91) (by decide +kernel)) rfl, by decide +kernel, by decide +kernel⟩
theorem ok_X6_addGroup : zOk M_X6_addGroup := ⟨rfl, by decide +kernel, zgw_in (List.mem_of_getElem? (i := 630) (by decide +kernel)) rfl, zgw_in (List.mem_of_getElem? (i := 91) (by decide +kernel)) rfl, by decide +kernel, by decide +kernel⟩
theorem ok_X6_addTask : zOk M_X6_addTask := ⟨rfl, by decide +kernel, zgw_in (List.mem_of_getElem? (i := 749) (by decide +kernel)) rfl, zgw_in (List.mem_of_getElem? (i := 91) (by decide +kernel)) rfl, by decide +kernel, by decide +kernel⟩
theorem ok_X6_move : zOk M_X6_move := ⟨rfl, by decide +kernel, zgw_in (List.mem_of_getElem? (i := 758) (by decide +kernel)) rfl, zgw_in (List.mem_of_getElem? (i := 91) (by decide +kernel)) rfl, by decide +kernel, by decide +kernel⟩
theorem ok_X6_remove : zOk M_X6_remove := ⟨rfl, by decide +kernel, zgw_in (List.mem_of_getElem? (i := 766) (by decide +kernel)) rfl, zgw_in (List.mem_of_getElem? (i := 91) (by decide +kernel)) rfl, by decide +kernel, by decide +kernel⟩
theorem ok_X6_setDuration : zOk M_X6_setDuration := ⟨rfl, by decide +kernel, zgw_in (List.mem_of_getElem? (i := 775) (by decide +kernel)) rfl, zgw_in (List.mem_of_getElem? (i := 91) (by decide +kernel)) rfl, by decide +kernel, by decide +kernel⟩
theorem ok_X6_borrow : zOk M_X6_borrow := ⟨rfl, by decide +kernel, zgw_in (List.mem_of_getElem? (i := 784) (by decide +kernel)) rfl, zgw_in (List.mem_of_getElem? (i := 91) (by decide +kernel)) rfl, by decide +kernel, by decide +kernel⟩
theorem ok_X6_giveBack : zOk M_X6_giveBack := ⟨rfl, by decide +kernel, zgw_in (List.mem_of_getElem? (i := 793) (by decide +kernel)) rfl, zgw_in (List.mem_of_getElem? (i := 91) (by decide +kernel)) rfl, by decide +kernel, by decide +kernel⟩
theorem ok_X6_setDeadline : zOk M_X6_setDeadline := ⟨rfl, by decide +kernel, zgw_in (List.mem_of_getElem? (i := 802) (by decide +kernel)) rfl, zgw_in (List.mem_of_getElem? (i := 91) (by decide +kernel)) rfl, by decide +kernel, by decide +kernel⟩
theorem ok_X6_node : zOk M_X6_node := ⟨rfl, by decide +kernel, zgw_in (List.mem_of_getElem? (i := 810) (by decide +kernel)) rfl, zgw_in (List.mem_of_getElem? (i := 91) (by decide +kernel)) rfl, by decide +kernel, by decide +kernel⟩
theorem ok_X6_row : zOk M_X6_row := ⟨rfl, by decide +kernel, zgw_in (List.mem_of_getElem? (i := 827) (by decide +kernel)) rfl, zgw_in (List.mem_of_getElem? (i := 91) (by decide +kernel)) rfl, by decide +kernel, by decide +kernel⟩
theorem ok_X6_child : zOk M_X6_child := ⟨rfl, by decide +kernel, zgw_in (List.mem_of_getElem? (i := 839) (by decide +kernel)) rfl, zgw_in (List.mem_of_getElem? (i := 91) (by decide +kernel)) rfl, by decide +kernel, by decide +kernel⟩
theorem ok_X6_critical : zOk M_X6_critical := ⟨rfl, by decide +kernel, zgw_in (List.mem_of_getElem? (i := 854) (by decide +kernel)) rfl, zgw_in (List.mem_of_getElem? (i := 91) (by decide +kernel)) rfl, by decide +kernel, by decide +kernel⟩
theorem ok_X6_running : zOk M_X6_running := ⟨rfl, by decide +kernel, zgw_in (List.mem_of_getElem? (i := 865) (by decide +kernel)) rfl, zgw_in (List.mem_of_getElem? (i := 91) (by decide +kernel)) rfl, by decide +kernel, by decide +kernel⟩
theorem ok_X6_whole : zOk M_X6_whole := ⟨rfl, by decide +kernel, zgw_in (List.mem_of_getElem? (i := 873) (by decide +kernel)) rfl, zgw_in (List.mem_of_getElem? (i := 91) (by decide +kernel)) rfl, by decide +kernel, by decide +kernel⟩
theorem ok_X6_endWith : zOk M_X6_endWith := ⟨rfl, by decide +kernel, zgw_in (List.mem_of_getElem? (i := 880) (by decide +kernel)) rfl, zgw_in (List.mem_of_getElem? (i := 91) (by decide +kernel)) rfl, by decide +kernel, by decide +kernel⟩
theorem ok_X6_growsTo : zOk M_X6_growsTo := ⟨rfl, by decide +kernel, zgw_in (List.mem_of_getElem? (i := 893) (by decide +kernel)) rfl, zgw_in (List.mem_of_getElem? (i := 91) (by decide +kernel)) rfl, by decide +kernel, by decide +kernel⟩
theorem ok_X6_bestCut : zOk M_X6_bestCut := ⟨rfl, by decide +kernel, zgw_in (List.mem_of_getElem? (i := 252) (by decide +kernel)) rfl, zgw_in (List.mem_of_getElem? (i := 91) (by decide +kernel)) rfl, by decide +kernel, by decide +kernel⟩
theorem ok_X6_slackIf : zOk M_X6_slackIf := ⟨rfl, by decide +kernel, zgw_in (List.mem_of_getElem? (i := 904) (by decide +kernel)) rfl, zgw_in (List.mem_of_getElem? (i := 91) (by decide +kernel)) rfl, by decide +kernel, by decide +kernel⟩
theorem ok_X6_reason : zOk M_X6_reason := ⟨rfl, by decide +kernel, zgw_in (List.mem_of_getElem? (i := 915) (by decide +kernel)) rfl, zgw_in (List.mem_of_getElem? (i := 91) (by decide +kernel)) rfl, by decide +kernel, by decide +kernel⟩
theorem ok_X6_type : zOk M_X6_type := ⟨rfl, by decide +kernel, zgw_in (List.mem_of_getElem? (i := 923) (by decide +kernel)) rfl, zgw_in (List.mem_of_getElem? (i := 91) (by decide +kernel)) rfl, by decide +kernel, by decide +kernel⟩
theorem ok_X6_clearCommands : zOk M_X6_clearCommands := ⟨rfl, by decide +kernel, zgw_in (List.mem_of_getElem? (i := 287) (by decide +kernel)) rfl, zgw_in (List.mem_of_getElem? (i := 91) (by decide +kernel)) rfl, by decide +kernel, by decide +kernel⟩
theorem ok_X6_runCommands : zOk M_X6_runCommands := ⟨rfl, by decide +kernel, zgw_in (List.mem_of_getElem? (i := 291) (by decide +kernel)) rfl, zgw_in (List.mem_of_getElem? (i := 91) (by decide +kernel)) rfl, by decide +kernel, by decide +kernel⟩
theorem ok_X6_undo : zOk M_X6_undo := ⟨rfl, by decide +kernel, zgw_in (List.mem_of_getElem? (i := 935) (by decide +kernel)) rfl, zgw_in (List.mem_of_getElem? (i := 91) (by decide +kernel)) rfl, by decide +kernel, by decide +kernel⟩
theorem ok_X6_digest : zOk M_X6_digest := ⟨rfl, by decide +kernel, zgw_in (List.mem_of_getElem? (i := 522) (by decide +kernel)) rfl, zgw_in (List.mem_of_getElem? (i := 91) (by decide +kernel)) rfl, by decide +kernel, by decide +kernel⟩
theorem ok_X6_mix : zOk M_X6_mix := ⟨rfl, by decide +kernel, zgw_in (List.mem_of_getElem? (i := 526) (by decide +kernel)) rfl, zgw_in (List.mem_of_getElem? (i := 91) (by decide +kernel)) rfl, by decide +kernel, by decide +kernel⟩
theorem ok_X6_isBetween : zOk M_X6_isBetween := ⟨rfl, by decide +kernel, zgw_in (List.mem_of_getElem? (i := 322) (by decide +kernel)) rfl, zgw_in (List.mem_of_getElem? (i := 91) (by decide +kernel)) rfl, by decide +kernel, by decide +kernel⟩
theorem ok_X6_existing : zOk M_X6_existing := ⟨rfl, by decide +kernel, zgw_in (List.mem_of_getElem? (i := 814) (by decide +kernel)) rfl, zgw_in (List.mem_of_getElem? (i := 91) (by decide +kernel)) rfl, by decide +kernel, by decide +kernel⟩
theorem ok_X6_requireRange : zOk M_X6_requireRange := ⟨rfl, by decide +kernel, zgw_in (List.mem_of_getElem? (i := 818) (by decide +kernel)) rfl, zgw_in (List.mem_of_getElem? (i := 91) (by decide +kernel)) rfl, by decide +kernel, by decide +kernel⟩
theorem ok_X6_requireNotNegative : zOk M_X6_requireNotNegative := ⟨rfl, by decide +kernel, zgw_in (List.mem_of_getElem? (i := 842) (by decide +kernel)) rfl, zgw_in (List.mem_of_getElem? (i := 91) (by decide +kernel)) rfl, by decide +kernel, by decide +kernel⟩
theorem ok_X6_requireGroup : zOk M_X6_requireGroup := ⟨rfl, by decide +kernel, zgw_in (List.mem_of_getElem? (i := 830) (by decide +kernel)) rfl, zgw_in (List.mem_of_getElem? (i := 91) (by decide +kernel)) rfl, by decide +kernel, by decide +kernel⟩
theorem ok_X6_requireTask : zOk M_X6_requireTask := ⟨rfl, by decide +kernel, zgw_in (List.mem_of_getElem? (i := 883) (by decide +kernel)) rfl, zgw_in (List.mem_of_getElem? (i := 91) (by decide +kernel)) rfl, by decide +kernel, by decide +kernel⟩
theorem ok_X6_requireAllowed : zOk M_X6_requireAllowed := ⟨rfl, by decide +kernel, zgw_in (List.mem_of_getElem? (i := 639) (by decide +kernel)) rfl, zgw_in (List.mem_of_getElem? (i := 91) (by decide +kernel)) rfl, by decide +kernel, by decide +kernel⟩
theorem ok_X6_change : zOk M_X6_change := ⟨rfl, by decide +kernel, zgw_in (List.mem_of_getElem? (i := 636) (by decide +kernel)) rfl, zgw_in (List.mem_of_getElem? (i := 91) (by decide +kernel)) rfl, by decide +kernel, by decide +kernel⟩
theorem ok_X6_save : zOk M_X6_save := ⟨rfl, by decide +kernel, zgw_in (List.mem_of_getElem? (i := 396) (by decide +kernel)) rfl, zgw_in (List.mem_of_getElem? (i := 91) (by decide +kernel)) rfl, by decide +kernel, by decide +kernel⟩
theorem ok_X6_runFaultless : zOk M_X6_runFaultless := ⟨rfl, by decide +kernel, zgw_in (List.mem_of_getElem? (i := 411) (by decide +kernel)) rfl, zgw_in (List.mem_of_getElem? (i := 91) (by decide +kernel)) rfl, by decide +kernel, by decide +kernel⟩
theorem ok_X6_wholeValue : zOk M_X6_wholeValue := ⟨rfl, by decide +kernel, zgw_in (List.mem_of_getElem? (i := 531) (by decide +kernel)) rfl, zgw_in (List.mem_of_getElem? (i := 91) (by decide +kernel)) rfl, by decide +kernel, by decide +kernel⟩
theorem ok_X7_init : zOk M_X7_init := ⟨rfl, by decide +kernel, zgw_in (List.mem_of_getElem? (i := 942) (by decide +kernel)) rfl, zgw_in (List.mem_of_getElem? (i := 95) (by decide +kernel)) rfl, by decide +kernel, by decide +kernel⟩
theorem ok_X7_in : zOk M_X7_in := ⟨rfl, by decide +kernel, zgw_in (List.mem_of_getElem? (i := 1013) (by decide +kernel)) rfl, zgw_in (List.mem_of_getElem? (i := 95) (by decide +kernel)) rfl, by decide +kernel, by decide +kernel⟩
theorem ok_X7_copies : zOk M_X7_copies := ⟨rfl, by decide +kernel, zgw_in (List.mem_of_getElem? (i := 1029) (by decide +kernel)) rfl, zgw_in (List.mem_of_getElem? (i := 95) (by decide +kernel)) rfl, by decide +kernel, by decide +kernel⟩
theorem ok_X7_saves : zOk M_X7_saves := ⟨rfl, by decide +kernel, zgw_in (List.mem_of_getElem? (i := 1025) (by decide +kernel)) rfl, zgw_in (List.mem_of_getElem? (i := 95) (by decide +kernel)) rfl, by decide +kernel, by decide +kernel⟩
theorem ok_X7_of : zOk M_X7_of := ⟨rfl, by decide +kernel, zgw_in (List.mem_of_getElem? (i := 1010) (by decide +kernel)) rfl, zgw_in (List.mem_of_getElem? (i := 95) (by decide +kernel)) rfl, by decide +kernel, by decide +kernel⟩
theorem ok_X7_set : zOk M_X7_set := ⟨rfl, by decide +kernel, zgw_in (List.mem_of_getElem? (i := 1045) (by decide +kernel)) rfl, zgw_in (List.mem_of_getElem? (i := 95) (by decide +kernel)) rfl, by decide +kernel, by decide +kernel⟩
theorem ok_X7_find : zOk M_X7_find := ⟨rfl, by decide +kernel, zgw_in (List.mem_of_getElem? (i := 1006) (by decide +kernel)) rfl, zgw_in (List.mem_of_getElem? (i := 95) (by decide +kernel)) rfl, by decide +kernel, by decide +kernel⟩
theorem ok_X7_isTask : zOk M_X7_isTask := ⟨rfl, by decide +kernel, zgw_in (List.mem_of_getElem? (i := 1017) (by decide +kernel)) rfl, zgw_in (List.mem_of_getElem? (i := 95) (by decide +kernel)) rfl, by decide +kernel, by decide +kernel⟩
theorem ok_X7_thrown : zOk M_X7_thrown := ⟨rfl, by decide +kernel, zgw_in (List.mem_of_getElem? (i := 994) (by decide +kernel)) rfl, zgw_in (List.mem_of_getElem? (i := 95) (by decide +kernel)) rfl, by decide +kernel, by decide +kernel⟩
theorem ok_X7_isRefused : zOk M_X7_isRefused := ⟨rfl, by decide +kernel, zgw_in (List.mem_of_getElem? (i := 1021) (by decide +kernel)) rfl, zgw_in (List.mem_of_getElem? (i := 95) (by decide +kernel)) rfl, by decide +kernel, by decide +kernel⟩
theorem ok_X7_isBarred : zOk M_X7_isBarred := ⟨rfl, by decide +kernel, zgw_in (List.mem_of_getElem? (i := 1085) (by decide +kernel)) rfl, zgw_in (List.mem_of_getElem? (i := 95) (by decide +kernel)) rfl, by decide +kernel, by decide +kernel⟩
theorem ok_X7_isIn : zOk M_X7_isIn := ⟨rfl, by decide +kernel, zgw_in (List.mem_of_getElem? (i := 1041) (by decide +kernel)) rfl, zgw_in (List.mem_of_getElem? (i := 95) (by decide +kernel)) rfl, by decide +kernel, by decide +kernel⟩
theorem ok_X7_rowLength : zOk M_X7_rowLength := ⟨rfl, by decide +kernel, zgw_in (List.mem_of_getElem? (i := 1121) (by decide +kernel)) rfl, zgw_in (List.mem_of_getElem? (i := 95) (by decide +kernel)) rfl, by decide +kernel, by decide +kernel⟩
theorem ok_X7_layOrder : zOk M_X7_layOrder := ⟨rfl, by decide +kernel, zgw_in (List.mem_of_getElem? (i := 1113) (by decide +kernel)) rfl, zgw_in (List.mem_of_getElem? (i := 95) (by decide +kernel)) rfl, by decide +kernel, by decide +kernel⟩
theorem ok_X7_lengthOf : zOk M_X7_lengthOf := ⟨rfl, by decide +kernel, zgw_in (List.mem_of_getElem? (i := 1117) (by decide +kernel)) rfl, zgw_in (List.mem_of_getElem? (i := 95) (by decide +kernel)) rfl, by decide +kernel, by decide +kernel⟩
theorem ok_X7_rowSlack : zOk M_X7_rowSlack := ⟨rfl, by decide +kernel, zgw_in (List.mem_of_getElem? (i := 1129) (by decide +kernel)) rfl, zgw_in (List.mem_of_getElem? (i := 95) (by decide +kernel)) rfl, by decide +kernel, by decide +kernel⟩
theorem ok_X7_layTimes : zOk M_X7_layTimes := ⟨rfl, by decide +kernel, zgw_in (List.mem_of_getElem? (i := 1125) (by decide +kernel)) rfl, zgw_in (List.mem_of_getElem? (i := 95) (by decide +kernel)) rfl, by decide +kernel, by decide +kernel⟩
theorem ok_X7_lay : zOk M_X7_lay := ⟨rfl, by decide +kernel, zgw_in (List.mem_of_getElem? (i := 1109) (by decide +kernel)) rfl, zgw_in (List.mem_of_getElem? (i := 95) (by decide +kernel)) rfl, by decide +kernel, by decide +kernel⟩
theorem ok_X7_end : zOk M_X7_end := ⟨rfl, by decide +kernel, zgw_in (List.mem_of_getElem? (i := 1105) (by decide +kernel)) rfl, zgw_in (List.mem_of_getElem? (i := 95) (by decide +kernel)) rfl, by decide +kernel, by decide +kernel⟩
theorem ok_X7_lateness : zOk M_X7_lateness := ⟨rfl, by decide +kernel, zgw_in (List.mem_of_getElem? (i := 1164) (by decide +kernel)) rfl, zgw_in (List.mem_of_getElem? (i := 95) (by decide +kernel)) rfl, by decide +kernel, by decide +kernel⟩
theorem ok_X7_childrenOf : zOk M_X7_childrenOf := ⟨rfl, by decide +kernel, zgw_in (List.mem_of_getElem? (i := 1037) (by decide +kernel)) rfl, zgw_in (List.mem_of_getElem? (i := 95) (by decide +kernel)) rfl, by decide +kernel, by decide +kernel⟩
theorem ok_X7_whyNotAdd : zOk M_X7_whyNotAdd := ⟨rfl, by decide +kernel, zgw_in (List.mem_of_getElem? (i := 1002) (by decide +kernel)) rfl, zgw_in (List.mem_of_getElem? (i := 95) (by decide +kernel)) rfl, by decide +kernel, by decide +kernel⟩
theorem ok_X7_adds : zOk M_X7_adds := ⟨rfl, by decide +kernel, zgw_in (List.mem_of_getElem? (i := 1033) (by decide +kernel)) rfl, zgw_in (List.mem_of_getElem? (i := 95) (by decide +kernel)) rfl, by decide +kernel, by decide +kernel⟩
theorem ok_X7_addGroup : zOk M_X7_addGroup := ⟨rfl, by decide +kernel, zgw_in (List.mem_of_getElem? (i := 998) (by decide +kernel)) rfl, zgw_in (List.mem_of_getElem? (i := 95) (by decide +kernel)) rfl, by decide +kernel, by decide +kernel⟩
theorem ok_X7_addTask : zOk M_X7_addTask := ⟨rfl, by decide +kernel, zgw_in (List.mem_of_getElem? (i := 1049) (by decide +kernel)) rfl, zgw_in (List.mem_of_getElem? (i := 95) (by decide +kernel)) rfl, by decide +kernel, by decide +kernel⟩
theorem ok_X7_isBelow : zOk M_X7_isBelow := ⟨rfl, by decide +kernel, zgw_in (List.mem_of_getElem? (i := 1065) (by decide +kernel)) rfl, zgw_in (List.mem_of_getElem? (i := 95) (by decide +kernel)) rfl, by decide +kernel, by decide +kernel⟩
theorem ok_X7_reasonOf : zOk M_X7_reasonOf := ⟨rfl, by decide +kernel, zgw_in (List.mem_of_getElem? (i := 1061) (by decide +kernel)) rfl, zgw_in (List.mem_of_getElem? (i := 95) (by decide +kernel)) rfl, by decide +kernel, by decide +kernel⟩
theorem ok_X7_whyNotMove : zOk M_X7_whyNotMove := ⟨rfl, by decide +kernel, zgw_in (List.mem_of_getElem? (i := 1057) (by decide +kernel)) rfl, zgw_in (List.mem_of_getElem? (i := 95) (by decide +kernel)) rfl, by decide +kernel, by decide +kernel⟩
theorem ok_X7_leaves : zOk M_X7_leaves := ⟨rfl, by decide +kernel, zgw_in (List.mem_of_getElem? (i := 1073) (by decide +kernel)) rfl, zgw_in (List.mem_of_getElem? (i := 95) (by decide +kernel)) rfl, by decide +kernel, by decide +kernel⟩
theorem ok_X7_moves : zOk M_X7_moves := ⟨rfl, by decide +kernel, zgw_in (List.mem_of_getElem? (i := 1069) (by decide +kernel)) rfl, zgw_in (List.mem_of_getElem? (i := 95) (by decide +kernel)) rfl, by decide +kernel, by decide +kernel⟩
theorem ok_X7_move : zOk M_X7_move := ⟨rfl, by decide +kernel, zgw_in (List.mem_of_getElem? (i := 1053) (by decide +kernel)) rfl, zgw_in (List.mem_of_getElem? (i := 95) (by decide +kernel)) rfl, by decide +kernel, by decide +kernel⟩
theorem ok_X7_whyNotRemove : zOk M_X7_whyNotRemove := ⟨rfl, by decide +kernel, zgw_in (List.mem_of_getElem? (i := 1081) (by decide +kernel)) rfl, zgw_in (List.mem_of_getElem? (i := 95) (by decide +kernel)) rfl, by decide +kernel, by decide +kernel⟩
theorem ok_X7_removes : zOk M_X7_removes := ⟨rfl, by decide +kernel, zgw_in (List.mem_of_getElem? (i := 1089) (by decide +kernel)) rfl, zgw_in (List.mem_of_getElem? (i := 95) (by decide +kernel)) rfl, by decide +kernel, by decide +kernel⟩
theorem ok_X7_remove : zOk M_X7_remove := ⟨rfl, by decide +kernel, zgw_in (List.mem_of_getElem? (i := 1077) (by decide +kernel)) rfl, zgw_in (List.mem_of_getElem? (i := 95) (by decide +kernel)) rfl, by decide +kernel, by decide +kernel⟩
theorem ok_X7_whyNotTask : zOk M_X7_whyNotTask := ⟨rfl, by decide +kernel, zgw_in (List.mem_of_getElem? (i := 1097) (by decide +kernel)) rfl, zgw_in (List.mem_of_getElem? (i := 95) (by decide +kernel)) rfl, by decide +kernel, by decide +kernel⟩
theorem ok_X7_lasts : zOk M_X7_lasts := ⟨rfl, by decide +kernel, zgw_in (List.mem_of_getElem? (i := 1101) (by decide +kernel)) rfl, zgw_in (List.mem_of_getElem? (i := 95) (by decide +kernel)) rfl, by decide +kernel, by decide +kernel⟩
theorem ok_X7_setDuration : zOk M_X7_setDuration := ⟨rfl, by decide +kernel, zgw_in (List.mem_of_getElem? (i := 1093) (by decide +kernel)) rfl, zgw_in (List.mem_of_getElem? (i := 95) (by decide +kernel)) rfl, by decide +kernel, by decide +kernel⟩
theorem ok_X7_slackOf : zOk M_X7_slackOf := ⟨rfl, by decide +kernel, zgw_in (List.mem_of_getElem? (i := 1141) (by decide +kernel)) rfl, zgw_in (List.mem_of_getElem? (i := 95) (by decide +kernel)) rfl, by decide +kernel, by decide +kernel⟩
theorem ok_X7_whyNotBorrow : zOk M_X7_whyNotBorrow := ⟨rfl, by decide +kernel, zgw_in (List.mem_of_getElem? (i := 1137) (by decide +kernel)) rfl, zgw_in (List.mem_of_getElem? (i := 95) (by decide +kernel)) rfl, by decide +kernel, by decide +kernel⟩
theorem ok_X7_whyNotBack : zOk M_X7_whyNotBack := ⟨rfl, by decide +kernel, zgw_in (List.mem_of_getElem? (i := 1153) (by decide +kernel)) rfl, zgw_in (List.mem_of_getElem? (i := 95) (by decide +kernel)) rfl, by decide +kernel, by decide +kernel⟩
theorem ok_X7_reserves : zOk M_X7_reserves := ⟨rfl, by decide +kernel, zgw_in (List.mem_of_getElem? (i := 1145) (by decide +kernel)) rfl, zgw_in (List.mem_of_getElem? (i := 95) (by decide +kernel)) rfl, by decide +kernel, by decide +kernel⟩
theorem ok_X7_borrow : zOk M_X7_borrow := ⟨rfl, by decide +kernel, zgw_in (List.mem_of_getElem? (i := 1133) (by decide +kernel)) rfl, zgw_in (List.mem_of_getElem? (i := 95) (by decide +kernel)) rfl, by decide +kernel, by decide +kernel⟩
theorem ok_X7_giveBack : zOk M_X7_giveBack := ⟨rfl, by decide +kernel, zgw_in (List.mem_of_getElem? (i := 1149) (by decide +kernel)) rfl, zgw_in (List.mem_of_getElem? (i := 95) (by decide +kernel)) rfl, by decide +kernel, by decide +kernel⟩
theorem ok_X7_whyNotUntil : zOk M_X7_whyNotUntil := ⟨rfl, by decide +kernel, zgw_in (List.mem_of_getElem? (i := 1160) (by decide +kernel)) rfl, zgw_in (List.mem_of_getElem? (i := 95) (by decide +kernel)) rfl, by decide +kernel, by decide +kernel⟩
theorem ok_X7_setDeadline : zOk M_X7_setDeadline := ⟨rfl, by decide +kernel, zgw_in (List.mem_of_getElem? (i := 1157) (by decide +kernel)) rfl, zgw_in (List.mem_of_getElem? (i := 95) (by decide +kernel)) rfl, by decide +kernel, by decide +kernel⟩
theorem ok_X7_nodeValue : zOk M_X7_nodeValue := ⟨rfl, by decide +kernel, zgw_in (List.mem_of_getElem? (i := 1172) (by decide +kernel)) rfl, zgw_in (List.mem_of_getElem? (i := 95) (by decide +kernel)) rfl, by decide +kernel, by decide +kernel⟩
theorem ok_X7_node : zOk M_X7_node := ⟨rfl, by decide +kernel, zgw_in (List.mem_of_getElem? (i := 1168) (by decide +kernel)) rfl, zgw_in (List.mem_of_getElem? (i := 95) (by decide +kernel)) rfl, by decide +kernel, by decide +kernel⟩
theorem ok_X7_isCriticalRow : zOk M_X7_isCriticalRow := ⟨rfl, by decide +kernel, zgw_in (List.mem_of_getElem? (i := 1188) (by decide +kernel)) rfl, zgw_in (List.mem_of_getElem? (i := 95) (by decide +kernel)) rfl, by decide +kernel, by decide +kernel⟩
theorem ok_X7_whyNotRow : zOk M_X7_whyNotRow := ⟨rfl, by decide +kernel, zgw_in (List.mem_of_getElem? (i := 1180) (by decide +kernel)) rfl, zgw_in (List.mem_of_getElem? (i := 95) (by decide +kernel)) rfl, by decide +kernel, by decide +kernel⟩
theorem ok_X7_rowValue : zOk M_X7_rowValue := ⟨rfl, by decide +kernel, zgw_in (List.mem_of_getElem? (i := 1184) (by decide +kernel)) rfl, zgw_in (List.mem_of_getElem? (i := 95) (by decide +kernel)) rfl, by decide +kernel, by decide +kernel⟩
theorem ok_X7_row : zOk M_X7_row := ⟨rfl, by decide +kernel, zgw_in (List.mem_of_getElem? (i := 1176) (by decide +kernel)) rfl, zgw_in (List.mem_of_getElem? (i := 95) (by decide +kernel)) rfl, by decide +kernel, by decide +kernel⟩
theorem ok_X7_child : zOk M_X7_child := ⟨rfl, by decide +kernel, zgw_in (List.mem_of_getElem? (i := 1192) (by decide +kernel)) rfl, zgw_in (List.mem_of_getElem? (i := 95) (by decide +kernel)) rfl, by decide +kernel, by decide +kernel⟩
theorem ok_X7_layCritical : zOk M_X7_layCritical := ⟨rfl, by decide +kernel, zgw_in (List.mem_of_getElem? (i := 1200) (by decide +kernel)) rfl, zgw_in (List.mem_of_getElem? (i := 95) (by decide +kernel)) rfl, by decide +kernel, by decide +kernel⟩
theorem ok_X7_critical : zOk M_X7_critical := ⟨rfl, by decide +kernel, zgw_in (List.mem_of_getElem? (i := 1196) (by decide +kernel)) rfl, zgw_in (List.mem_of_getElem? (i := 95) (by decide +kernel)) rfl, by decide +kernel, by decide +kernel⟩
theorem ok_X7_runningAt : zOk M_X7_runningAt := ⟨rfl, by decide +kernel, zgw_in (List.mem_of_getElem? (i := 1208) (by decide +kernel)) rfl, zgw_in (List.mem_of_getElem? (i := 95) (by decide +kernel)) rfl, by decide +kernel, by decide +kernel⟩
theorem ok_X7_running : zOk M_X7_running := ⟨rfl, by decide +kernel, zgw_in (List.mem_of_getElem? (i := 1204) (by decide +kernel)) rfl, zgw_in (List.mem_of_getElem? (i := 95) (by decide +kernel)) rfl, by decide +kernel, by decide +kernel⟩
theorem ok_X7_wholeValue : zOk M_X7_wholeValue := ⟨rfl, by decide +kernel, zgw_in (List.mem_of_getElem? (i := 1216) (by decide +kernel)) rfl, zgw_in (List.mem_of_getElem? (i := 95) (by decide +kernel)) rfl, by decide +kernel, by decide +kernel⟩
theorem ok_X7_whole : zOk M_X7_whole := ⟨rfl, by decide +kernel, zgw_in (List.mem_of_getElem? (i := 1212) (by decide +kernel)) rfl, zgw_in (List.mem_of_getElem? (i := 95) (by decide +kernel)) rfl, by decide +kernel, by decide +kernel⟩
theorem ok_X7_putAside : zOk M_X7_putAside := ⟨rfl, by decide +kernel, zgw_in (List.mem_of_getElem? (i := 1228) (by decide +kernel)) rfl, zgw_in (List.mem_of_getElem? (i := 95) (by decide +kernel)) rfl, by decide +kernel, by decide +kernel⟩
theorem ok_X7_comesBack : zOk M_X7_comesBack := ⟨rfl, by decide +kernel, zgw_in (List.mem_of_getElem? (i := 1232) (by decide +kernel)) rfl, zgw_in (List.mem_of_getElem? (i := 95) (by decide +kernel)) rfl, by decide +kernel, by decide +kernel⟩
theorem ok_X7_endBy : zOk M_X7_endBy := ⟨rfl, by decide +kernel, zgw_in (List.mem_of_getElem? (i := 1224) (by decide +kernel)) rfl, zgw_in (List.mem_of_getElem? (i := 95) (by decide +kernel)) rfl, by decide +kernel, by decide +kernel⟩
theorem ok_X7_endWith : zOk M_X7_endWith := ⟨rfl, by decide +kernel, zgw_in (List.mem_of_getElem? (i := 1220) (by decide +kernel)) rfl, zgw_in (List.mem_of_getElem? (i := 95) (by decide +kernel)) rfl, by decide +kernel, by decide +kernel⟩
theorem ok_X7_growsTo : zOk M_X7_growsTo := ⟨rfl, by decide +kernel, zgw_in (List.mem_of_getElem? (i := 1236) (by decide +kernel)) rfl, zgw_in (List.mem_of_getElem? (i := 95) (by decide +kernel)) rfl, by decide +kernel, by decide +kernel⟩
theorem ok_X7_cutTask : zOk M_X7_cutTask := ⟨rfl, by decide +kernel, zgw_in (List.mem_of_getElem? (i := 1244) (by decide +kernel)) rfl, zgw_in (List.mem_of_getElem? (i := 95) (by decide +kernel)) rfl, by decide +kernel, by decide +kernel⟩
theorem ok_X7_bestCut : zOk M_X7_bestCut := ⟨rfl, by decide +kernel, zgw_in (List.mem_of_getElem? (i := 1240) (by decide +kernel)) rfl, zgw_in (List.mem_of_getElem? (i := 95) (by decide +kernel)) rfl, by decide +kernel, by decide +kernel⟩
theorem ok_X7_slackIf : zOk M_X7_slackIf := ⟨rfl, by decide +kernel, zgw_in (List.mem_of_getElem? (i := 1248) (by decide +kernel)) rfl, zgw_in (List.mem_of_getElem? (i := 95) (by decide +kernel)) rfl, by decide +kernel, by decide +kernel⟩
theorem ok_X7_reason : zOk M_X7_reason := ⟨rfl, by decide +kernel, zgw_in (List.mem_of_getElem? (i := 1252) (by decide +kernel)) rfl, zgw_in (List.mem_of_getElem? (i := 95) (by decide +kernel)) rfl, by decide +kernel, by decide +kernel⟩
theorem ok_X7_type : zOk M_X7_type := ⟨rfl, by decide +kernel, zgw_in (List.mem_of_getElem? (i := 1256) (by decide +kernel)) rfl, zgw_in (List.mem_of_getElem? (i := 95) (by decide +kernel)) rfl, by decide +kernel, by decide +kernel⟩
theorem ok_X7_clearCommands : zOk M_X7_clearCommands := ⟨rfl, by decide +kernel, zgw_in (List.mem_of_getElem? (i := 1260) (by decide +kernel)) rfl, zgw_in (List.mem_of_getElem? (i := 95) (by decide +kernel)) rfl, by decide +kernel, by decide +kernel⟩
theorem ok_X7_here : zOk M_X7_here := ⟨rfl, by decide +kernel, zgw_in (List.mem_of_getElem? (i := 1276) (by decide +kernel)) rfl, zgw_in (List.mem_of_getElem? (i := 95) (by decide +kernel)) rfl, by decide +kernel, by decide +kernel⟩
theorem ok_X7_passSpaces : zOk M_X7_passSpaces := ⟨rfl, by decide +kernel, zgw_in (List.mem_of_getElem? (i := 1272) (by decide +kernel)) rfl, zgw_in (List.mem_of_getElem? (i := 95) (by decide +kernel)) rfl, by decide +kernel, by decide +kernel⟩
theorem ok_X7_word : zOk M_X7_word := ⟨rfl, by decide +kernel, zgw_in (List.mem_of_getElem? (i := 1284) (by decide +kernel)) rfl, zgw_in (List.mem_of_getElem? (i := 95) (by decide +kernel)) rfl, by decide +kernel, by decide +kernel⟩
theorem ok_X7_numbersOf : zOk M_X7_numbersOf := ⟨rfl, by decide +kernel, zgw_in (List.mem_of_getElem? (i := 1298) (by decide +kernel)) rfl, zgw_in (List.mem_of_getElem? (i := 95) (by decide +kernel)) rfl, by decide +kernel, by decide +kernel⟩
theorem ok_X7_isNumber : zOk M_X7_isNumber := ⟨rfl, by decide +kernel, zgw_in (List.mem_of_getElem? (i := 1302) (by decide +kernel)) rfl, zgw_in (List.mem_of_getElem? (i := 95) (by decide +kernel)) rfl, by decide +kernel, by decide +kernel⟩
theorem ok_X7_command : zOk M_X7_command := ⟨rfl, by decide +kernel, zgw_in (List.mem_of_getElem? (i := 1280) (by decide +kernel)) rfl, zgw_in (List.mem_of_getElem? (i := 95) (by decide +kernel)) rfl, by decide +kernel, by decide +kernel⟩
theorem ok_X7_fault : zOk M_X7_fault := ⟨rfl, by decide +kernel, zgw_in (List.mem_of_getElem? (i := 1268) (by decide +kernel)) rfl, zgw_in (List.mem_of_getElem? (i := 95) (by decide +kernel)) rfl, by decide +kernel, by decide +kernel⟩
theorem ok_X7_does : zOk M_X7_does := ⟨rfl, by decide +kernel, zgw_in (List.mem_of_getElem? (i := 1306) (by decide +kernel)) rfl, zgw_in (List.mem_of_getElem? (i := 95) (by decide +kernel)) rfl, by decide +kernel, by decide +kernel⟩
theorem ok_X7_changes : zOk M_X7_changes := ⟨rfl, by decide +kernel, zgw_in (List.mem_of_getElem? (i := 1310) (by decide +kernel)) rfl, zgw_in (List.mem_of_getElem? (i := 95) (by decide +kernel)) rfl, by decide +kernel, by decide +kernel⟩
theorem ok_X7_runCommands : zOk M_X7_runCommands := ⟨rfl, by decide +kernel, zgw_in (List.mem_of_getElem? (i := 1264) (by decide +kernel)) rfl, zgw_in (List.mem_of_getElem? (i := 95) (by decide +kernel)) rfl, by decide +kernel, by decide +kernel⟩
theorem ok_X7_undo : zOk M_X7_undo := ⟨rfl, by decide +kernel, zgw_in (List.mem_of_getElem? (i := 1314) (by decide +kernel)) rfl, zgw_in (List.mem_of_getElem? (i := 95) (by decide +kernel)) rfl, by decide +kernel, by decide +kernel⟩
theorem ok_X7_digest : zOk M_X7_digest := ⟨rfl, by decide +kernel, zgw_in (List.mem_of_getElem? (i := 1318) (by decide +kernel)) rfl, zgw_in (List.mem_of_getElem? (i := 95) (by decide +kernel)) rfl, by decide +kernel, by decide +kernel⟩
theorem fl_X2_9 : zFl RX2 9 0 0 := ⟨by decide, by decide, zgw_in (List.mem_of_getElem? (i := 125) (by decide +kernel)) rfl⟩
theorem fl_X2_15 : zFl RX2 15 0 1 := ⟨by decide, by decide, zgw_in (List.mem_of_getElem? (i := 126) (by decide +kernel)) rfl⟩
theorem fl_X2_19 : zFl RX2 19 0 2 := ⟨by decide, by decide, zgw_in (List.mem_of_getElem? (i := 128) (by decide +kernel)) rfl⟩
theorem fl_X2_22 : zFl RX2 22 0 3 := ⟨by decide, by decide, zgw_in (List.mem_of_getElem? (i := 130) (by decide +kernel)) rfl⟩
theorem fl_X2_25 : zFl RX2 25 0 4 := ⟨by decide, by decide, zgw_in (List.mem_of_getElem? (i := 131) (by decide +kernel)) rfl⟩
theorem fl_X3_9 : zFl RX3 9 1 0 := ⟨by decide, by decide, zgw_in (List.mem_of_getElem? (i := 158) (by decide +kernel)) rfl⟩
theorem fl_X3_15 : zFl RX3 15 1 1 := ⟨by decide, by decide, zgw_in (List.mem_of_getElem? (i := 160) (by decide +kernel)) rfl⟩
theorem fl_X3_19 : zFl RX3 19 1 2 := ⟨by decide, by decide, zgw_in (List.mem_of_getElem? (i := 163) (by decide +kernel)) rfl⟩
theorem fl_X3_22 : zFl RX3 22 1 3 := ⟨by decide, by decide, zgw_in (List.mem_of_getElem? (i := 165) (by decide +kernel)) rfl⟩
theorem fl_X3_25 : zFl RX3 25 1 4 := ⟨by decide, by decide, zgw_in (List.mem_of_getElem? (i := 167) (by decide +kernel)) rfl⟩
theorem fl_X3_28 : zFl RX3 28 1 5 := ⟨by decide, by decide, zgw_in (List.mem_of_getElem? (i := 169) (by decide +kernel)) rfl⟩
theorem fl_X3_31 : zFl RX3 31 1 6 := ⟨by decide, by decide, zgw_in (List.mem_of_getElem? (i := 171) (by decide +kernel)) rfl⟩
theorem fl_X3_35 : zFl RX3 35 1 7 := ⟨by decide, by decide, zgw_in (List.mem_of_getElem? (i := 173) (by decide +kernel)) rfl⟩
theorem fl_X3_38 : zFl RX3 38 1 8 := ⟨by decide, by decide, zgw_in (List.mem_of_getElem? (i := 175) (by decide +kernel)) rfl⟩
theorem fl_X3_41 : zFl RX3 41 1 9 := ⟨by decide, by decide, zgw_in (List.mem_of_getElem? (i := 177) (by decide +kernel)) rfl⟩
theorem fl_X3_44 : zFl RX3 44 1 10 := ⟨by decide, by decide, zgw_in (List.mem_of_getElem? (i := 179) (by decide +kernel)) rfl⟩
theorem fl_X3_47 : zFl RX3 47 1 11 := ⟨by decide, by decide, zgw_in (List.mem_of_getElem? (i := 181) (by decide +kernel)) rfl⟩
theorem fl_X3_50 : zFl RX3 50 1 12 := ⟨by decide, by decide, zgw_in (List.mem_of_getElem? (i := 183) (by decide +kernel)) rfl⟩
theorem fl_X3_53 : zFl RX3 53 1 13 := ⟨by decide, by decide, zgw_in (List.mem_of_getElem? (i := 185) (by decide +kernel)) rfl⟩
theorem fl_X3_56 : zFl RX3 56 1 14 := ⟨by decide, by decide, zgw_in (List.mem_of_getElem? (i := 187) (by decide +kernel)) rfl⟩
theorem fl_X5_11 : zFl RX5 11 2 0 := ⟨by decide, by decide, zgw_in (List.mem_of_getElem? (i := 220) (by decide +kernel)) rfl⟩
theorem fl_X5_17 : zFl RX5 17 2 1 := ⟨by decide, by decide, zgw_in (List.mem_of_getElem? (i := 221) (by decide +kernel)) rfl⟩
theorem fl_X5_20 : zFl RX5 20 2 2 := ⟨by decide, by decide, zgw_in (List.mem_of_getElem? (i := 222) (by decide +kernel)) rfl⟩
theorem fl_X5_24 : zFl RX5 24 2 3 := ⟨by decide, by decide, zgw_in (List.mem_of_getElem? (i := 223) (by decide +kernel)) rfl⟩
theorem fl_X5_27 : zFl RX5 27 2 4 := ⟨by decide, by decide, zgw_in (List.mem_of_getElem? (i := 224) (by decide +kernel)) rfl⟩
theorem fl_X5_35 : zFl RX5 35 1 0 := ⟨by decide, by decide, zgw_in (List.mem_of_getElem? (i := 159) (by decide +kernel)) rfl⟩
theorem fl_X5_47 : zFl RX5 47 1 2 := ⟨by decide, by decide, zgw_in (List.mem_of_getElem? (i := 164) (by decide +kernel)) rfl⟩
theorem fl_X5_50 : zFl RX5 50 1 6 := ⟨by decide, by decide, zgw_in (List.mem_of_getElem? (i := 172) (by decide +kernel)) rfl⟩
theorem fl_X5_58 : zFl RX5 58 1 7 := ⟨by decide, by decide, zgw_in (List.mem_of_getElem? (i := 174) (by decide +kernel)) rfl⟩
theorem fl_X5_61 : zFl RX5 61 1 3 := ⟨by decide, by decide, zgw_in (List.mem_of_getElem? (i := 166) (by decide +kernel)) rfl⟩
theorem fl_X5_64 : zFl RX5 64 1 14 := ⟨by decide, by decide, zgw_in (List.mem_of_getElem? (i := 188) (by decide +kernel)) rfl⟩
theorem fl_X5_68 : zFl RX5 68 1 1 := ⟨by decide, by decide, zgw_in (List.mem_of_getElem? (i := 161) (by decide +kernel)) rfl⟩
theorem fl_X5_72 : zFl RX5 72 1 4 := ⟨by decide, by decide, zgw_in (List.mem_of_getElem? (i := 168) (by decide +kernel)) rfl⟩
theorem fl_X5_75 : zFl RX5 75 1 5 := ⟨by decide, by decide, zgw_in (List.mem_of_getElem? (i := 170) (by decide +kernel)) rfl⟩
theorem fl_X5_82 : zFl RX5 82 1 10 := ⟨by decide, by decide, zgw_in (List.mem_of_getElem? (i := 180) (by decide +kernel)) rfl⟩
theorem fl_X5_89 : zFl RX5 89 1 9 := ⟨by decide, by decide, zgw_in (List.mem_of_getElem? (i := 178) (by decide +kernel)) rfl⟩
theorem fl_X5_92 : zFl RX5 92 1 8 := ⟨by decide, by decide, zgw_in (List.mem_of_getElem? (i := 176) (by decide +kernel)) rfl⟩
theorem fl_X5_95 : zFl RX5 95 1 11 := ⟨by decide, by decide, zgw_in (List.mem_of_getElem? (i := 182) (by decide +kernel)) rfl⟩
theorem fl_X5_101 : zFl RX5 101 1 12 := ⟨by decide, by decide, zgw_in (List.mem_of_getElem? (i := 184) (by decide +kernel)) rfl⟩
theorem fl_X5_104 : zFl RX5 104 1 13 := ⟨by decide, by decide, zgw_in (List.mem_of_getElem? (i := 186) (by decide +kernel)) rfl⟩
theorem fl_X6_10 : zFl RX6 10 3 0 := ⟨by decide, by decide, zgw_in (List.mem_of_getElem? (i := 236) (by decide +kernel)) rfl⟩
theorem fl_X6_18 : zFl RX6 18 3 1 := ⟨by decide, by decide, zgw_in (List.mem_of_getElem? (i := 237) (by decide +kernel)) rfl⟩
theorem fl_X6_22 : zFl RX6 22 3 2 := ⟨by decide, by decide, zgw_in (List.mem_of_getElem? (i := 238) (by decide +kernel)) rfl⟩
theorem fl_X6_27 : zFl RX6 27 3 3 := ⟨by decide, by decide, zgw_in (List.mem_of_getElem? (i := 239) (by decide +kernel)) rfl⟩
theorem fl_X6_135 : zFl RX6 135 0 1 := ⟨by decide, by decide, zgw_in (List.mem_of_getElem? (i := 127) (by decide +kernel)) rfl⟩
theorem fl_X6_186 : zFl RX6 186 1 1 := ⟨by decide, by decide, zgw_in (List.mem_of_getElem? (i := 162) (by decide +kernel)) rfl⟩
theorem fl_X6_236 : zFl RX6 236 0 2 := ⟨by decide, by decide, zgw_in (List.mem_of_getElem? (i := 129) (by decide +kernel)) rfl⟩
theorem fl_X7_7 : zFl RX7 7 4 0 := ⟨by decide, by decide, zgw_in (List.mem_of_getElem? (i := 944) (by decide +kernel)) rfl⟩
theorem fl_X7_13 : zFl RX7 13 4 3 := ⟨by decide, by decide, zgw_in (List.mem_of_getElem? (i := 947) (by decide +kernel)) rfl⟩
theorem fl_X7_16 : zFl RX7 16 4 5 := ⟨by decide, by decide, zgw_in (List.mem_of_getElem? (i := 949) (by decide +kernel)) rfl⟩
theorem fl_X7_19 : zFl RX7 19 4 6 := ⟨by decide, by decide, zgw_in (List.mem_of_getElem? (i := 950) (by decide +kernel)) rfl⟩
theorem fl_X7_22 : zFl RX7 22 4 7 := ⟨by decide, by decide, zgw_in (List.mem_of_getElem? (i := 951) (by decide +kernel)) rfl⟩
theorem fl_X7_25 : zFl RX7 25 4 8 := ⟨by decide, by decide, zgw_in (List.mem_of_getElem? (i := 952) (by decide +kernel)) rfl⟩
theorem fl_X7_28 : zFl RX7 28 4 9 := ⟨by decide, by decide, zgw_in (List.mem_of_getElem? (i := 953) (by decide +kernel)) rfl⟩
theorem fl_X7_31 : zFl RX7 31 4 10 := ⟨by decide, by decide, zgw_in (List.mem_of_getElem? (i := 954) (by decide +kernel)) rfl⟩
theorem fl_X7_35 : zFl RX7 35 4 13 := ⟨by decide, by decide, zgw_in (List.mem_of_getElem? (i := 957) (by decide +kernel)) rfl⟩
theorem fl_X7_38 : zFl RX7 38 4 14 := ⟨by decide, by decide, zgw_in (List.mem_of_getElem? (i := 958) (by decide +kernel)) rfl⟩
theorem fl_X7_41 : zFl RX7 41 4 1 := ⟨by decide, by decide, zgw_in (List.mem_of_getElem? (i := 945) (by decide +kernel)) rfl⟩
theorem fl_X7_57 : zFl RX7 57 4 2 := ⟨by decide, by decide, zgw_in (List.mem_of_getElem? (i := 946) (by decide +kernel)) rfl⟩
theorem fl_X7_183 : zFl RX7 183 4 4 := ⟨by decide, by decide, zgw_in (List.mem_of_getElem? (i := 948) (by decide +kernel)) rfl⟩
theorem fl_X7_201 : zFl RX7 201 4 11 := ⟨by decide, by decide, zgw_in (List.mem_of_getElem? (i := 955) (by decide +kernel)) rfl⟩
theorem fl_X7_232 : zFl RX7 232 4 12 := ⟨by decide, by decide, zgw_in (List.mem_of_getElem? (i := 956) (by decide +kernel)) rfl⟩
theorem lk_X2_3 {y : zM} (hy : (zname y).cls = RX2) : Cond.methodLink (zname y).cls 3 Lib.objectInit ∈ zgw ∧ Cond.instanceMethod Lib.objectInit ∈ zgw ∧ Cond.code Lib.objectInit ⟨#[0xb1]⟩ 1 none ∈ zgw := by
  refine ⟨?_, zgw_in (List.mem_of_getElem? (i := 117) (by decide +kernel)) rfl, zgw_in (List.mem_of_getElem? (i := 118) (by decide +kernel)) rfl⟩
  rw [hy]
  exact zgw_in (List.mem_of_getElem? (i := 124) (by decide +kernel)) rfl
theorem lk_X2_28 {y : zM} (hy : (zname y).cls = RX2) : zLkV y M_X2_rewind 28 0 := by
  refine ⟨?_, zgw_in (List.mem_of_getElem? (i := 297) (by decide +kernel)) rfl, zgw_in (List.mem_of_getElem? (i := 298) (by decide +kernel)) rfl, by decide +kernel⟩
  rw [hy]
  exact zgw_in (List.mem_of_getElem? (i := 296) (by decide +kernel)) rfl
theorem lk_X2_31 {y : zM} (hy : (zname y).cls = RX2) : zLkV y M_X2_readCommand 31 0 := by
  refine ⟨?_, zgw_in (List.mem_of_getElem? (i := 301) (by decide +kernel)) rfl, zgw_in (List.mem_of_getElem? (i := 302) (by decide +kernel)) rfl, by decide +kernel⟩
  rw [hy]
  exact zgw_in (List.mem_of_getElem? (i := 300) (by decide +kernel)) rfl
theorem lk_X2_35 {y : zM} (hy : (zname y).cls = RX2) : zLkV y M_X2_skipSpaces 35 0 := by
  refine ⟨?_, zgw_in (List.mem_of_getElem? (i := 306) (by decide +kernel)) rfl, zgw_in (List.mem_of_getElem? (i := 1) (by decide +kernel)) rfl, by decide +kernel⟩
  rw [hy]
  exact zgw_in (List.mem_of_getElem? (i := 304) (by decide +kernel)) rfl
theorem lk_X2_39 {y : zM} (hy : (zname y).cls = RX2) : zLkV y M_X2_peek 39 0 := by
  refine ⟨?_, zgw_in (List.mem_of_getElem? (i := 310) (by decide +kernel)) rfl, zgw_in (List.mem_of_getElem? (i := 2) (by decide +kernel)) rfl, by decide +kernel⟩
  rw [hy]
  exact zgw_in (List.mem_of_getElem? (i := 308) (by decide +kernel)) rfl
theorem lk_X2_43 {y : zM} (hy : (zname y).cls = RX2) : zLkV y M_X2_readWord 43 0 := by
  refine ⟨?_, zgw_in (List.mem_of_getElem? (i := 314) (by decide +kernel)) rfl, zgw_in (List.mem_of_getElem? (i := 3) (by decide +kernel)) rfl, by decide +kernel⟩
  rw [hy]
  exact zgw_in (List.mem_of_getElem? (i := 312) (by decide +kernel)) rfl
theorem lk_X2_51 {y : zM} (hy : (zname y).cls = RX2) : zLkV y M_X2_readNumbers 51 1 := by
  refine ⟨?_, zgw_in (List.mem_of_getElem? (i := 379) (by decide +kernel)) rfl, zgw_in (List.mem_of_getElem? (i := 6) (by decide +kernel)) rfl, by decide +kernel⟩
  rw [hy]
  exact zgw_in (List.mem_of_getElem? (i := 377) (by decide +kernel)) rfl
theorem lk_X2_55 {y : zM} (hy : (zname y).cls = RX2) : zLkV y M_X2_readSemicolon 55 0 := by
  refine ⟨?_, zgw_in (List.mem_of_getElem? (i := 391) (by decide +kernel)) rfl, zgw_in (List.mem_of_getElem? (i := 9) (by decide +kernel)) rfl, by decide +kernel⟩
  rw [hy]
  exact zgw_in (List.mem_of_getElem? (i := 389) (by decide +kernel)) rfl
theorem lk_X2_58 {y : zM} (hy : (zname y).cls = RX2) : ((zname y).cls, 58, zname M_X6_isBetween, "SlackRows") ∈ zNestM ∧ Cond.static (zname M_X6_isBetween) ∈ zgw ∧ (parseMethodDescriptor (zname M_X6_isBetween).desc).map (fun d => d.parameters.length) = some 3 := by
  refine ⟨?_, zgw_in (List.mem_of_getElem? (i := 321) (by decide +kernel)) rfl, by decide +kernel⟩
  rw [hy]
  decide +kernel
theorem lk_X2_62 {y : zM} (hy : (zname y).cls = RX2) : zLkV y M_X2_isAtLetter 62 0 := by
  refine ⟨?_, zgw_in (List.mem_of_getElem? (i := 318) (by decide +kernel)) rfl, zgw_in (List.mem_of_getElem? (i := 4) (by decide +kernel)) rfl, by decide +kernel⟩
  rw [hy]
  exact zgw_in (List.mem_of_getElem? (i := 316) (by decide +kernel)) rfl
theorem lk_X2_73 {y : zM} (hy : (zname y).cls = RX2) : zLkV y M_X2_isWordAt 73 2 := by
  refine ⟨?_, zgw_in (List.mem_of_getElem? (i := 327) (by decide +kernel)) rfl, zgw_in (List.mem_of_getElem? (i := 5) (by decide +kernel)) rfl, by decide +kernel⟩
  rw [hy]
  exact zgw_in (List.mem_of_getElem? (i := 325) (by decide +kernel)) rfl
theorem lk_X2_85 {y : zM} (hy : (zname y).cls = RX2) : zLkV y M_X2_isAtDigit 85 0 := by
  refine ⟨?_, zgw_in (List.mem_of_getElem? (i := 383) (by decide +kernel)) rfl, zgw_in (List.mem_of_getElem? (i := 7) (by decide +kernel)) rfl, by decide +kernel⟩
  rw [hy]
  exact zgw_in (List.mem_of_getElem? (i := 381) (by decide +kernel)) rfl
theorem lk_X2_88 {y : zM} (hy : (zname y).cls = RX2) : zLkV y M_X2_readDigits 88 0 := by
  refine ⟨?_, zgw_in (List.mem_of_getElem? (i := 387) (by decide +kernel)) rfl, zgw_in (List.mem_of_getElem? (i := 8) (by decide +kernel)) rfl, by decide +kernel⟩
  rw [hy]
  exact zgw_in (List.mem_of_getElem? (i := 385) (by decide +kernel)) rfl
theorem lk_X3_3 {y : zM} (hy : (zname y).cls = RX3) : Cond.methodLink (zname y).cls 3 Lib.objectInit ∈ zgw ∧ Cond.instanceMethod Lib.objectInit ∈ zgw ∧ Cond.code Lib.objectInit ⟨#[0xb1]⟩ 1 none ∈ zgw := by
  refine ⟨?_, zgw_in (List.mem_of_getElem? (i := 117) (by decide +kernel)) rfl, zgw_in (List.mem_of_getElem? (i := 118) (by decide +kernel)) rfl⟩
  rw [hy]
  exact zgw_in (List.mem_of_getElem? (i := 157) (by decide +kernel)) rfl
theorem lk_X3_60 {y : zM} (hy : (zname y).cls = RX3) : zLkV y M_X3_isCritical 60 0 := by
  refine ⟨?_, zgw_in (List.mem_of_getElem? (i := 549) (by decide +kernel)) rfl, zgw_in (List.mem_of_getElem? (i := 550) (by decide +kernel)) rfl, by decide +kernel⟩
  rw [hy]
  exact zgw_in (List.mem_of_getElem? (i := 548) (by decide +kernel)) rfl
theorem lk_X3_64 {y : zM} (hy : (zname y).cls = RX3) : zLkV y M_X3_isWithin 64 1 := by
  refine ⟨?_, zgw_in (List.mem_of_getElem? (i := 456) (by decide +kernel)) rfl, zgw_in (List.mem_of_getElem? (i := 457) (by decide +kernel)) rfl, by decide +kernel⟩
  rw [hy]
  exact zgw_in (List.mem_of_getElem? (i := 455) (by decide +kernel)) rfl
theorem lk_X3_68 {y : zM} (hy : (zname y).cls = RX3) : Cond.methodLink (zname y).cls 68 Lib.Math.max.name ∈ zgw ∧ Cond.static Lib.Math.max.name ∈ zgw ∧ Cond.initialized "java/lang/Math" ∈ zgw ∧ Cond.code Lib.Math.max.name Lib.Math.max.code 2 (some .int) ∈ zgw := by
  refine ⟨?_, zgw_in (List.mem_of_getElem? (i := 266) (by decide +kernel)) rfl, zgw_in (List.mem_of_getElem? (i := 106) (by decide +kernel)) rfl, zgw_in (List.mem_of_getElem? (i := 267) (by decide +kernel)) rfl⟩
  rw [hy]
  exact zgw_in (List.mem_of_getElem? (i := 265) (by decide +kernel)) rfl
theorem lk_X3_74 {y : zM} (hy : (zname y).cls = RX3) : zLkV y M_X3_reserveWith 74 1 := by
  refine ⟨?_, zgw_in (List.mem_of_getElem? (i := 262) (by decide +kernel)) rfl, zgw_in (List.mem_of_getElem? (i := 263) (by decide +kernel)) rfl, by decide +kernel⟩
  rw [hy]
  exact zgw_in (List.mem_of_getElem? (i := 261) (by decide +kernel)) rfl
theorem lk_X3_78 {y : zM} (hy : (zname y).cls = RX3) : zLkV y M_X3_rowLength 78 1 := by
  refine ⟨?_, zgw_in (List.mem_of_getElem? (i := 273) (by decide +kernel)) rfl, zgw_in (List.mem_of_getElem? (i := 274) (by decide +kernel)) rfl, by decide +kernel⟩
  rw [hy]
  exact zgw_in (List.mem_of_getElem? (i := 272) (by decide +kernel)) rfl
theorem lk_X3_81 {y : zM} (hy : (zname y).cls = RX3) : zLkV y M_X3_longestRowBut 81 1 := by
  refine ⟨?_, zgw_in (List.mem_of_getElem? (i := 277) (by decide +kernel)) rfl, zgw_in (List.mem_of_getElem? (i := 278) (by decide +kernel)) rfl, by decide +kernel⟩
  rw [hy]
  exact zgw_in (List.mem_of_getElem? (i := 276) (by decide +kernel)) rfl
theorem lk_X5_3 {y : zM} (hy : (zname y).cls = RX5) : Cond.methodLink (zname y).cls 3 Lib.objectInit ∈ zgw ∧ Cond.instanceMethod Lib.objectInit ∈ zgw ∧ Cond.code Lib.objectInit ⟨#[0xb1]⟩ 1 none ∈ zgw := by
  refine ⟨?_, zgw_in (List.mem_of_getElem? (i := 117) (by decide +kernel)) rfl, zgw_in (List.mem_of_getElem? (i := 118) (by decide +kernel)) rfl⟩
  rw [hy]
  exact zgw_in (List.mem_of_getElem? (i := 150) (by decide +kernel)) rfl
theorem lk_X5_30 {y : zM} (hy : (zname y).cls = RX5) : ((zname y).cls, 30, zname M_X3_init, "SlackRows") ∈ zNestM ∧ Cond.instanceMethod (zname M_X3_init) ∈ zgw ∧ (parseMethodDescriptor (zname M_X3_init).desc).map (fun d => d.parameters.length) = some 0 := by
  refine ⟨?_, zgw_in (List.mem_of_getElem? (i := 155) (by decide +kernel)) rfl, by decide +kernel⟩
  rw [hy]
  decide +kernel
theorem lk_X5_31 {y : zM} (hy : (zname y).cls = RX5) : zLkV y M_X3_copyFrom 31 1 := by
  refine ⟨?_, zgw_in (List.mem_of_getElem? (i := 405) (by decide +kernel)) rfl, zgw_in (List.mem_of_getElem? (i := 406) (by decide +kernel)) rfl, by decide +kernel⟩
  rw [hy]
  exact zgw_in (List.mem_of_getElem? (i := 404) (by decide +kernel)) rfl
theorem lk_X5_38 {y : zM} (hy : (zname y).cls = RX5) : zLkV y M_X5_findOrder 38 0 := by
  refine ⟨?_, zgw_in (List.mem_of_getElem? (i := 481) (by decide +kernel)) rfl, zgw_in (List.mem_of_getElem? (i := 15) (by decide +kernel)) rfl, by decide +kernel⟩
  rw [hy]
  exact zgw_in (List.mem_of_getElem? (i := 479) (by decide +kernel)) rfl
theorem lk_X5_41 {y : zM} (hy : (zname y).cls = RX5) : zLkV y M_X5_measureLengths 41 0 := by
  refine ⟨?_, zgw_in (List.mem_of_getElem? (i := 489) (by decide +kernel)) rfl, zgw_in (List.mem_of_getElem? (i := 17) (by decide +kernel)) rfl, by decide +kernel⟩
  rw [hy]
  exact zgw_in (List.mem_of_getElem? (i := 487) (by decide +kernel)) rfl
theorem lk_X5_44 {y : zM} (hy : (zname y).cls = RX5) : zLkV y M_X5_tellTimes 44 1 := by
  refine ⟨?_, zgw_in (List.mem_of_getElem? (i := 498) (by decide +kernel)) rfl, zgw_in (List.mem_of_getElem? (i := 18) (by decide +kernel)) rfl, by decide +kernel⟩
  rw [hy]
  exact zgw_in (List.mem_of_getElem? (i := 496) (by decide +kernel)) rfl
theorem lk_X5_54 {y : zM} (hy : (zname y).cls = RX5) : zLkV y M_X5_findAhead 54 1 := by
  refine ⟨?_, zgw_in (List.mem_of_getElem? (i := 485) (by decide +kernel)) rfl, zgw_in (List.mem_of_getElem? (i := 16) (by decide +kernel)) rfl, by decide +kernel⟩
  rw [hy]
  exact zgw_in (List.mem_of_getElem? (i := 483) (by decide +kernel)) rfl
theorem lk_X5_78 {y : zM} (hy : (zname y).cls = RX5) : zLkV y M_X3_longestRowBut 78 1 := by
  refine ⟨?_, zgw_in (List.mem_of_getElem? (i := 277) (by decide +kernel)) rfl, zgw_in (List.mem_of_getElem? (i := 278) (by decide +kernel)) rfl, by decide +kernel⟩
  rw [hy]
  exact zgw_in (List.mem_of_getElem? (i := 491) (by decide +kernel)) rfl
theorem lk_X5_85 {y : zM} (hy : (zname y).cls = RX5) : zLkV y M_X3_lengthenRow 85 2 := by
  refine ⟨?_, zgw_in (List.mem_of_getElem? (i := 493) (by decide +kernel)) rfl, zgw_in (List.mem_of_getElem? (i := 494) (by decide +kernel)) rfl, by decide +kernel⟩
  rw [hy]
  exact zgw_in (List.mem_of_getElem? (i := 492) (by decide +kernel)) rfl
theorem lk_X5_98 {y : zM} (hy : (zname y).cls = RX5) : zLkV y M_X3_rowLength 98 1 := by
  refine ⟨?_, zgw_in (List.mem_of_getElem? (i := 273) (by decide +kernel)) rfl, zgw_in (List.mem_of_getElem? (i := 274) (by decide +kernel)) rfl, by decide +kernel⟩
  rw [hy]
  exact zgw_in (List.mem_of_getElem? (i := 500) (by decide +kernel)) rfl
theorem lk_X5_113 {y : zM} (hy : (zname y).cls = RX5) : ((zname y).cls, 113, zname M_X6_isBetween, "SlackRows") ∈ zNestM ∧ Cond.static (zname M_X6_isBetween) ∈ zgw ∧ (parseMethodDescriptor (zname M_X6_isBetween).desc).map (fun d => d.parameters.length) = some 3 := by
  refine ⟨?_, zgw_in (List.mem_of_getElem? (i := 321) (by decide +kernel)) rfl, by decide +kernel⟩
  rw [hy]
  decide +kernel
theorem lk_X5_126 {y : zM} (hy : (zname y).cls = RX5) : zLkV y M_X5_find 126 1 := by
  refine ⟨?_, zgw_in (List.mem_of_getElem? (i := 426) (by decide +kernel)) rfl, zgw_in (List.mem_of_getElem? (i := 427) (by decide +kernel)) rfl, by decide +kernel⟩
  rw [hy]
  exact zgw_in (List.mem_of_getElem? (i := 425) (by decide +kernel)) rfl
theorem lk_X5_135 {y : zM} (hy : (zname y).cls = RX5) : zLkS y M_X5_areInRange 135 3 := by
  refine ⟨?_, zgw_in (List.mem_of_getElem? (i := 434) (by decide +kernel)) rfl, by decide +kernel⟩
  rw [hy]
  exact zgw_in (List.mem_of_getElem? (i := 433) (by decide +kernel)) rfl
theorem lk_X5_139 {y : zM} (hy : (zname y).cls = RX5) : zLkV y M_X5_isPossible 139 3 := by
  refine ⟨?_, zgw_in (List.mem_of_getElem? (i := 446) (by decide +kernel)) rfl, zgw_in (List.mem_of_getElem? (i := 12) (by decide +kernel)) rfl, by decide +kernel⟩
  rw [hy]
  exact zgw_in (List.mem_of_getElem? (i := 444) (by decide +kernel)) rfl
theorem lk_X5_155 {y : zM} (hy : (zname y).cls = RX5) : zLkS y M_X5_canMoveTo 155 2 := by
  refine ⟨?_, zgw_in (List.mem_of_getElem? (i := 449) (by decide +kernel)) rfl, by decide +kernel⟩
  rw [hy]
  exact zgw_in (List.mem_of_getElem? (i := 448) (by decide +kernel)) rfl
theorem lk_X5_159 {y : zM} (hy : (zname y).cls = RX5) : zLkV y M_X3_whyNotTo 159 1 := by
  refine ⟨?_, zgw_in (List.mem_of_getElem? (i := 452) (by decide +kernel)) rfl, zgw_in (List.mem_of_getElem? (i := 453) (by decide +kernel)) rfl, by decide +kernel⟩
  rw [hy]
  exact zgw_in (List.mem_of_getElem? (i := 451) (by decide +kernel)) rfl
theorem lk_X5_163 {y : zM} (hy : (zname y).cls = RX5) : zLkV y M_X5_lateness 163 0 := by
  refine ⟨?_, zgw_in (List.mem_of_getElem? (i := 468) (by decide +kernel)) rfl, zgw_in (List.mem_of_getElem? (i := 13) (by decide +kernel)) rfl, by decide +kernel⟩
  rw [hy]
  exact zgw_in (List.mem_of_getElem? (i := 466) (by decide +kernel)) rfl
theorem lk_X5_166 {y : zM} (hy : (zname y).cls = RX5) : zLkV y M_X5_addNode 166 4 := by
  refine ⟨?_, zgw_in (List.mem_of_getElem? (i := 473) (by decide +kernel)) rfl, zgw_in (List.mem_of_getElem? (i := 14) (by decide +kernel)) rfl, by decide +kernel⟩
  rw [hy]
  exact zgw_in (List.mem_of_getElem? (i := 471) (by decide +kernel)) rfl
theorem lk_X5_170 {y : zM} (hy : (zname y).cls = RX5) : zLkV y M_X5_putLast 170 3 := by
  refine ⟨?_, zgw_in (List.mem_of_getElem? (i := 503) (by decide +kernel)) rfl, zgw_in (List.mem_of_getElem? (i := 19) (by decide +kernel)) rfl, by decide +kernel⟩
  rw [hy]
  exact zgw_in (List.mem_of_getElem? (i := 501) (by decide +kernel)) rfl
theorem lk_X5_174 {y : zM} (hy : (zname y).cls = RX5) : zLkV y M_X5_dropAll 174 1 := by
  refine ⟨?_, zgw_in (List.mem_of_getElem? (i := 507) (by decide +kernel)) rfl, zgw_in (List.mem_of_getElem? (i := 20) (by decide +kernel)) rfl, by decide +kernel⟩
  rw [hy]
  exact zgw_in (List.mem_of_getElem? (i := 505) (by decide +kernel)) rfl
theorem lk_X5_177 {y : zM} (hy : (zname y).cls = RX5) : zLkV y M_X5_changeDuration 177 2 := by
  refine ⟨?_, zgw_in (List.mem_of_getElem? (i := 512) (by decide +kernel)) rfl, zgw_in (List.mem_of_getElem? (i := 21) (by decide +kernel)) rfl, by decide +kernel⟩
  rw [hy]
  exact zgw_in (List.mem_of_getElem? (i := 510) (by decide +kernel)) rfl
theorem lk_X5_181 {y : zM} (hy : (zname y).cls = RX5) : zLkV y M_X5_changeReserve 181 2 := by
  refine ⟨?_, zgw_in (List.mem_of_getElem? (i := 517) (by decide +kernel)) rfl, zgw_in (List.mem_of_getElem? (i := 22) (by decide +kernel)) rfl, by decide +kernel⟩
  rw [hy]
  exact zgw_in (List.mem_of_getElem? (i := 515) (by decide +kernel)) rfl
theorem lk_X5_184 {y : zM} (hy : (zname y).cls = RX5) : zLkV y M_X5_plan 184 0 := by
  refine ⟨?_, zgw_in (List.mem_of_getElem? (i := 476) (by decide +kernel)) rfl, zgw_in (List.mem_of_getElem? (i := 477) (by decide +kernel)) rfl, by decide +kernel⟩
  rw [hy]
  exact zgw_in (List.mem_of_getElem? (i := 475) (by decide +kernel)) rfl
theorem lk_X5_187 {y : zM} (hy : (zname y).cls = RX5) : zLkV y M_X3_isWithin 187 1 := by
  refine ⟨?_, zgw_in (List.mem_of_getElem? (i := 456) (by decide +kernel)) rfl, zgw_in (List.mem_of_getElem? (i := 457) (by decide +kernel)) rfl, by decide +kernel⟩
  rw [hy]
  exact zgw_in (List.mem_of_getElem? (i := 509) (by decide +kernel)) rfl
theorem lk_X5_191 {y : zM} (hy : (zname y).cls = RX5) : zLkV y M_X3_reserveWith 191 1 := by
  refine ⟨?_, zgw_in (List.mem_of_getElem? (i := 262) (by decide +kernel)) rfl, zgw_in (List.mem_of_getElem? (i := 263) (by decide +kernel)) rfl, by decide +kernel⟩
  rw [hy]
  exact zgw_in (List.mem_of_getElem? (i := 514) (by decide +kernel)) rfl
theorem lk_X5_194 {y : zM} (hy : (zname y).cls = RX5) : zLkV y M_X5_end 194 0 := by
  refine ⟨?_, zgw_in (List.mem_of_getElem? (i := 282) (by decide +kernel)) rfl, zgw_in (List.mem_of_getElem? (i := 0) (by decide +kernel)) rfl, by decide +kernel⟩
  rw [hy]
  exact zgw_in (List.mem_of_getElem? (i := 280) (by decide +kernel)) rfl
theorem lk_X5_197 {y : zM} (hy : (zname y).cls = RX5) : Cond.methodLink (zname y).cls 197 Lib.Math.max.name ∈ zgw ∧ Cond.static Lib.Math.max.name ∈ zgw ∧ Cond.initialized "java/lang/Math" ∈ zgw ∧ Cond.code Lib.Math.max.name Lib.Math.max.code 2 (some .int) ∈ zgw := by
  refine ⟨?_, zgw_in (List.mem_of_getElem? (i := 266) (by decide +kernel)) rfl, zgw_in (List.mem_of_getElem? (i := 106) (by decide +kernel)) rfl, zgw_in (List.mem_of_getElem? (i := 267) (by decide +kernel)) rfl⟩
  rw [hy]
  exact zgw_in (List.mem_of_getElem? (i := 470) (by decide +kernel)) rfl
theorem lk_X5_203 {y : zM} (hy : (zname y).cls = RX5) : zLkV y M_X5_countTasks 203 0 := by
  refine ⟨?_, zgw_in (List.mem_of_getElem? (i := 538) (by decide +kernel)) rfl, zgw_in (List.mem_of_getElem? (i := 24) (by decide +kernel)) rfl, by decide +kernel⟩
  rw [hy]
  exact zgw_in (List.mem_of_getElem? (i := 536) (by decide +kernel)) rfl
theorem lk_X5_206 {y : zM} (hy : (zname y).cls = RX5) : zLkV y M_X5_countCriticalTasks 206 0 := by
  refine ⟨?_, zgw_in (List.mem_of_getElem? (i := 542) (by decide +kernel)) rfl, zgw_in (List.mem_of_getElem? (i := 25) (by decide +kernel)) rfl, by decide +kernel⟩
  rw [hy]
  exact zgw_in (List.mem_of_getElem? (i := 540) (by decide +kernel)) rfl
theorem lk_X5_209 {y : zM} (hy : (zname y).cls = RX5) : zLkV y M_X5_countCriticalRows 209 0 := by
  refine ⟨?_, zgw_in (List.mem_of_getElem? (i := 554) (by decide +kernel)) rfl, zgw_in (List.mem_of_getElem? (i := 26) (by decide +kernel)) rfl, by decide +kernel⟩
  rw [hy]
  exact zgw_in (List.mem_of_getElem? (i := 552) (by decide +kernel)) rfl
theorem lk_X5_212 {y : zM} (hy : (zname y).cls = RX5) : zLkV y M_X5_sumOfDurations 212 0 := by
  refine ⟨?_, zgw_in (List.mem_of_getElem? (i := 571) (by decide +kernel)) rfl, zgw_in (List.mem_of_getElem? (i := 29) (by decide +kernel)) rfl, by decide +kernel⟩
  rw [hy]
  exact zgw_in (List.mem_of_getElem? (i := 569) (by decide +kernel)) rfl
theorem lk_X5_215 {y : zM} (hy : (zname y).cls = RX5) : zLkV y M_X5_sumOfReserves 215 0 := by
  refine ⟨?_, zgw_in (List.mem_of_getElem? (i := 575) (by decide +kernel)) rfl, zgw_in (List.mem_of_getElem? (i := 30) (by decide +kernel)) rfl, by decide +kernel⟩
  rw [hy]
  exact zgw_in (List.mem_of_getElem? (i := 573) (by decide +kernel)) rfl
theorem lk_X5_218 {y : zM} (hy : (zname y).cls = RX5) : zLkV y M_X5_mostRunning 218 0 := by
  refine ⟨?_, zgw_in (List.mem_of_getElem? (i := 579) (by decide +kernel)) rfl, zgw_in (List.mem_of_getElem? (i := 31) (by decide +kernel)) rfl, by decide +kernel⟩
  rw [hy]
  exact zgw_in (List.mem_of_getElem? (i := 577) (by decide +kernel)) rfl
theorem lk_X5_221 {y : zM} (hy : (zname y).cls = RX5) : zLkV y M_X3_isCriticalTask 221 0 := by
  refine ⟨?_, zgw_in (List.mem_of_getElem? (i := 545) (by decide +kernel)) rfl, zgw_in (List.mem_of_getElem? (i := 546) (by decide +kernel)) rfl, by decide +kernel⟩
  rw [hy]
  exact zgw_in (List.mem_of_getElem? (i := 544) (by decide +kernel)) rfl
theorem lk_X5_225 {y : zM} (hy : (zname y).cls = RX5) : zLkV y M_X5_isCriticalRow 225 2 := by
  refine ⟨?_, zgw_in (List.mem_of_getElem? (i := 558) (by decide +kernel)) rfl, zgw_in (List.mem_of_getElem? (i := 27) (by decide +kernel)) rfl, by decide +kernel⟩
  rw [hy]
  exact zgw_in (List.mem_of_getElem? (i := 556) (by decide +kernel)) rfl
theorem lk_X5_229 {y : zM} (hy : (zname y).cls = RX5) : zLkV y M_X5_countRunning 229 1 := by
  refine ⟨?_, zgw_in (List.mem_of_getElem? (i := 582) (by decide +kernel)) rfl, zgw_in (List.mem_of_getElem? (i := 583) (by decide +kernel)) rfl, by decide +kernel⟩
  rw [hy]
  exact zgw_in (List.mem_of_getElem? (i := 581) (by decide +kernel)) rfl
theorem lk_X5_232 {y : zM} (hy : (zname y).cls = RX5) : zLkV y M_X3_runsAt 232 1 := by
  refine ⟨?_, zgw_in (List.mem_of_getElem? (i := 586) (by decide +kernel)) rfl, zgw_in (List.mem_of_getElem? (i := 587) (by decide +kernel)) rfl, by decide +kernel⟩
  rw [hy]
  exact zgw_in (List.mem_of_getElem? (i := 585) (by decide +kernel)) rfl
theorem lk_X5_236 {y : zM} (hy : (zname y).cls = RX5) : zLkV y M_X5_countChildren 236 2 := by
  refine ⟨?_, zgw_in (List.mem_of_getElem? (i := 563) (by decide +kernel)) rfl, zgw_in (List.mem_of_getElem? (i := 28) (by decide +kernel)) rfl, by decide +kernel⟩
  rw [hy]
  exact zgw_in (List.mem_of_getElem? (i := 561) (by decide +kernel)) rfl
theorem lk_X5_239 {y : zM} (hy : (zname y).cls = RX5) : zLkV y M_X3_standsIn 239 2 := by
  refine ⟨?_, zgw_in (List.mem_of_getElem? (i := 566) (by decide +kernel)) rfl, zgw_in (List.mem_of_getElem? (i := 567) (by decide +kernel)) rfl, by decide +kernel⟩
  rw [hy]
  exact zgw_in (List.mem_of_getElem? (i := 565) (by decide +kernel)) rfl
theorem lk_X5_243 {y : zM} (hy : (zname y).cls = RX5) : zLkV y M_X3_isCritical 243 0 := by
  refine ⟨?_, zgw_in (List.mem_of_getElem? (i := 549) (by decide +kernel)) rfl, zgw_in (List.mem_of_getElem? (i := 550) (by decide +kernel)) rfl, by decide +kernel⟩
  rw [hy]
  exact zgw_in (List.mem_of_getElem? (i := 560) (by decide +kernel)) rfl
theorem lk_X5_246 {y : zM} (hy : (zname y).cls = RX5) : zLkV y M_X5_nextCritical 246 1 := by
  refine ⟨?_, zgw_in (List.mem_of_getElem? (i := 616) (by decide +kernel)) rfl, zgw_in (List.mem_of_getElem? (i := 34) (by decide +kernel)) rfl, by decide +kernel⟩
  rw [hy]
  exact zgw_in (List.mem_of_getElem? (i := 614) (by decide +kernel)) rfl
theorem lk_X5_250 {y : zM} (hy : (zname y).cls = RX5) : zLkS y M_X5_startsBefore 250 2 := by
  refine ⟨?_, zgw_in (List.mem_of_getElem? (i := 619) (by decide +kernel)) rfl, by decide +kernel⟩
  rw [hy]
  exact zgw_in (List.mem_of_getElem? (i := 618) (by decide +kernel)) rfl
theorem lk_X5_253 {y : zM} (hy : (zname y).cls = RX5) : zLkV y M_X3_lengthWith 253 1 := by
  refine ⟨?_, zgw_in (List.mem_of_getElem? (i := 258) (by decide +kernel)) rfl, zgw_in (List.mem_of_getElem? (i := 259) (by decide +kernel)) rfl, by decide +kernel⟩
  rw [hy]
  exact zgw_in (List.mem_of_getElem? (i := 257) (by decide +kernel)) rfl
theorem lk_X5_256 {y : zM} (hy : (zname y).cls = RX5) : zLkV y M_X3_endIfLength 256 1 := by
  refine ⟨?_, zgw_in (List.mem_of_getElem? (i := 269) (by decide +kernel)) rfl, zgw_in (List.mem_of_getElem? (i := 270) (by decide +kernel)) rfl, by decide +kernel⟩
  rw [hy]
  exact zgw_in (List.mem_of_getElem? (i := 268) (by decide +kernel)) rfl
theorem lk_X5_259 {y : zM} (hy : (zname y).cls = RX5) : zLkV y M_X5_nextNumbered 259 1 := by
  refine ⟨?_, zgw_in (List.mem_of_getElem? (i := 595) (by decide +kernel)) rfl, zgw_in (List.mem_of_getElem? (i := 32) (by decide +kernel)) rfl, by decide +kernel⟩
  rw [hy]
  exact zgw_in (List.mem_of_getElem? (i := 593) (by decide +kernel)) rfl
theorem lk_X5_262 {y : zM} (hy : (zname y).cls = RX5) : zLkV y M_X5_mixNode 262 2 := by
  refine ⟨?_, zgw_in (List.mem_of_getElem? (i := 599) (by decide +kernel)) rfl, zgw_in (List.mem_of_getElem? (i := 33) (by decide +kernel)) rfl, by decide +kernel⟩
  rw [hy]
  exact zgw_in (List.mem_of_getElem? (i := 597) (by decide +kernel)) rfl
theorem lk_X5_266 {y : zM} (hy : (zname y).cls = RX5) : ((zname y).cls, 266, zname M_X6_mix, "SlackRows") ∈ zNestM ∧ Cond.static (zname M_X6_mix) ∈ zgw ∧ (parseMethodDescriptor (zname M_X6_mix).desc).map (fun d => d.parameters.length) = some 2 := by
  refine ⟨?_, zgw_in (List.mem_of_getElem? (i := 525) (by decide +kernel)) rfl, by decide +kernel⟩
  rw [hy]
  decide +kernel
theorem lk_X5_270 {y : zM} (hy : (zname y).cls = RX5) : zLkV y M_X3_value 270 1 := by
  refine ⟨?_, zgw_in (List.mem_of_getElem? (i := 603) (by decide +kernel)) rfl, zgw_in (List.mem_of_getElem? (i := 604) (by decide +kernel)) rfl, by decide +kernel⟩
  rw [hy]
  exact zgw_in (List.mem_of_getElem? (i := 602) (by decide +kernel)) rfl
theorem lk_X5_273 {y : zM} (hy : (zname y).cls = RX5) : zLkV y M_X5_rowValue 273 3 := by
  refine ⟨?_, zgw_in (List.mem_of_getElem? (i := 607) (by decide +kernel)) rfl, zgw_in (List.mem_of_getElem? (i := 608) (by decide +kernel)) rfl, by decide +kernel⟩
  rw [hy]
  exact zgw_in (List.mem_of_getElem? (i := 606) (by decide +kernel)) rfl
theorem lk_X6_1 {y : zM} (hy : (zname y).cls = RX6) : Cond.methodLink (zname y).cls 1 Lib.objectInit ∈ zgw ∧ Cond.instanceMethod Lib.objectInit ∈ zgw ∧ Cond.code Lib.objectInit ⟨#[0xb1]⟩ 1 none ∈ zgw := by
  refine ⟨?_, zgw_in (List.mem_of_getElem? (i := 117) (by decide +kernel)) rfl, zgw_in (List.mem_of_getElem? (i := 118) (by decide +kernel)) rfl⟩
  rw [hy]
  exact zgw_in (List.mem_of_getElem? (i := 116) (by decide +kernel)) rfl
theorem lk_X6_9 {y : zM} (hy : (zname y).cls = RX6) : ((zname y).cls, 9, zname M_X2_init, "SlackRows") ∈ zNestM ∧ Cond.instanceMethod (zname M_X2_init) ∈ zgw ∧ (parseMethodDescriptor (zname M_X2_init).desc).map (fun d => d.parameters.length) = some 0 := by
  refine ⟨?_, zgw_in (List.mem_of_getElem? (i := 122) (by decide +kernel)) rfl, by decide +kernel⟩
  rw [hy]
  decide +kernel
theorem lk_X6_26 {y : zM} (hy : (zname y).cls = RX6) : Cond.methodLink (zname y).cls 26 (zname M_X5_init) ∈ zgw ∧ Cond.instanceMethod (zname M_X5_init) ∈ zgw ∧ (parseMethodDescriptor (zname M_X5_init).desc).map (fun d => d.parameters.length) = some 0 := by
  refine ⟨?_, zgw_in (List.mem_of_getElem? (i := 148) (by decide +kernel)) rfl, by decide +kernel⟩
  rw [hy]
  exact zgw_in (List.mem_of_getElem? (i := 147) (by decide +kernel)) rfl
theorem lk_X6_37 {y : zM} (hy : (zname y).cls = RX6) : zLkV y M_X6_change 37 4 := by
  refine ⟨?_, zgw_in (List.mem_of_getElem? (i := 635) (by decide +kernel)) rfl, zgw_in (List.mem_of_getElem? (i := 35) (by decide +kernel)) rfl, by decide +kernel⟩
  rw [hy]
  exact zgw_in (List.mem_of_getElem? (i := 633) (by decide +kernel)) rfl
theorem lk_X6_62 {y : zM} (hy : (zname y).cls = RX6) : zLkV y M_X6_existing 62 1 := by
  refine ⟨?_, zgw_in (List.mem_of_getElem? (i := 813) (by decide +kernel)) rfl, zgw_in (List.mem_of_getElem? (i := 37) (by decide +kernel)) rfl, by decide +kernel⟩
  rw [hy]
  exact zgw_in (List.mem_of_getElem? (i := 811) (by decide +kernel)) rfl
theorem lk_X6_66 {y : zM} (hy : (zname y).cls = RX6) : zLkS y M_X6_requireRange 66 3 := by
  refine ⟨?_, zgw_in (List.mem_of_getElem? (i := 817) (by decide +kernel)) rfl, by decide +kernel⟩
  rw [hy]
  exact zgw_in (List.mem_of_getElem? (i := 816) (by decide +kernel)) rfl
theorem lk_X6_70 {y : zM} (hy : (zname y).cls = RX6) : zLkV y M_X3_value 70 1 := by
  refine ⟨?_, zgw_in (List.mem_of_getElem? (i := 603) (by decide +kernel)) rfl, zgw_in (List.mem_of_getElem? (i := 604) (by decide +kernel)) rfl, by decide +kernel⟩
  rw [hy]
  exact zgw_in (List.mem_of_getElem? (i := 820) (by decide +kernel)) rfl
theorem lk_X6_76 {y : zM} (hy : (zname y).cls = RX6) : zLkS y M_X6_requireGroup 76 1 := by
  refine ⟨?_, zgw_in (List.mem_of_getElem? (i := 829) (by decide +kernel)) rfl, by decide +kernel⟩
  rw [hy]
  exact zgw_in (List.mem_of_getElem? (i := 828) (by decide +kernel)) rfl
theorem lk_X6_80 {y : zM} (hy : (zname y).cls = RX6) : zLkV y M_X5_rowValue 80 3 := by
  refine ⟨?_, zgw_in (List.mem_of_getElem? (i := 607) (by decide +kernel)) rfl, zgw_in (List.mem_of_getElem? (i := 608) (by decide +kernel)) rfl, by decide +kernel⟩
  rw [hy]
  exact zgw_in (List.mem_of_getElem? (i := 832) (by decide +kernel)) rfl
theorem lk_X6_84 {y : zM} (hy : (zname y).cls = RX6) : zLkS y M_X6_requireNotNegative 84 1 := by
  refine ⟨?_, zgw_in (List.mem_of_getElem? (i := 841) (by decide +kernel)) rfl, by decide +kernel⟩
  rw [hy]
  exact zgw_in (List.mem_of_getElem? (i := 840) (by decide +kernel)) rfl
theorem lk_X6_88 {y : zM} (hy : (zname y).cls = RX6) : zLkV y M_X5_childNumber 88 3 := by
  refine ⟨?_, zgw_in (List.mem_of_getElem? (i := 845) (by decide +kernel)) rfl, zgw_in (List.mem_of_getElem? (i := 846) (by decide +kernel)) rfl, by decide +kernel⟩
  rw [hy]
  exact zgw_in (List.mem_of_getElem? (i := 844) (by decide +kernel)) rfl
theorem lk_X6_91 {y : zM} (hy : (zname y).cls = RX6) : zLkV y M_X5_criticalNumber 91 1 := by
  refine ⟨?_, zgw_in (List.mem_of_getElem? (i := 856) (by decide +kernel)) rfl, zgw_in (List.mem_of_getElem? (i := 857) (by decide +kernel)) rfl, by decide +kernel⟩
  rw [hy]
  exact zgw_in (List.mem_of_getElem? (i := 855) (by decide +kernel)) rfl
theorem lk_X6_94 {y : zM} (hy : (zname y).cls = RX6) : zLkV y M_X5_countRunning 94 1 := by
  refine ⟨?_, zgw_in (List.mem_of_getElem? (i := 582) (by decide +kernel)) rfl, zgw_in (List.mem_of_getElem? (i := 583) (by decide +kernel)) rfl, by decide +kernel⟩
  rw [hy]
  exact zgw_in (List.mem_of_getElem? (i := 866) (by decide +kernel)) rfl
theorem lk_X6_97 {y : zM} (hy : (zname y).cls = RX6) : zLkV y M_X6_wholeValue 97 1 := by
  refine ⟨?_, zgw_in (List.mem_of_getElem? (i := 530) (by decide +kernel)) rfl, zgw_in (List.mem_of_getElem? (i := 23) (by decide +kernel)) rfl, by decide +kernel⟩
  rw [hy]
  exact zgw_in (List.mem_of_getElem? (i := 528) (by decide +kernel)) rfl
theorem lk_X6_100 {y : zM} (hy : (zname y).cls = RX6) : zLkS y M_X6_requireTask 100 1 := by
  refine ⟨?_, zgw_in (List.mem_of_getElem? (i := 882) (by decide +kernel)) rfl, by decide +kernel⟩
  rw [hy]
  exact zgw_in (List.mem_of_getElem? (i := 881) (by decide +kernel)) rfl
theorem lk_X6_103 {y : zM} (hy : (zname y).cls = RX6) : zLkV y M_X3_lengthWith 103 1 := by
  refine ⟨?_, zgw_in (List.mem_of_getElem? (i := 258) (by decide +kernel)) rfl, zgw_in (List.mem_of_getElem? (i := 259) (by decide +kernel)) rfl, by decide +kernel⟩
  rw [hy]
  exact zgw_in (List.mem_of_getElem? (i := 885) (by decide +kernel)) rfl
theorem lk_X6_106 {y : zM} (hy : (zname y).cls = RX6) : zLkV y M_X3_endIfLength 106 1 := by
  refine ⟨?_, zgw_in (List.mem_of_getElem? (i := 269) (by decide +kernel)) rfl, zgw_in (List.mem_of_getElem? (i := 270) (by decide +kernel)) rfl, by decide +kernel⟩
  rw [hy]
  exact zgw_in (List.mem_of_getElem? (i := 886) (by decide +kernel)) rfl
theorem lk_X6_109 {y : zM} (hy : (zname y).cls = RX6) : zLkV y M_X5_greatestDuration 109 1 := by
  refine ⟨?_, zgw_in (List.mem_of_getElem? (i := 895) (by decide +kernel)) rfl, zgw_in (List.mem_of_getElem? (i := 896) (by decide +kernel)) rfl, by decide +kernel⟩
  rw [hy]
  exact zgw_in (List.mem_of_getElem? (i := 894) (by decide +kernel)) rfl
theorem lk_X6_113 {y : zM} (hy : (zname y).cls = RX6) : zLkV y M_X5_cutNumber 113 0 := by
  refine ⟨?_, zgw_in (List.mem_of_getElem? (i := 254) (by decide +kernel)) rfl, zgw_in (List.mem_of_getElem? (i := 255) (by decide +kernel)) rfl, by decide +kernel⟩
  rw [hy]
  exact zgw_in (List.mem_of_getElem? (i := 253) (by decide +kernel)) rfl
theorem lk_X6_117 {y : zM} (hy : (zname y).cls = RX6) : zLkV y M_X5_slackIfBorrowed 117 2 := by
  refine ⟨?_, zgw_in (List.mem_of_getElem? (i := 906) (by decide +kernel)) rfl, zgw_in (List.mem_of_getElem? (i := 907) (by decide +kernel)) rfl, by decide +kernel⟩
  rw [hy]
  exact zgw_in (List.mem_of_getElem? (i := 905) (by decide +kernel)) rfl
theorem lk_X6_121 {y : zM} (hy : (zname y).cls = RX6) : zLkV y M_X3_whyNotTo 121 1 := by
  refine ⟨?_, zgw_in (List.mem_of_getElem? (i := 452) (by decide +kernel)) rfl, zgw_in (List.mem_of_getElem? (i := 453) (by decide +kernel)) rfl, by decide +kernel⟩
  rw [hy]
  exact zgw_in (List.mem_of_getElem? (i := 916) (by decide +kernel)) rfl
theorem lk_X6_124 {y : zM} (hy : (zname y).cls = RX6) : zLkV y M_X2_append 124 1 := by
  refine ⟨?_, zgw_in (List.mem_of_getElem? (i := 925) (by decide +kernel)) rfl, zgw_in (List.mem_of_getElem? (i := 926) (by decide +kernel)) rfl, by decide +kernel⟩
  rw [hy]
  exact zgw_in (List.mem_of_getElem? (i := 924) (by decide +kernel)) rfl
theorem lk_X6_138 {y : zM} (hy : (zname y).cls = RX6) : zLkV y M_X2_findFault 138 0 := by
  refine ⟨?_, zgw_in (List.mem_of_getElem? (i := 293) (by decide +kernel)) rfl, zgw_in (List.mem_of_getElem? (i := 294) (by decide +kernel)) rfl, by decide +kernel⟩
  rw [hy]
  exact zgw_in (List.mem_of_getElem? (i := 292) (by decide +kernel)) rfl
theorem lk_X6_141 {y : zM} (hy : (zname y).cls = RX6) : zLkV y M_X6_save 141 0 := by
  refine ⟨?_, zgw_in (List.mem_of_getElem? (i := 395) (by decide +kernel)) rfl, zgw_in (List.mem_of_getElem? (i := 10) (by decide +kernel)) rfl, by decide +kernel⟩
  rw [hy]
  exact zgw_in (List.mem_of_getElem? (i := 393) (by decide +kernel)) rfl
theorem lk_X6_144 {y : zM} (hy : (zname y).cls = RX6) : zLkV y M_X6_runFaultless 144 0 := by
  refine ⟨?_, zgw_in (List.mem_of_getElem? (i := 410) (by decide +kernel)) rfl, zgw_in (List.mem_of_getElem? (i := 11) (by decide +kernel)) rfl, by decide +kernel⟩
  rw [hy]
  exact zgw_in (List.mem_of_getElem? (i := 408) (by decide +kernel)) rfl
theorem lk_X6_149 {y : zM} (hy : (zname y).cls = RX6) : zLkV y M_X5_plan 149 0 := by
  refine ⟨?_, zgw_in (List.mem_of_getElem? (i := 476) (by decide +kernel)) rfl, zgw_in (List.mem_of_getElem? (i := 477) (by decide +kernel)) rfl, by decide +kernel⟩
  rw [hy]
  exact zgw_in (List.mem_of_getElem? (i := 937) (by decide +kernel)) rfl
theorem lk_X6_154 {y : zM} (hy : (zname y).cls = RX6) : zLkS y M_X6_mix 154 2 := by
  refine ⟨?_, zgw_in (List.mem_of_getElem? (i := 525) (by decide +kernel)) rfl, by decide +kernel⟩
  rw [hy]
  exact zgw_in (List.mem_of_getElem? (i := 524) (by decide +kernel)) rfl
theorem lk_X6_158 {y : zM} (hy : (zname y).cls = RX6) : zLkV y M_X5_mixNodes 158 1 := by
  refine ⟨?_, zgw_in (List.mem_of_getElem? (i := 590) (by decide +kernel)) rfl, zgw_in (List.mem_of_getElem? (i := 591) (by decide +kernel)) rfl, by decide +kernel⟩
  rw [hy]
  exact zgw_in (List.mem_of_getElem? (i := 589) (by decide +kernel)) rfl
theorem lk_X6_162 {y : zM} (hy : (zname y).cls = RX6) : zLkV y M_X5_mixCritical 162 1 := by
  refine ⟨?_, zgw_in (List.mem_of_getElem? (i := 611) (by decide +kernel)) rfl, zgw_in (List.mem_of_getElem? (i := 612) (by decide +kernel)) rfl, by decide +kernel⟩
  rw [hy]
  exact zgw_in (List.mem_of_getElem? (i := 610) (by decide +kernel)) rfl
theorem lk_X6_167 {y : zM} (hy : (zname y).cls = RX6) : zLkV y M_X5_find 167 1 := by
  refine ⟨?_, zgw_in (List.mem_of_getElem? (i := 426) (by decide +kernel)) rfl, zgw_in (List.mem_of_getElem? (i := 427) (by decide +kernel)) rfl, by decide +kernel⟩
  rw [hy]
  exact zgw_in (List.mem_of_getElem? (i := 815) (by decide +kernel)) rfl
theorem lk_X6_175 {y : zM} (hy : (zname y).cls = RX6) : zLkS y M_X6_isBetween 175 3 := by
  refine ⟨?_, zgw_in (List.mem_of_getElem? (i := 321) (by decide +kernel)) rfl, by decide +kernel⟩
  rw [hy]
  exact zgw_in (List.mem_of_getElem? (i := 819) (by decide +kernel)) rfl
theorem lk_X6_208 {y : zM} (hy : (zname y).cls = RX6) : zLkV y M_X5_refusal 208 4 := by
  refine ⟨?_, zgw_in (List.mem_of_getElem? (i := 415) (by decide +kernel)) rfl, zgw_in (List.mem_of_getElem? (i := 416) (by decide +kernel)) rfl, by decide +kernel⟩
  rw [hy]
  exact zgw_in (List.mem_of_getElem? (i := 414) (by decide +kernel)) rfl
theorem lk_X6_212 {y : zM} (hy : (zname y).cls = RX6) : zLkS y M_X6_requireAllowed 212 1 := by
  refine ⟨?_, zgw_in (List.mem_of_getElem? (i := 638) (by decide +kernel)) rfl, by decide +kernel⟩
  rw [hy]
  exact zgw_in (List.mem_of_getElem? (i := 637) (by decide +kernel)) rfl
theorem lk_X6_216 {y : zM} (hy : (zname y).cls = RX6) : zLkV y M_X5_carryOut 216 4 := by
  refine ⟨?_, zgw_in (List.mem_of_getElem? (i := 463) (by decide +kernel)) rfl, zgw_in (List.mem_of_getElem? (i := 464) (by decide +kernel)) rfl, by decide +kernel⟩
  rw [hy]
  exact zgw_in (List.mem_of_getElem? (i := 462) (by decide +kernel)) rfl
theorem lk_X6_219 {y : zM} (hy : (zname y).cls = RX6) : Cond.methodLink (zname y).cls 219 Lib.Math.min.name ∈ zgw ∧ Cond.static Lib.Math.min.name ∈ zgw ∧ Cond.initialized "java/lang/Math" ∈ zgw ∧ Cond.code Lib.Math.min.name Lib.Math.min.code 2 (some .int) ∈ zgw := by
  refine ⟨?_, zgw_in (List.mem_of_getElem? (i := 398) (by decide +kernel)) rfl, zgw_in (List.mem_of_getElem? (i := 106) (by decide +kernel)) rfl, zgw_in (List.mem_of_getElem? (i := 399) (by decide +kernel)) rfl⟩
  rw [hy]
  exact zgw_in (List.mem_of_getElem? (i := 397) (by decide +kernel)) rfl
theorem lk_X6_225 {y : zM} (hy : (zname y).cls = RX6) : zLkV y M_X5_copyFrom 225 1 := by
  refine ⟨?_, zgw_in (List.mem_of_getElem? (i := 401) (by decide +kernel)) rfl, zgw_in (List.mem_of_getElem? (i := 402) (by decide +kernel)) rfl, by decide +kernel⟩
  rw [hy]
  exact zgw_in (List.mem_of_getElem? (i := 400) (by decide +kernel)) rfl
theorem lk_X6_229 {y : zM} (hy : (zname y).cls = RX6) : zLkV y M_X2_rewind 229 0 := by
  refine ⟨?_, zgw_in (List.mem_of_getElem? (i := 297) (by decide +kernel)) rfl, zgw_in (List.mem_of_getElem? (i := 298) (by decide +kernel)) rfl, by decide +kernel⟩
  rw [hy]
  exact zgw_in (List.mem_of_getElem? (i := 412) (by decide +kernel)) rfl
theorem lk_X6_232 {y : zM} (hy : (zname y).cls = RX6) : zLkV y M_X2_readCommand 232 0 := by
  refine ⟨?_, zgw_in (List.mem_of_getElem? (i := 301) (by decide +kernel)) rfl, zgw_in (List.mem_of_getElem? (i := 302) (by decide +kernel)) rfl, by decide +kernel⟩
  rw [hy]
  exact zgw_in (List.mem_of_getElem? (i := 413) (by decide +kernel)) rfl
theorem lk_X6_243 {y : zM} (hy : (zname y).cls = RX6) : zLkV y M_X5_value 243 1 := by
  refine ⟨?_, zgw_in (List.mem_of_getElem? (i := 533) (by decide +kernel)) rfl, zgw_in (List.mem_of_getElem? (i := 534) (by decide +kernel)) rfl, by decide +kernel⟩
  rw [hy]
  exact zgw_in (List.mem_of_getElem? (i := 532) (by decide +kernel)) rfl
theorem lk_X7_1 {y : zM} (hy : (zname y).cls = RX7) : Cond.methodLink (zname y).cls 1 Lib.objectInit ∈ zgw ∧ Cond.instanceMethod Lib.objectInit ∈ zgw ∧ Cond.code Lib.objectInit ⟨#[0xb1]⟩ 1 none ∈ zgw := by
  refine ⟨?_, zgw_in (List.mem_of_getElem? (i := 117) (by decide +kernel)) rfl, zgw_in (List.mem_of_getElem? (i := 118) (by decide +kernel)) rfl⟩
  rw [hy]
  exact zgw_in (List.mem_of_getElem? (i := 943) (by decide +kernel)) rfl
theorem lk_X7_45 {y : zM} (hy : (zname y).cls = RX7) : zLkV y M_X7_copies 45 2 := by
  refine ⟨?_, zgw_in (List.mem_of_getElem? (i := 1028) (by decide +kernel)) rfl, zgw_in (List.mem_of_getElem? (i := 44) (by decide +kernel)) rfl, by decide +kernel⟩
  rw [hy]
  exact zgw_in (List.mem_of_getElem? (i := 1026) (by decide +kernel)) rfl
theorem lk_X7_49 {y : zM} (hy : (zname y).cls = RX7) : zLkV y M_X7_of 49 2 := by
  refine ⟨?_, zgw_in (List.mem_of_getElem? (i := 1009) (by decide +kernel)) rfl, zgw_in (List.mem_of_getElem? (i := 40) (by decide +kernel)) rfl, by decide +kernel⟩
  rw [hy]
  exact zgw_in (List.mem_of_getElem? (i := 1007) (by decide +kernel)) rfl
theorem lk_X7_53 {y : zM} (hy : (zname y).cls = RX7) : zLkV y M_X7_find 53 1 := by
  refine ⟨?_, zgw_in (List.mem_of_getElem? (i := 1005) (by decide +kernel)) rfl, zgw_in (List.mem_of_getElem? (i := 39) (by decide +kernel)) rfl, by decide +kernel⟩
  rw [hy]
  exact zgw_in (List.mem_of_getElem? (i := 1003) (by decide +kernel)) rfl
theorem lk_X7_60 {y : zM} (hy : (zname y).cls = RX7) : zLkV y M_X7_isRefused 60 1 := by
  refine ⟨?_, zgw_in (List.mem_of_getElem? (i := 1020) (by decide +kernel)) rfl, zgw_in (List.mem_of_getElem? (i := 42) (by decide +kernel)) rfl, by decide +kernel⟩
  rw [hy]
  exact zgw_in (List.mem_of_getElem? (i := 1018) (by decide +kernel)) rfl
theorem lk_X7_64 {y : zM} (hy : (zname y).cls = RX7) : zLkV y M_X7_isIn 64 3 := by
  refine ⟨?_, zgw_in (List.mem_of_getElem? (i := 1040) (by decide +kernel)) rfl, zgw_in (List.mem_of_getElem? (i := 47) (by decide +kernel)) rfl, by decide +kernel⟩
  rw [hy]
  exact zgw_in (List.mem_of_getElem? (i := 1038) (by decide +kernel)) rfl
theorem lk_X7_68 {y : zM} (hy : (zname y).cls = RX7) : zLkV y M_X7_rowLength 68 2 := by
  refine ⟨?_, zgw_in (List.mem_of_getElem? (i := 1120) (by decide +kernel)) rfl, zgw_in (List.mem_of_getElem? (i := 63) (by decide +kernel)) rfl, by decide +kernel⟩
  rw [hy]
  exact zgw_in (List.mem_of_getElem? (i := 1118) (by decide +kernel)) rfl
theorem lk_X7_71 {y : zM} (hy : (zname y).cls = RX7) : zLkV y M_X7_rowSlack 71 2 := by
  refine ⟨?_, zgw_in (List.mem_of_getElem? (i := 1128) (by decide +kernel)) rfl, zgw_in (List.mem_of_getElem? (i := 65) (by decide +kernel)) rfl, by decide +kernel⟩
  rw [hy]
  exact zgw_in (List.mem_of_getElem? (i := 1126) (by decide +kernel)) rfl
theorem lk_X7_74 {y : zM} (hy : (zname y).cls = RX7) : zLkV y M_X7_layOrder 74 0 := by
  refine ⟨?_, zgw_in (List.mem_of_getElem? (i := 1112) (by decide +kernel)) rfl, zgw_in (List.mem_of_getElem? (i := 61) (by decide +kernel)) rfl, by decide +kernel⟩
  rw [hy]
  exact zgw_in (List.mem_of_getElem? (i := 1110) (by decide +kernel)) rfl
theorem lk_X7_77 {y : zM} (hy : (zname y).cls = RX7) : zLkV y M_X7_lengthOf 77 1 := by
  refine ⟨?_, zgw_in (List.mem_of_getElem? (i := 1116) (by decide +kernel)) rfl, zgw_in (List.mem_of_getElem? (i := 62) (by decide +kernel)) rfl, by decide +kernel⟩
  rw [hy]
  exact zgw_in (List.mem_of_getElem? (i := 1114) (by decide +kernel)) rfl
theorem lk_X7_80 {y : zM} (hy : (zname y).cls = RX7) : zLkV y M_X7_layTimes 80 1 := by
  refine ⟨?_, zgw_in (List.mem_of_getElem? (i := 1124) (by decide +kernel)) rfl, zgw_in (List.mem_of_getElem? (i := 64) (by decide +kernel)) rfl, by decide +kernel⟩
  rw [hy]
  exact zgw_in (List.mem_of_getElem? (i := 1122) (by decide +kernel)) rfl
theorem lk_X7_84 {y : zM} (hy : (zname y).cls = RX7) : zLkV y M_X7_lay 84 0 := by
  refine ⟨?_, zgw_in (List.mem_of_getElem? (i := 1108) (by decide +kernel)) rfl, zgw_in (List.mem_of_getElem? (i := 60) (by decide +kernel)) rfl, by decide +kernel⟩
  rw [hy]
  exact zgw_in (List.mem_of_getElem? (i := 1106) (by decide +kernel)) rfl
theorem lk_X7_87 {y : zM} (hy : (zname y).cls = RX7) : zLkV y M_X7_end 87 0 := by
  refine ⟨?_, zgw_in (List.mem_of_getElem? (i := 1104) (by decide +kernel)) rfl, zgw_in (List.mem_of_getElem? (i := 59) (by decide +kernel)) rfl, by decide +kernel⟩
  rw [hy]
  exact zgw_in (List.mem_of_getElem? (i := 1102) (by decide +kernel)) rfl
theorem lk_X7_91 {y : zM} (hy : (zname y).cls = RX7) : zLkS y M_X7_in 91 3 := by
  refine ⟨?_, zgw_in (List.mem_of_getElem? (i := 1012) (by decide +kernel)) rfl, by decide +kernel⟩
  rw [hy]
  exact zgw_in (List.mem_of_getElem? (i := 1011) (by decide +kernel)) rfl
theorem lk_X7_94 {y : zM} (hy : (zname y).cls = RX7) : zLkV y M_X7_isTask 94 1 := by
  refine ⟨?_, zgw_in (List.mem_of_getElem? (i := 1016) (by decide +kernel)) rfl, zgw_in (List.mem_of_getElem? (i := 41) (by decide +kernel)) rfl, by decide +kernel⟩
  rw [hy]
  exact zgw_in (List.mem_of_getElem? (i := 1014) (by decide +kernel)) rfl
theorem lk_X7_97 {y : zM} (hy : (zname y).cls = RX7) : zLkV y M_X7_childrenOf 97 2 := by
  refine ⟨?_, zgw_in (List.mem_of_getElem? (i := 1036) (by decide +kernel)) rfl, zgw_in (List.mem_of_getElem? (i := 46) (by decide +kernel)) rfl, by decide +kernel⟩
  rw [hy]
  exact zgw_in (List.mem_of_getElem? (i := 1034) (by decide +kernel)) rfl
theorem lk_X7_100 {y : zM} (hy : (zname y).cls = RX7) : zLkV y M_X7_set 100 3 := by
  refine ⟨?_, zgw_in (List.mem_of_getElem? (i := 1044) (by decide +kernel)) rfl, zgw_in (List.mem_of_getElem? (i := 48) (by decide +kernel)) rfl, by decide +kernel⟩
  rw [hy]
  exact zgw_in (List.mem_of_getElem? (i := 1042) (by decide +kernel)) rfl
theorem lk_X7_104 {y : zM} (hy : (zname y).cls = RX7) : zLkV y M_X7_whyNotAdd 104 3 := by
  refine ⟨?_, zgw_in (List.mem_of_getElem? (i := 1001) (by decide +kernel)) rfl, zgw_in (List.mem_of_getElem? (i := 38) (by decide +kernel)) rfl, by decide +kernel⟩
  rw [hy]
  exact zgw_in (List.mem_of_getElem? (i := 999) (by decide +kernel)) rfl
theorem lk_X7_108 {y : zM} (hy : (zname y).cls = RX7) : zLkV y M_X7_saves 108 0 := by
  refine ⟨?_, zgw_in (List.mem_of_getElem? (i := 1024) (by decide +kernel)) rfl, zgw_in (List.mem_of_getElem? (i := 43) (by decide +kernel)) rfl, by decide +kernel⟩
  rw [hy]
  exact zgw_in (List.mem_of_getElem? (i := 1022) (by decide +kernel)) rfl
theorem lk_X7_111 {y : zM} (hy : (zname y).cls = RX7) : zLkV y M_X7_adds 111 4 := by
  refine ⟨?_, zgw_in (List.mem_of_getElem? (i := 1032) (by decide +kernel)) rfl, zgw_in (List.mem_of_getElem? (i := 45) (by decide +kernel)) rfl, by decide +kernel⟩
  rw [hy]
  exact zgw_in (List.mem_of_getElem? (i := 1030) (by decide +kernel)) rfl
theorem lk_X7_115 {y : zM} (hy : (zname y).cls = RX7) : zLkV y M_X7_isBelow 115 2 := by
  refine ⟨?_, zgw_in (List.mem_of_getElem? (i := 1064) (by decide +kernel)) rfl, zgw_in (List.mem_of_getElem? (i := 51) (by decide +kernel)) rfl, by decide +kernel⟩
  rw [hy]
  exact zgw_in (List.mem_of_getElem? (i := 1062) (by decide +kernel)) rfl
theorem lk_X7_119 {y : zM} (hy : (zname y).cls = RX7) : zLkV y M_X7_reasonOf 119 2 := by
  refine ⟨?_, zgw_in (List.mem_of_getElem? (i := 1060) (by decide +kernel)) rfl, zgw_in (List.mem_of_getElem? (i := 50) (by decide +kernel)) rfl, by decide +kernel⟩
  rw [hy]
  exact zgw_in (List.mem_of_getElem? (i := 1058) (by decide +kernel)) rfl
theorem lk_X7_122 {y : zM} (hy : (zname y).cls = RX7) : zLkV y M_X7_leaves 122 1 := by
  refine ⟨?_, zgw_in (List.mem_of_getElem? (i := 1072) (by decide +kernel)) rfl, zgw_in (List.mem_of_getElem? (i := 53) (by decide +kernel)) rfl, by decide +kernel⟩
  rw [hy]
  exact zgw_in (List.mem_of_getElem? (i := 1070) (by decide +kernel)) rfl
theorem lk_X7_125 {y : zM} (hy : (zname y).cls = RX7) : zLkV y M_X7_whyNotMove 125 3 := by
  refine ⟨?_, zgw_in (List.mem_of_getElem? (i := 1056) (by decide +kernel)) rfl, zgw_in (List.mem_of_getElem? (i := 49) (by decide +kernel)) rfl, by decide +kernel⟩
  rw [hy]
  exact zgw_in (List.mem_of_getElem? (i := 1054) (by decide +kernel)) rfl
theorem lk_X7_128 {y : zM} (hy : (zname y).cls = RX7) : zLkV y M_X7_moves 128 3 := by
  refine ⟨?_, zgw_in (List.mem_of_getElem? (i := 1068) (by decide +kernel)) rfl, zgw_in (List.mem_of_getElem? (i := 52) (by decide +kernel)) rfl, by decide +kernel⟩
  rw [hy]
  exact zgw_in (List.mem_of_getElem? (i := 1066) (by decide +kernel)) rfl
theorem lk_X7_131 {y : zM} (hy : (zname y).cls = RX7) : zLkV y M_X7_whyNotRemove 131 1 := by
  refine ⟨?_, zgw_in (List.mem_of_getElem? (i := 1080) (by decide +kernel)) rfl, zgw_in (List.mem_of_getElem? (i := 54) (by decide +kernel)) rfl, by decide +kernel⟩
  rw [hy]
  exact zgw_in (List.mem_of_getElem? (i := 1078) (by decide +kernel)) rfl
theorem lk_X7_134 {y : zM} (hy : (zname y).cls = RX7) : zLkV y M_X7_isBarred 134 1 := by
  refine ⟨?_, zgw_in (List.mem_of_getElem? (i := 1084) (by decide +kernel)) rfl, zgw_in (List.mem_of_getElem? (i := 55) (by decide +kernel)) rfl, by decide +kernel⟩
  rw [hy]
  exact zgw_in (List.mem_of_getElem? (i := 1082) (by decide +kernel)) rfl
theorem lk_X7_137 {y : zM} (hy : (zname y).cls = RX7) : zLkV y M_X7_removes 137 1 := by
  refine ⟨?_, zgw_in (List.mem_of_getElem? (i := 1088) (by decide +kernel)) rfl, zgw_in (List.mem_of_getElem? (i := 56) (by decide +kernel)) rfl, by decide +kernel⟩
  rw [hy]
  exact zgw_in (List.mem_of_getElem? (i := 1086) (by decide +kernel)) rfl
theorem lk_X7_140 {y : zM} (hy : (zname y).cls = RX7) : zLkV y M_X7_whyNotTask 140 2 := by
  refine ⟨?_, zgw_in (List.mem_of_getElem? (i := 1096) (by decide +kernel)) rfl, zgw_in (List.mem_of_getElem? (i := 57) (by decide +kernel)) rfl, by decide +kernel⟩
  rw [hy]
  exact zgw_in (List.mem_of_getElem? (i := 1094) (by decide +kernel)) rfl
theorem lk_X7_144 {y : zM} (hy : (zname y).cls = RX7) : zLkV y M_X7_lasts 144 2 := by
  refine ⟨?_, zgw_in (List.mem_of_getElem? (i := 1100) (by decide +kernel)) rfl, zgw_in (List.mem_of_getElem? (i := 58) (by decide +kernel)) rfl, by decide +kernel⟩
  rw [hy]
  exact zgw_in (List.mem_of_getElem? (i := 1098) (by decide +kernel)) rfl
theorem lk_X7_147 {y : zM} (hy : (zname y).cls = RX7) : zLkV y M_X7_slackOf 147 1 := by
  refine ⟨?_, zgw_in (List.mem_of_getElem? (i := 1140) (by decide +kernel)) rfl, zgw_in (List.mem_of_getElem? (i := 67) (by decide +kernel)) rfl, by decide +kernel⟩
  rw [hy]
  exact zgw_in (List.mem_of_getElem? (i := 1138) (by decide +kernel)) rfl
theorem lk_X7_150 {y : zM} (hy : (zname y).cls = RX7) : zLkV y M_X7_whyNotBorrow 150 2 := by
  refine ⟨?_, zgw_in (List.mem_of_getElem? (i := 1136) (by decide +kernel)) rfl, zgw_in (List.mem_of_getElem? (i := 66) (by decide +kernel)) rfl, by decide +kernel⟩
  rw [hy]
  exact zgw_in (List.mem_of_getElem? (i := 1134) (by decide +kernel)) rfl
theorem lk_X7_153 {y : zM} (hy : (zname y).cls = RX7) : zLkV y M_X7_reserves 153 2 := by
  refine ⟨?_, zgw_in (List.mem_of_getElem? (i := 1144) (by decide +kernel)) rfl, zgw_in (List.mem_of_getElem? (i := 68) (by decide +kernel)) rfl, by decide +kernel⟩
  rw [hy]
  exact zgw_in (List.mem_of_getElem? (i := 1142) (by decide +kernel)) rfl
theorem lk_X7_156 {y : zM} (hy : (zname y).cls = RX7) : zLkV y M_X7_whyNotBack 156 2 := by
  refine ⟨?_, zgw_in (List.mem_of_getElem? (i := 1152) (by decide +kernel)) rfl, zgw_in (List.mem_of_getElem? (i := 69) (by decide +kernel)) rfl, by decide +kernel⟩
  rw [hy]
  exact zgw_in (List.mem_of_getElem? (i := 1150) (by decide +kernel)) rfl
theorem lk_X7_159 {y : zM} (hy : (zname y).cls = RX7) : zLkS y M_X7_whyNotUntil 159 1 := by
  refine ⟨?_, zgw_in (List.mem_of_getElem? (i := 1159) (by decide +kernel)) rfl, by decide +kernel⟩
  rw [hy]
  exact zgw_in (List.mem_of_getElem? (i := 1158) (by decide +kernel)) rfl
theorem lk_X7_162 {y : zM} (hy : (zname y).cls = RX7) : zLkV y M_X7_lateness 162 0 := by
  refine ⟨?_, zgw_in (List.mem_of_getElem? (i := 1163) (by decide +kernel)) rfl, zgw_in (List.mem_of_getElem? (i := 70) (by decide +kernel)) rfl, by decide +kernel⟩
  rw [hy]
  exact zgw_in (List.mem_of_getElem? (i := 1161) (by decide +kernel)) rfl
theorem lk_X7_165 {y : zM} (hy : (zname y).cls = RX7) : zLkV y M_X7_nodeValue 165 2 := by
  refine ⟨?_, zgw_in (List.mem_of_getElem? (i := 1171) (by decide +kernel)) rfl, zgw_in (List.mem_of_getElem? (i := 71) (by decide +kernel)) rfl, by decide +kernel⟩
  rw [hy]
  exact zgw_in (List.mem_of_getElem? (i := 1169) (by decide +kernel)) rfl
theorem lk_X7_168 {y : zM} (hy : (zname y).cls = RX7) : zLkV y M_X7_isCriticalRow 168 2 := by
  refine ⟨?_, zgw_in (List.mem_of_getElem? (i := 1187) (by decide +kernel)) rfl, zgw_in (List.mem_of_getElem? (i := 74) (by decide +kernel)) rfl, by decide +kernel⟩
  rw [hy]
  exact zgw_in (List.mem_of_getElem? (i := 1185) (by decide +kernel)) rfl
theorem lk_X7_171 {y : zM} (hy : (zname y).cls = RX7) : zLkV y M_X7_whyNotRow 171 2 := by
  refine ⟨?_, zgw_in (List.mem_of_getElem? (i := 1179) (by decide +kernel)) rfl, zgw_in (List.mem_of_getElem? (i := 72) (by decide +kernel)) rfl, by decide +kernel⟩
  rw [hy]
  exact zgw_in (List.mem_of_getElem? (i := 1177) (by decide +kernel)) rfl
theorem lk_X7_174 {y : zM} (hy : (zname y).cls = RX7) : zLkV y M_X7_rowValue 174 3 := by
  refine ⟨?_, zgw_in (List.mem_of_getElem? (i := 1183) (by decide +kernel)) rfl, zgw_in (List.mem_of_getElem? (i := 73) (by decide +kernel)) rfl, by decide +kernel⟩
  rw [hy]
  exact zgw_in (List.mem_of_getElem? (i := 1181) (by decide +kernel)) rfl
theorem lk_X7_177 {y : zM} (hy : (zname y).cls = RX7) : zLkV y M_X7_layCritical 177 0 := by
  refine ⟨?_, zgw_in (List.mem_of_getElem? (i := 1199) (by decide +kernel)) rfl, zgw_in (List.mem_of_getElem? (i := 75) (by decide +kernel)) rfl, by decide +kernel⟩
  rw [hy]
  exact zgw_in (List.mem_of_getElem? (i := 1197) (by decide +kernel)) rfl
theorem lk_X7_180 {y : zM} (hy : (zname y).cls = RX7) : zLkV y M_X7_runningAt 180 1 := by
  refine ⟨?_, zgw_in (List.mem_of_getElem? (i := 1207) (by decide +kernel)) rfl, zgw_in (List.mem_of_getElem? (i := 76) (by decide +kernel)) rfl, by decide +kernel⟩
  rw [hy]
  exact zgw_in (List.mem_of_getElem? (i := 1205) (by decide +kernel)) rfl
theorem lk_X7_186 {y : zM} (hy : (zname y).cls = RX7) : zLkV y M_X7_wholeValue 186 1 := by
  refine ⟨?_, zgw_in (List.mem_of_getElem? (i := 1215) (by decide +kernel)) rfl, zgw_in (List.mem_of_getElem? (i := 77) (by decide +kernel)) rfl, by decide +kernel⟩
  rw [hy]
  exact zgw_in (List.mem_of_getElem? (i := 1213) (by decide +kernel)) rfl
theorem lk_X7_189 {y : zM} (hy : (zname y).cls = RX7) : zLkV y M_X7_putAside 189 0 := by
  refine ⟨?_, zgw_in (List.mem_of_getElem? (i := 1227) (by decide +kernel)) rfl, zgw_in (List.mem_of_getElem? (i := 79) (by decide +kernel)) rfl, by decide +kernel⟩
  rw [hy]
  exact zgw_in (List.mem_of_getElem? (i := 1225) (by decide +kernel)) rfl
theorem lk_X7_192 {y : zM} (hy : (zname y).cls = RX7) : zLkV y M_X7_comesBack 192 0 := by
  refine ⟨?_, zgw_in (List.mem_of_getElem? (i := 1231) (by decide +kernel)) rfl, zgw_in (List.mem_of_getElem? (i := 80) (by decide +kernel)) rfl, by decide +kernel⟩
  rw [hy]
  exact zgw_in (List.mem_of_getElem? (i := 1229) (by decide +kernel)) rfl
theorem lk_X7_195 {y : zM} (hy : (zname y).cls = RX7) : zLkV y M_X7_endBy 195 2 := by
  refine ⟨?_, zgw_in (List.mem_of_getElem? (i := 1223) (by decide +kernel)) rfl, zgw_in (List.mem_of_getElem? (i := 78) (by decide +kernel)) rfl, by decide +kernel⟩
  rw [hy]
  exact zgw_in (List.mem_of_getElem? (i := 1221) (by decide +kernel)) rfl
theorem lk_X7_198 {y : zM} (hy : (zname y).cls = RX7) : zLkV y M_X7_cutTask 198 0 := by
  refine ⟨?_, zgw_in (List.mem_of_getElem? (i := 1243) (by decide +kernel)) rfl, zgw_in (List.mem_of_getElem? (i := 81) (by decide +kernel)) rfl, by decide +kernel⟩
  rw [hy]
  exact zgw_in (List.mem_of_getElem? (i := 1241) (by decide +kernel)) rfl
theorem lk_X7_204 {y : zM} (hy : (zname y).cls = RX7) : zLkV y M_X7_here 204 0 := by
  refine ⟨?_, zgw_in (List.mem_of_getElem? (i := 1275) (by decide +kernel)) rfl, zgw_in (List.mem_of_getElem? (i := 84) (by decide +kernel)) rfl, by decide +kernel⟩
  rw [hy]
  exact zgw_in (List.mem_of_getElem? (i := 1273) (by decide +kernel)) rfl
theorem lk_X7_229 {y : zM} (hy : (zname y).cls = RX7) : zLkV y M_X7_passSpaces 229 0 := by
  refine ⟨?_, zgw_in (List.mem_of_getElem? (i := 1271) (by decide +kernel)) rfl, zgw_in (List.mem_of_getElem? (i := 83) (by decide +kernel)) rfl, by decide +kernel⟩
  rw [hy]
  exact zgw_in (List.mem_of_getElem? (i := 1269) (by decide +kernel)) rfl
theorem lk_X7_235 {y : zM} (hy : (zname y).cls = RX7) : zLkV y M_X7_word 235 0 := by
  refine ⟨?_, zgw_in (List.mem_of_getElem? (i := 1283) (by decide +kernel)) rfl, zgw_in (List.mem_of_getElem? (i := 86) (by decide +kernel)) rfl, by decide +kernel⟩
  rw [hy]
  exact zgw_in (List.mem_of_getElem? (i := 1281) (by decide +kernel)) rfl
theorem lk_X7_238 {y : zM} (hy : (zname y).cls = RX7) : zLkS y M_X7_numbersOf 238 1 := by
  refine ⟨?_, zgw_in (List.mem_of_getElem? (i := 1297) (by decide +kernel)) rfl, by decide +kernel⟩
  rw [hy]
  exact zgw_in (List.mem_of_getElem? (i := 1296) (by decide +kernel)) rfl
theorem lk_X7_241 {y : zM} (hy : (zname y).cls = RX7) : zLkV y M_X7_isNumber 241 0 := by
  refine ⟨?_, zgw_in (List.mem_of_getElem? (i := 1301) (by decide +kernel)) rfl, zgw_in (List.mem_of_getElem? (i := 87) (by decide +kernel)) rfl, by decide +kernel⟩
  rw [hy]
  exact zgw_in (List.mem_of_getElem? (i := 1299) (by decide +kernel)) rfl
theorem lk_X7_245 {y : zM} (hy : (zname y).cls = RX7) : zLkV y M_X7_command 245 0 := by
  refine ⟨?_, zgw_in (List.mem_of_getElem? (i := 1279) (by decide +kernel)) rfl, zgw_in (List.mem_of_getElem? (i := 85) (by decide +kernel)) rfl, by decide +kernel⟩
  rw [hy]
  exact zgw_in (List.mem_of_getElem? (i := 1277) (by decide +kernel)) rfl
theorem lk_X7_248 {y : zM} (hy : (zname y).cls = RX7) : zLkV y M_X7_changes 248 4 := by
  refine ⟨?_, zgw_in (List.mem_of_getElem? (i := 1309) (by decide +kernel)) rfl, zgw_in (List.mem_of_getElem? (i := 89) (by decide +kernel)) rfl, by decide +kernel⟩
  rw [hy]
  exact zgw_in (List.mem_of_getElem? (i := 1307) (by decide +kernel)) rfl
theorem lk_X7_252 {y : zM} (hy : (zname y).cls = RX7) : zLkV y M_X7_fault 252 0 := by
  refine ⟨?_, zgw_in (List.mem_of_getElem? (i := 1267) (by decide +kernel)) rfl, zgw_in (List.mem_of_getElem? (i := 82) (by decide +kernel)) rfl, by decide +kernel⟩
  rw [hy]
  exact zgw_in (List.mem_of_getElem? (i := 1265) (by decide +kernel)) rfl
theorem lk_X7_255 {y : zM} (hy : (zname y).cls = RX7) : zLkV y M_X7_does 255 1 := by
  refine ⟨?_, zgw_in (List.mem_of_getElem? (i := 1305) (by decide +kernel)) rfl, zgw_in (List.mem_of_getElem? (i := 88) (by decide +kernel)) rfl, by decide +kernel⟩
  rw [hy]
  exact zgw_in (List.mem_of_getElem? (i := 1303) (by decide +kernel)) rfl
theorem lk_X7_262 {y : zM} (hy : (zname y).cls = RX7) : zLkV y M_X7_whole 262 1 := by
  refine ⟨?_, zgw_in (List.mem_of_getElem? (i := 1210) (by decide +kernel)) rfl, zgw_in (List.mem_of_getElem? (i := 1211) (by decide +kernel)) rfl, by decide +kernel⟩
  rw [hy]
  exact zgw_in (List.mem_of_getElem? (i := 1321) (by decide +kernel)) rfl
theorem lk_L_7 {y : zM} (hy : (zname y).cls = RL) : zLkV y M_X6_addGroup 7 2 := by
  refine ⟨?_, zgw_in (List.mem_of_getElem? (i := 628) (by decide +kernel)) rfl, zgw_in (List.mem_of_getElem? (i := 629) (by decide +kernel)) rfl, by decide +kernel⟩
  rw [hy]
  exact zgw_in (List.mem_of_getElem? (i := 627) (by decide +kernel)) rfl
theorem lk_L_19 {y : zM} (hy : (zname y).cls = RL) : zLkV y M_X6_addTask 19 3 := by
  refine ⟨?_, zgw_in (List.mem_of_getElem? (i := 747) (by decide +kernel)) rfl, zgw_in (List.mem_of_getElem? (i := 748) (by decide +kernel)) rfl, by decide +kernel⟩
  rw [hy]
  exact zgw_in (List.mem_of_getElem? (i := 746) (by decide +kernel)) rfl
theorem lk_L_23 {y : zM} (hy : (zname y).cls = RL) : zLkV y M_X6_move 23 3 := by
  refine ⟨?_, zgw_in (List.mem_of_getElem? (i := 756) (by decide +kernel)) rfl, zgw_in (List.mem_of_getElem? (i := 757) (by decide +kernel)) rfl, by decide +kernel⟩
  rw [hy]
  exact zgw_in (List.mem_of_getElem? (i := 755) (by decide +kernel)) rfl
theorem lk_L_26 {y : zM} (hy : (zname y).cls = RL) : zLkV y M_X6_remove 26 1 := by
  refine ⟨?_, zgw_in (List.mem_of_getElem? (i := 764) (by decide +kernel)) rfl, zgw_in (List.mem_of_getElem? (i := 765) (by decide +kernel)) rfl, by decide +kernel⟩
  rw [hy]
  exact zgw_in (List.mem_of_getElem? (i := 763) (by decide +kernel)) rfl
theorem lk_L_30 {y : zM} (hy : (zname y).cls = RL) : zLkV y M_X6_setDuration 30 2 := by
  refine ⟨?_, zgw_in (List.mem_of_getElem? (i := 773) (by decide +kernel)) rfl, zgw_in (List.mem_of_getElem? (i := 774) (by decide +kernel)) rfl, by decide +kernel⟩
  rw [hy]
  exact zgw_in (List.mem_of_getElem? (i := 772) (by decide +kernel)) rfl
theorem lk_L_33 {y : zM} (hy : (zname y).cls = RL) : zLkV y M_X6_borrow 33 2 := by
  refine ⟨?_, zgw_in (List.mem_of_getElem? (i := 782) (by decide +kernel)) rfl, zgw_in (List.mem_of_getElem? (i := 783) (by decide +kernel)) rfl, by decide +kernel⟩
  rw [hy]
  exact zgw_in (List.mem_of_getElem? (i := 781) (by decide +kernel)) rfl
theorem lk_L_36 {y : zM} (hy : (zname y).cls = RL) : zLkV y M_X6_giveBack 36 2 := by
  refine ⟨?_, zgw_in (List.mem_of_getElem? (i := 791) (by decide +kernel)) rfl, zgw_in (List.mem_of_getElem? (i := 792) (by decide +kernel)) rfl, by decide +kernel⟩
  rw [hy]
  exact zgw_in (List.mem_of_getElem? (i := 790) (by decide +kernel)) rfl
theorem lk_L_39 {y : zM} (hy : (zname y).cls = RL) : zLkV y M_X6_setDeadline 39 1 := by
  refine ⟨?_, zgw_in (List.mem_of_getElem? (i := 800) (by decide +kernel)) rfl, zgw_in (List.mem_of_getElem? (i := 801) (by decide +kernel)) rfl, by decide +kernel⟩
  rw [hy]
  exact zgw_in (List.mem_of_getElem? (i := 799) (by decide +kernel)) rfl
theorem lk_L_42 {y : zM} (hy : (zname y).cls = RL) : zLkV y M_X6_node 42 2 := by
  refine ⟨?_, zgw_in (List.mem_of_getElem? (i := 808) (by decide +kernel)) rfl, zgw_in (List.mem_of_getElem? (i := 809) (by decide +kernel)) rfl, by decide +kernel⟩
  rw [hy]
  exact zgw_in (List.mem_of_getElem? (i := 807) (by decide +kernel)) rfl
theorem lk_L_45 {y : zM} (hy : (zname y).cls = RL) : zLkV y M_X6_row 45 3 := by
  refine ⟨?_, zgw_in (List.mem_of_getElem? (i := 825) (by decide +kernel)) rfl, zgw_in (List.mem_of_getElem? (i := 826) (by decide +kernel)) rfl, by decide +kernel⟩
  rw [hy]
  exact zgw_in (List.mem_of_getElem? (i := 824) (by decide +kernel)) rfl
theorem lk_L_48 {y : zM} (hy : (zname y).cls = RL) : zLkV y M_X6_child 48 3 := by
  refine ⟨?_, zgw_in (List.mem_of_getElem? (i := 837) (by decide +kernel)) rfl, zgw_in (List.mem_of_getElem? (i := 838) (by decide +kernel)) rfl, by decide +kernel⟩
  rw [hy]
  exact zgw_in (List.mem_of_getElem? (i := 836) (by decide +kernel)) rfl
theorem lk_L_51 {y : zM} (hy : (zname y).cls = RL) : zLkV y M_X6_critical 51 1 := by
  refine ⟨?_, zgw_in (List.mem_of_getElem? (i := 852) (by decide +kernel)) rfl, zgw_in (List.mem_of_getElem? (i := 853) (by decide +kernel)) rfl, by decide +kernel⟩
  rw [hy]
  exact zgw_in (List.mem_of_getElem? (i := 851) (by decide +kernel)) rfl
theorem lk_L_54 {y : zM} (hy : (zname y).cls = RL) : zLkV y M_X6_running 54 1 := by
  refine ⟨?_, zgw_in (List.mem_of_getElem? (i := 863) (by decide +kernel)) rfl, zgw_in (List.mem_of_getElem? (i := 864) (by decide +kernel)) rfl, by decide +kernel⟩
  rw [hy]
  exact zgw_in (List.mem_of_getElem? (i := 862) (by decide +kernel)) rfl
theorem lk_L_57 {y : zM} (hy : (zname y).cls = RL) : zLkV y M_X6_whole 57 1 := by
  refine ⟨?_, zgw_in (List.mem_of_getElem? (i := 871) (by decide +kernel)) rfl, zgw_in (List.mem_of_getElem? (i := 872) (by decide +kernel)) rfl, by decide +kernel⟩
  rw [hy]
  exact zgw_in (List.mem_of_getElem? (i := 870) (by decide +kernel)) rfl
theorem lk_L_60 {y : zM} (hy : (zname y).cls = RL) : zLkV y M_X6_endWith 60 2 := by
  refine ⟨?_, zgw_in (List.mem_of_getElem? (i := 878) (by decide +kernel)) rfl, zgw_in (List.mem_of_getElem? (i := 879) (by decide +kernel)) rfl, by decide +kernel⟩
  rw [hy]
  exact zgw_in (List.mem_of_getElem? (i := 877) (by decide +kernel)) rfl
theorem lk_L_63 {y : zM} (hy : (zname y).cls = RL) : zLkV y M_X6_growsTo 63 1 := by
  refine ⟨?_, zgw_in (List.mem_of_getElem? (i := 891) (by decide +kernel)) rfl, zgw_in (List.mem_of_getElem? (i := 892) (by decide +kernel)) rfl, by decide +kernel⟩
  rw [hy]
  exact zgw_in (List.mem_of_getElem? (i := 890) (by decide +kernel)) rfl
theorem lk_L_66 {y : zM} (hy : (zname y).cls = RL) : zLkV y M_X6_slackIf 66 2 := by
  refine ⟨?_, zgw_in (List.mem_of_getElem? (i := 902) (by decide +kernel)) rfl, zgw_in (List.mem_of_getElem? (i := 903) (by decide +kernel)) rfl, by decide +kernel⟩
  rw [hy]
  exact zgw_in (List.mem_of_getElem? (i := 901) (by decide +kernel)) rfl
theorem lk_L_69 {y : zM} (hy : (zname y).cls = RL) : zLkV y M_X6_reason 69 2 := by
  refine ⟨?_, zgw_in (List.mem_of_getElem? (i := 913) (by decide +kernel)) rfl, zgw_in (List.mem_of_getElem? (i := 914) (by decide +kernel)) rfl, by decide +kernel⟩
  rw [hy]
  exact zgw_in (List.mem_of_getElem? (i := 912) (by decide +kernel)) rfl
theorem lk_L_72 {y : zM} (hy : (zname y).cls = RL) : zLkV y M_X6_type 72 1 := by
  refine ⟨?_, zgw_in (List.mem_of_getElem? (i := 921) (by decide +kernel)) rfl, zgw_in (List.mem_of_getElem? (i := 922) (by decide +kernel)) rfl, by decide +kernel⟩
  rw [hy]
  exact zgw_in (List.mem_of_getElem? (i := 920) (by decide +kernel)) rfl
theorem lk_L_75 {y : zM} (hy : (zname y).cls = RL) : zLkV y M_X6_undo 75 0 := by
  refine ⟨?_, zgw_in (List.mem_of_getElem? (i := 933) (by decide +kernel)) rfl, zgw_in (List.mem_of_getElem? (i := 934) (by decide +kernel)) rfl, by decide +kernel⟩
  rw [hy]
  exact zgw_in (List.mem_of_getElem? (i := 932) (by decide +kernel)) rfl
theorem lc_X6_152 {y : zM} (hy : (zname y).cls = RX6) : Cond.constantLong (zname y).cls 152 (Int64.ofInt (43828)) ∈ zgw := by
  rw [hy]
  exact zgw_in (List.mem_of_getElem? (i := 523) (by decide +kernel)) rfl
theorem lc_X6_165 {y : zM} (hy : (zname y).cls = RX6) : Cond.constantLong (zname y).cls 165 (Int64.ofInt (31)) ∈ zgw := by
  rw [hy]
  exact zgw_in (List.mem_of_getElem? (i := 527) (by decide +kernel)) rfl
theorem lc_X7_207 {y : zM} (hy : (zname y).cls = RX7) : Cond.constantLong (zname y).cls 207 (Int64.ofInt (27)) ∈ zgw := by
  rw [hy]
  exact zgw_in (List.mem_of_getElem? (i := 1285) (by decide +kernel)) rfl
theorem lc_X7_209 {y : zM} (hy : (zname y).cls = RX7) : Cond.constantLong (zname y).cls 209 (Int64.ofInt (96)) ∈ zgw := by
  rw [hy]
  exact zgw_in (List.mem_of_getElem? (i := 1286) (by decide +kernel)) rfl
theorem lc_X7_211 {y : zM} (hy : (zname y).cls = RX7) : Cond.constantLong (zname y).cls 211 (Int64.ofInt (-1)) ∈ zgw := by
  rw [hy]
  exact zgw_in (List.mem_of_getElem? (i := 1287) (by decide +kernel)) rfl
theorem lc_X7_213 {y : zM} (hy : (zname y).cls = RX7) : Cond.constantLong (zname y).cls 213 (Int64.ofInt (4085899)) ∈ zgw := by
  rw [hy]
  exact zgw_in (List.mem_of_getElem? (i := 1288) (by decide +kernel)) rfl
theorem lc_X7_215 {y : zM} (hy : (zname y).cls = RX7) : Cond.constantLong (zname y).cls 215 (Int64.ofInt (394913)) ∈ zgw := by
  rw [hy]
  exact zgw_in (List.mem_of_getElem? (i := 1289) (by decide +kernel)) rfl
theorem lc_X7_217 {y : zM} (hy : (zname y).cls = RX7) : Cond.constantLong (zname y).cls 217 (Int64.ofInt (237458)) ∈ zgw := by
  rw [hy]
  exact zgw_in (List.mem_of_getElem? (i := 1290) (by decide +kernel)) rfl
theorem lc_X7_219 {y : zM} (hy : (zname y).cls = RX7) : Cond.constantLong (zname y).cls 219 (Int64.ofInt (37037273)) ∈ zgw := by
  rw [hy]
  exact zgw_in (List.mem_of_getElem? (i := 1291) (by decide +kernel)) rfl
theorem lc_X7_221 {y : zM} (hy : (zname y).cls = RX7) : Cond.constantLong (zname y).cls 221 (Int64.ofInt (40187)) ∈ zgw := by
  rw [hy]
  exact zgw_in (List.mem_of_getElem? (i := 1292) (by decide +kernel)) rfl
theorem lc_X7_223 {y : zM} (hy : (zname y).cls = RX7) : Cond.constantLong (zname y).cls 223 (Int64.ofInt (267413)) ∈ zgw := by
  rw [hy]
  exact zgw_in (List.mem_of_getElem? (i := 1293) (by decide +kernel)) rfl
theorem lc_X7_225 {y : zM} (hy : (zname y).cls = RX7) : Cond.constantLong (zname y).cls 225 (Int64.ofInt (92275)) ∈ zgw := by
  rw [hy]
  exact zgw_in (List.mem_of_getElem? (i := 1294) (by decide +kernel)) rfl
theorem lc_X7_227 {y : zM} (hy : (zname y).cls = RX7) : Cond.constantLong (zname y).cls 227 (Int64.ofInt (11450658)) ∈ zgw := by
  rw [hy]
  exact zgw_in (List.mem_of_getElem? (i := 1295) (by decide +kernel)) rfl
theorem lc_X7_258 {y : zM} (hy : (zname y).cls = RX7) : Cond.constantLong (zname y).cls 258 (Int64.ofInt (1358668)) ∈ zgw := by
  rw [hy]
  exact zgw_in (List.mem_of_getElem? (i := 1319) (by decide +kernel)) rfl
theorem lc_X7_260 {y : zM} (hy : (zname y).cls = RX7) : Cond.constantLong (zname y).cls 260 (Int64.ofInt (31)) ∈ zgw := by
  rw [hy]
  exact zgw_in (List.mem_of_getElem? (i := 1320) (by decide +kernel)) rfl
end
section
/-! ===== the objects of a run: 0 the class, 1 its text, 2 3 its bytes and numbers, 4 the saved trees, 5 + 51 t the trees (t = 0 .. 4), 260 the reference, 261 .. 270 its rows, 271 the answers ===== -/
def KK : List (Nat × Nat) := [(3, 0), (0, 0), (5, 150), (5, 3), (8, 4), (2, 0), (7, 24), (7, 24), (1, 0), (5, 4), (1, 0), (5, 4), (1, 0), (5, 4), (1, 0), (5, 4), (1, 0), (5, 4), (1, 0), (5, 4), (1, 0), (5, 4), (1, 0), (5, 4), (1, 0), (5, 4), (1, 0), (5, 4), (1, 0), (5, 4), (1, 0), (5, 4), (1, 0), (5, 4), (1, 0), (5, 4), (1, 0), (5, 4), (1, 0), (5, 4), (1, 0), (5, 4), (1, 0), (5, 4), (1, 0), (5, 4), (1, 0), (5, 4), (1, 0), (5, 4), (1, 0), (5, 4), (1, 0), (5, 4), (1, 0), (5, 4), (2, 0), (7, 24), (7, 24), (1, 0), (5, 4), (1, 0), (5, 4), (1, 0), (5, 4), (1, 0), (5, 4), (1, 0), (5, 4), (1, 0), (5, 4), (1, 0), (5, 4), (1, 0), (5, 4), (1, 0), (5, 4), (1, 0), (5, 4), (1, 0), (5, 4), (1, 0), (5, 4), (1, 0), (5, 4), (1, 0), (5, 4), (1, 0), (5, 4), (1, 0), (5, 4), (1, 0), (5, 4), (1, 0), (5, 4), (1, 0), (5, 4), (1, 0), (5, 4), (1, 0), (5, 4), (1, 0), (5, 4), (1, 0), (5, 4), (1, 0), (5, 4), (2, 0), (7, 24), (7, 24), (1, 0), (5, 4), (1, 0), (5, 4), (1, 0), (5, 4), (1, 0), (5, 4), (1, 0), (5, 4), (1, 0), (5, 4), (1, 0), (5, 4), (1, 0), (5, 4), (1, 0), (5, 4), (1, 0), (5, 4), (1, 0), (5, 4), (1, 0), (5, 4), (1, 0), (5, 4), (1, 0), (5, 4), (1, 0), (5, 4), (1, 0), (5, 4), (1, 0), (5, 4), (1, 0), (5, 4), (1, 0), (5, 4), (1, 0), (5, 4), (1, 0), (5, 4), (1, 0), (5, 4), (1, 0), (5, 4), (1, 0), (5, 4), (2, 0), (7, 24), (7, 24), (1, 0), (5, 4), (1, 0), (5, 4), (1, 0), (5, 4), (1, 0), (5, 4), (1, 0), (5, 4), (1, 0), (5, 4), (1, 0), (5, 4), (1, 0), (5, 4), (1, 0), (5, 4), (1, 0), (5, 4), (1, 0), (5, 4), (1, 0), (5, 4), (1, 0), (5, 4), (1, 0), (5, 4), (1, 0), (5, 4), (1, 0), (5, 4), (1, 0), (5, 4), (1, 0), (5, 4), (1, 0), (5, 4), (1, 0), (5, 4), (1, 0), (5, 4), (1, 0), (5, 4), (1, 0), (5, 4), (1, 0), (5, 4), (2, 0), (7, 24), (7, 24), (1, 0), (5, 4), (1, 0), (5, 4), (1, 0), (5, 4), (1, 0), (5, 4), (1, 0), (5, 4), (1, 0), (5, 4), (1, 0), (5, 4), (1, 0), (5, 4), (1, 0), (5, 4), (1, 0), (5, 4), (1, 0), (5, 4), (1, 0), (5, 4), (1, 0), (5, 4), (1, 0), (5, 4), (1, 0), (5, 4), (1, 0), (5, 4), (1, 0), (5, 4), (1, 0), (5, 4), (1, 0), (5, 4), (1, 0), (5, 4), (1, 0), (5, 4), (1, 0), (5, 4), (1, 0), (5, 4), (1, 0), (5, 4), (4, 0), (5, 1026), (5, 150), (5, 24), (5, 24), (5, 24), (5, 24), (5, 24), (6, 24), (5, 3), (5, 24), (9, 1)]
theorem KK_len : KK.length = 272 := by decide +kernel
abbrev oT (t : Nat) : Nat := 5 + 51 * t
abbrev oN (t i : Nat) : Nat := 5 + 51 * t + 3 + 2 * i
abbrev oL (t i : Nat) : Nat := 5 + 51 * t + 4 + 2 * i
theorem KK_T : ∀ t, t < 5 → KK[5 + 51 * t]? = some (2, 0) := by decide +kernel
theorem KK_T1 : ∀ t, t < 5 → KK[5 + 51 * t + 1]? = some (7, 24) := by decide +kernel
theorem KK_T2 : ∀ t, t < 5 → KK[5 + 51 * t + 2]? = some (7, 24) := by decide +kernel
theorem KK_N : ∀ t, t < 5 → ∀ i, i < 24 → KK[5 + 51 * t + 3 + 2 * i]? = some (1, 0) := by decide +kernel
theorem KK_L : ∀ t, t < 5 → ∀ i, i < 24 → KK[5 + 51 * t + 4 + 2 * i]? = some (5, 4) := by decide +kernel
theorem zk_at {h : zH} {ob : Nat} {kd : Nat × Nat} (hK : h.1 = KK) (e : KK[ob]? = some kd) : h.1[ob]? = some kd := by rw [hK]; exact e
section ZR4
variable {y : zM} {pc : Nat} {L : List (Nat × zV)} {st : List zV} {h : zH} {n : Nat × Nat} {q : zO}
theorem Ev.gI {idx ob c z k : Nat} {x : Int} (d : decode (zcode y) pc = .ok (.getfield idx, 3)) (lk : zFl (zname y).cls idx c k) (ho : h.1[ob]? = some (c, z)) (hr : zRf c k = false) (hv : h.2.1 ob (k : Nat) = x) (kk : Ev y (pc + 3) L (zi x :: st) h n q) : Ev y pc L (zr (some ob) :: st) h n q := Ev.getI d lk ho hr (by rw [hv]; exact kk)
theorem Ev.gR {idx ob c z k : Nat} {r : Option Nat} (d : decode (zcode y) pc = .ok (.getfield idx, 3)) (lk : zFl (zname y).cls idx c k) (ho : h.1[ob]? = some (c, z)) (hr : zRf c k = true) (hv : h.2.2 ob (k : Nat) = r) (kk : Ev y (pc + 3) L (zr r :: st) h n q) : Ev y pc L (zr (some ob) :: st) h n q := Ev.getR d lk ho hr (by rw [hv]; exact kk)
theorem Ev.ia {ob N : Nat} {i x : Int} (d : decode (zcode y) pc = .ok (.iaload, 1)) (ho : h.1[ob]? = some (5, N)) (h0 : 0 ≤ i) (h1 : i < N) (hv : h.2.1 ob i = x) (kk : Ev y (pc + 1) L (zi x :: st) h n q) : Ev y pc L (zi i :: zr (some ob) :: st) h n q := Ev.iald d ho h0 h1 (by rw [hv]; exact kk)
theorem Ev.za {ob N : Nat} {i x : Int} (d : decode (zcode y) pc = .ok (.baload, 1)) (ho : h.1[ob]? = some (6, N)) (h0 : 0 ≤ i) (h1 : i < N) (hv : h.2.1 ob i = x) (kk : Ev y (pc + 1) L (zi x :: st) h n q) : Ev y pc L (zi i :: zr (some ob) :: st) h n q := Ev.zald d ho h0 h1 (by rw [hv]; exact kk)
theorem Ev.la {ob N : Nat} {i x : Int} (d : decode (zcode y) pc = .ok (.laload, 1)) (ho : h.1[ob]? = some (9, N)) (h0 : 0 ≤ i) (h1 : i < N) (hv : h.2.1 ob i = x) (kk : Ev y (pc + 1) L (zl x :: st) h n q) : Ev y pc L (zi i :: zr (some ob) :: st) h n q := Ev.lald d ho h0 h1 (by rw [hv]; exact kk)
theorem Ev.aa {ob N kd : Nat} {i : Int} {r : Option Nat} (d : decode (zcode y) pc = .ok (.aaload, 1)) (ho : h.1[ob]? = some (kd, N)) (hkd : kd = 7 ∨ kd = 8) (h0 : 0 ≤ i) (h1 : i < N) (hv : h.2.2 ob i = r) (kk : Ev y (pc + 1) L (zr r :: st) h n q) : Ev y pc L (zi i :: zr (some ob) :: st) h n q := Ev.aald d ho hkd h0 h1 (by rw [hv]; exact kk)
/-- the outcome in other words -/
theorem Ev.as {o o' : zO} (k : Ev y pc L st h n o) (e : o = o') : Ev y pc L st h n o' := e ▸ k
theorem Ev.at {pc' : Nat} {L' : List (Nat × zV)} {st' : List zV} {h' : zH} {o : zO} (k : Ev y pc' L' st' h' n o) (e : pc' = pc ∧ L' = L ∧ st' = st ∧ h' = h) : Ev y pc L st h n o := by
  obtain ⟨rfl, rfl, rfl, rfl⟩ := e
  exact k
end ZR4
theorem Ev.perm {y : zM} {pc : Nat} {L L' : List (Nat × zV)} {st : List zV} {h : zH} {n : Nat × Nat} {o : zO} (ks : List Nat) (e : ks.filterMap (fun k => L[k]?) = L') (k : Ev y pc L' st h n o) : Ev y pc L st h n o := by
  refine Ev.loc (fun q hq => ?_) k
  rw [← e] at hq
  obtain ⟨j, -, hj⟩ := List.mem_filterMap.mp hq
  exact List.mem_of_getElem? hj
/-! sums and searches over the places 0 .. m - 1 -/
def zsum (g : Int → Int) : Nat → Int
  | 0 => 0
  | m + 1 => zsum g m + g m
def zfnd (g : Int → Int) (x : Int) : Nat → Int
  | 0 => -1
  | m + 1 => if 0 ≤ zfnd g x m then zfnd g x m else if g m = x then m else -1
theorem zfnd_cases (g : Int → Int) (x : Int) (m : Nat) : (zfnd g x m = -1 ∧ ∀ k : Nat, k < m → g k ≠ x) ∨ (∃ k : Nat, k < m ∧ zfnd g x m = k ∧ g k = x ∧ ∀ j : Nat, j < k → g j ≠ x) := by
  induction m with
  | zero => exact Or.inl ⟨rfl, fun k hk => absurd hk (Nat.not_lt_zero _)⟩
  | succ m ih =>
    rcases ih with ⟨e, ha⟩ | ⟨k, hk, e, hg, hf⟩
    · by_cases hx : g m = x
      · refine Or.inr ⟨m, Nat.lt_succ_self _, ?_, hx, ha⟩
        unfold zfnd
        rw [e, if_neg (by omega), if_pos hx]
      · refine Or.inl ⟨?_, fun k hk => ?_⟩
        · unfold zfnd
          rw [e, if_neg (by omega), if_neg hx]
        · by_cases hkm : k = m
          · subst hkm; exact hx
          · exact ha k (by omega)
    · refine Or.inr ⟨k, by omega, ?_, hg, hf⟩
      unfold zfnd
      rw [e, if_pos (by omega)]
theorem zfnd_at {g : Int → Int} {x : Int} {m k : Nat} (hk : k < m) (hg : g k = x) (hf : ∀ j : Nat, j < k → g j ≠ x) : zfnd g x m = k := by
  rcases zfnd_cases g x m with ⟨e, ha⟩ | ⟨j, hj, e, hg2, hf2⟩
  · exact absurd hg (ha k hk)
  · rw [e]
    by_cases h1 : j < k
    · exact absurd hg2 (hf j h1)
    · by_cases h2 : k < j
      · exact absurd hg (hf2 k h2)
      · have : j = k := by omega
        rw [this]
theorem zfnd_no {g : Int → Int} {x : Int} {m : Nat} (h : ∀ k : Nat, k < m → g k ≠ x) : zfnd g x m = -1 := by
  rcases zfnd_cases g x m with ⟨e, -⟩ | ⟨j, hj, -, hg2, -⟩
  · exact e
  · exact absurd hg2 (h j hj)
theorem zfnd_rng (g : Int → Int) (x : Int) (m : Nat) : -1 ≤ zfnd g x m ∧ zfnd g x m < m := by
  rcases zfnd_cases g x m with ⟨e, -⟩ | ⟨j, hj, e, -⟩ <;> omega
/-- the reference's references -/
def zRM (h : zH) : Prop := h.1 = KK ∧ h.2.2 260 0 = some 261 ∧ h.2.2 260 3 = some 262 ∧ h.2.2 260 5 = some 263 ∧ h.2.2 260 6 = some 264 ∧ h.2.2 260 7 = some 265 ∧ h.2.2 260 8 = some 266 ∧ h.2.2 260 9 = some 267 ∧ h.2.2 260 10 = some 268 ∧ h.2.2 260 13 = some 269 ∧ h.2.2 260 14 = some 270
theorem zRM.up {h : zH} (hR : zRM h) (I : Nat → Int → Int) : zRM (h.1, I, h.2.2) := hR
end
section
abbrev rf (h : zH) (k w : Int) : Int := h.2.1 261 (3 + 7 * k + w)
theorem s_in (h : zH) (v lo hi : Int) : Ev M_X7_in 0 [(0, zi v), (1, zi lo), (2, zi hi)] [] h (0, 0) (.inl (some (zi (if lo ≤ v ∧ v ≤ hi then 1 else 0))), h) := by
  refine Ev.iload_n (i := 0) dX7_in_0 rfl rfl ?_
  refine Ev.iload_n (i := 1) dX7_in_1 rfl rfl ?_
  refine Ev.icmp_lt (tgt := 14) dX7_in_2 rfl (fun hc => ?_) (fun hc => ?_)
  · skip
    refine Ev.iconst dX7_in_14 ?_
    rw [if_neg (by omega)]
    exact Ev.bret dX7_in_15 rfl (by decide) ⟨(Nat.le_of_ble_eq_true rfl), (Nat.le_of_ble_eq_true rfl)⟩
  · skip
    refine Ev.iload_n (i := 0) dX7_in_5 rfl rfl ?_
    refine Ev.iload_n (i := 2) dX7_in_6 rfl rfl ?_
    refine Ev.icmp_gt (tgt := 14) dX7_in_7 rfl (fun hc2 => ?_) (fun hc2 => ?_)
    · skip
      refine Ev.iconst dX7_in_14 ?_
      rw [if_neg (by omega)]
      exact Ev.bret dX7_in_15 rfl (by decide) ⟨(Nat.le_of_ble_eq_true rfl), (Nat.le_of_ble_eq_true rfl)⟩
    · skip
      refine Ev.iconst dX7_in_10 ?_
      refine Ev.goto (tgt := 15) dX7_in_11 rfl ?_
      rw [if_pos (by omega)]
      exact Ev.bret dX7_in_15 rfl (by decide) ⟨(Nat.le_of_ble_eq_true rfl), (Nat.le_of_ble_eq_true rfl)⟩
theorem s_of {h : zH} (hR : zRM h) {k w : Int} (hk : 0 ≤ k ∧ k < 24) (hw : 0 ≤ w ∧ w < 7) : Ev M_X7_of 0 [(0, zr (some 260)), (1, zi k), (2, zi w)] [] h (0, 0) (.inl (some (zi (rf h k w))), h) := by
  refine Ev.aload_n (i := 0) dX7_of_0 rfl rfl ?_
  refine Ev.gR (r := (some 261)) dX7_of_1 fl_X7_7 (zk_at hR.1 rfl) rfl hR.2.1 ?_
  refine Ev.iconst dX7_of_4 ?_
  refine Ev.bipush dX7_of_5 ?_
  refine Ev.iload_n (i := 1) dX7_of_7 rfl rfl ?_
  refine Ev.imul dX7_of_8 ⟨by omega, by omega⟩ ?_
  refine Ev.iadd dX7_of_9 ⟨by omega, by omega⟩ ?_
  refine Ev.iload_n (i := 2) dX7_of_10 rfl rfl ?_
  refine Ev.iadd dX7_of_11 ⟨by omega, by omega⟩ ?_
  refine Ev.ia (x := (h).2.1 261 ((3 + (7 * k)) + w)) dX7_of_12 (zk_at hR.1 rfl) (by omega) (by omega) rfl ?_
  exact Ev.iret dX7_of_13 rfl ⟨(Nat.le_of_ble_eq_true rfl), (Nat.le_of_ble_eq_true rfl)⟩
theorem s_set {h : zH} (hR : zRM h) {k w v : Int} (hk : 0 ≤ k ∧ k < 24) (hw : 0 ≤ w ∧ w < 7) : Ev M_X7_set 0 [(0, zr (some 260)), (1, zi k), (2, zi w), (3, zi v)] [] h (0, 0) (.inl none, (h.1, zup h.2.1 261 (3 + 7 * k + w) v, h.2.2)) := by
  refine Ev.aload_n (i := 0) dX7_set_0 rfl rfl ?_
  refine Ev.gR (r := (some 261)) dX7_set_1 fl_X7_7 (zk_at hR.1 rfl) rfl hR.2.1 ?_
  refine Ev.iconst dX7_set_4 ?_
  refine Ev.bipush dX7_set_5 ?_
  refine Ev.iload_n (i := 1) dX7_set_7 rfl rfl ?_
  refine Ev.imul dX7_set_8 ⟨by omega, by omega⟩ ?_
  refine Ev.iadd dX7_set_9 ⟨by omega, by omega⟩ ?_
  refine Ev.iload_n (i := 2) dX7_set_10 rfl rfl ?_
  refine Ev.iadd dX7_set_11 ⟨by omega, by omega⟩ ?_
  refine Ev.iload_n (i := 3) dX7_set_12 rfl rfl ?_
  refine Ev.iast dX7_set_13 (zk_at hR.1 rfl) (by omega) (by omega) ?_
  exact Ev.vret dX7_set_14 rfl ⟨(Nat.le_of_ble_eq_true rfl), (Nat.le_of_ble_eq_true rfl)⟩
/-- the places of the present state -/
theorem s_find_loop {h : zH} (hR : zRM h) {n : Nat} {x : Int} (hn : h.2.1 261 0 = n) (hn24 : n ≤ 24) : ∀ (j k : Nat), k ≤ n → n - k = j → zfnd (fun j => rf h j 0) x k = -1 → Ev M_X7_find 2 [(0, zr (some 260)), (1, zi x), (2, zi (k : Int))] [] h (0, 0) (.inl (some (zi (zfnd (fun j => rf h j 0) x n))), h) := by
  intro j
  induction j with
  | zero =>
    intro k hk hj he
    have hkn : k = n := by omega
    subst hkn
    refine Ev.iload_n (i := 2) dX7_find_2 rfl rfl ?_
    refine Ev.aload_n (i := 0) dX7_find_3 rfl rfl ?_
    refine Ev.gR (r := (some 261)) dX7_find_4 fl_X7_7 (zk_at hR.1 rfl) rfl hR.2.1 ?_
    refine Ev.iconst dX7_find_7 ?_
    refine Ev.ia (x := k) dX7_find_8 (zk_at hR.1 rfl) (by omega) (by omega) hn ?_
    refine Ev.icmp_ge (tgt := 30) dX7_find_9 rfl (fun hc => ?_) (fun hc => absurd hc (by omega))
    refine Ev.iconst dX7_find_30 ?_
    rw [he]
    exact Ev.iret dX7_find_31 rfl ⟨(Nat.le_of_ble_eq_true rfl), (Nat.le_of_ble_eq_true rfl)⟩
  | succ j ih0 =>
    intro k hk hj he
    have ih := fun (k2 : Nat) (a : k2 ≤ n) (b : n - k2 = j) (c : zfnd (fun j => rf h j 0) x k2 = -1) => ih0 k2 a b c
    refine Ev.iload_n (i := 2) dX7_find_2 rfl rfl ?_
    refine Ev.aload_n (i := 0) dX7_find_3 rfl rfl ?_
    refine Ev.gR (r := (some 261)) dX7_find_4 fl_X7_7 (zk_at hR.1 rfl) rfl hR.2.1 ?_
    refine Ev.iconst dX7_find_7 ?_
    refine Ev.ia (x := n) dX7_find_8 (zk_at hR.1 rfl) (by omega) (by omega) hn ?_
    refine Ev.icmp_ge (tgt := 30) dX7_find_9 rfl (fun hc => ?_) (fun hc => ?_)
    · skip
      have hkn : k = n := by omega
      rw [hkn] at he
      rw [he]
      refine Ev.iconst dX7_find_30 ?_
      exact Ev.iret dX7_find_31 rfl ⟨(Nat.le_of_ble_eq_true rfl), (Nat.le_of_ble_eq_true rfl)⟩
    · skip
      refine Ev.aload_n (i := 0) dX7_find_12 rfl rfl ?_
      refine Ev.iload_n (i := 2) dX7_find_13 rfl rfl ?_
      refine Ev.iconst dX7_find_14 ?_
      refine Ev.callV (ob := 260) (as := [zi (k : Int), zi 0]) (st := []) (s_of (h := h) hR ⟨by omega, by omega⟩ ⟨by decide, by decide⟩) dX7_find_15 ok_X7_of (lk_X7_49 rfl) ⟨(Nat.le_of_ble_eq_true rfl), (Nat.le_of_ble_eq_true rfl)⟩ (zk_at hR.1 rfl) ⟨by decide, rfl⟩ rfl (Nat.le_of_ble_eq_true rfl) (Nat.le_of_ble_eq_true rfl) ⟨(Nat.le_of_ble_eq_true rfl), (Nat.le_of_ble_eq_true rfl)⟩ ?_
      refine Ev.iload_n (i := 1) dX7_find_18 rfl rfl ?_
      refine Ev.icmp_ne (tgt := 24) dX7_find_19 rfl (fun hc2 => ?_) (fun hc2 => ?_)
      · skip
        refine Ev.iinc (L' := [(2, zi ((k : Int) + 1)), (0, zr (some 260)), (1, zi x)]) dX7_find_24 rfl (Nat.le_of_ble_eq_true rfl) ⟨by omega, by omega⟩ rfl ?_
        refine Ev.goto (tgt := 2) dX7_find_27 rfl ?_
        refine Ev.perm [1, 2, 0] rfl ?_
        have e1 : zfnd (fun j => rf h j 0) x (k + 1) = -1 := by
          show (if 0 ≤ zfnd (fun j => rf h j 0) x k then zfnd (fun j => rf h j 0) x k else if rf h k 0 = x then (k : Int) else -1) = -1
          rw [he, if_neg (by omega), if_neg hc2]
        exact ih (k + 1) (by omega) (by omega) e1
      · skip
        refine Ev.iload_n (i := 2) dX7_find_22 rfl rfl ?_
        have e1 : zfnd (fun j => rf h j 0) x n = k := by
          refine zfnd_at (by omega) hc2 (fun j hj => ?_)
          rcases zfnd_cases (fun j => rf h j 0) x k with ⟨-, ha⟩ | ⟨j2, hj2, e2, -⟩
          · exact ha j hj
          · omega
        rw [e1]
        exact Ev.iret dX7_find_23 rfl ⟨(Nat.le_of_ble_eq_true rfl), (Nat.le_of_ble_eq_true rfl)⟩
theorem s_find {h : zH} (hR : zRM h) {n : Nat} {x : Int} (hn : h.2.1 261 0 = n) (hn24 : n ≤ 24) : Ev M_X7_find 0 [(0, zr (some 260)), (1, zi x)] [] h (0, 0) (.inl (some (zi (zfnd (fun j => rf h j 0) x n))), h) := by
  refine Ev.iconst dX7_find_0 ?_
  refine Ev.istore_n (i := 2) (L' := [(2, zi 0), (0, zr (some 260)), (1, zi x)]) dX7_find_1 rfl (Nat.le_of_ble_eq_true rfl) rfl ?_
  refine Ev.perm [1, 2, 0] rfl ?_
  exact s_find_loop hR hn hn24 n 0 (by omega) (by omega) rfl
theorem s_isTask {h : zH} (hR : zRM h) {n k : Nat} {x : Int} (hn : h.2.1 261 0 = n) (hn24 : n ≤ 24) (hk : k < n) (hf : zfnd (fun j => rf h j 0) x n = k) : Ev M_X7_isTask 0 [(0, zr (some 260)), (1, zi x)] [] h (0, 0) (.inl (some (zi (if rf h k 1 = 1 then 1 else 0))), h) := by
  refine Ev.aload_n (i := 0) dX7_isTask_0 rfl rfl ?_
  refine Ev.aload_n (i := 0) dX7_isTask_1 rfl rfl ?_
  refine Ev.iload_n (i := 1) dX7_isTask_2 rfl rfl ?_
  refine Ev.callV (ob := 260) (as := [zi x]) (st := [zr (some 260)]) (s_find hR hn hn24) dX7_isTask_3 ok_X7_find (lk_X7_53 rfl) ⟨(Nat.le_of_ble_eq_true rfl), (Nat.le_of_ble_eq_true rfl)⟩ (zk_at hR.1 rfl) ⟨by decide, rfl⟩ rfl (Nat.le_of_ble_eq_true rfl) (Nat.le_of_ble_eq_true rfl) ⟨(Nat.le_of_ble_eq_true rfl), (Nat.le_of_ble_eq_true rfl)⟩ ?_
  rw [hf]
  refine Ev.iconst dX7_isTask_6 ?_
  refine Ev.callV (ob := 260) (as := [zi (k : Int), zi 1]) (st := []) (s_of (h := h) hR ⟨by omega, by omega⟩ ⟨by decide, by decide⟩) dX7_isTask_7 ok_X7_of (lk_X7_49 rfl) ⟨(Nat.le_of_ble_eq_true rfl), (Nat.le_of_ble_eq_true rfl)⟩ (zk_at hR.1 rfl) ⟨by decide, rfl⟩ rfl (Nat.le_of_ble_eq_true rfl) (Nat.le_of_ble_eq_true rfl) ⟨(Nat.le_of_ble_eq_true rfl), (Nat.le_of_ble_eq_true rfl)⟩ ?_
  refine Ev.iconst dX7_isTask_10 ?_
  refine Ev.icmp_ne (tgt := 18) dX7_isTask_11 rfl (fun hc => ?_) (fun hc => ?_)
  · skip
    refine Ev.iconst dX7_isTask_18 ?_
    rw [if_neg hc]
    exact Ev.bret dX7_isTask_19 rfl (by decide) ⟨(Nat.le_of_ble_eq_true rfl), (Nat.le_of_ble_eq_true rfl)⟩
  · skip
    refine Ev.iconst dX7_isTask_14 ?_
    refine Ev.goto (tgt := 19) dX7_isTask_15 rfl ?_
    rw [if_pos hc]
    exact Ev.bret dX7_isTask_19 rfl (by decide) ⟨(Nat.le_of_ble_eq_true rfl), (Nat.le_of_ble_eq_true rfl)⟩
theorem s_thrown {h : zH} (hR : zRM h) : Ev M_X7_thrown 0 [(0, zr (some 260))] [] h (0, 0) (.inl (some (zi (h.2.1 260 2))), h) := by
  refine Ev.aload_n (i := 0) dX7_thrown_0 rfl rfl ?_
  refine Ev.gI (x := (h).2.1 260 2) dX7_thrown_1 fl_X7_57 (zk_at hR.1 rfl) rfl rfl ?_
  exact Ev.iret dX7_thrown_4 rfl ⟨(Nat.le_of_ble_eq_true rfl), (Nat.le_of_ble_eq_true rfl)⟩
theorem s_isRefused {h : zH} (hR : zRM h) (w : Int) : Ev M_X7_isRefused 0 [(0, zr (some 260)), (1, zi w)] [] h (0, 0) (.inl (some (zi (if w = 0 then 0 else 1))), (h.1, zup h.2.1 260 2 w, h.2.2)) := by
  refine Ev.aload_n (i := 0) dX7_isRefused_0 rfl rfl ?_
  refine Ev.iload_n (i := 1) dX7_isRefused_1 rfl rfl ?_
  refine Ev.putI dX7_isRefused_2 fl_X7_57 (zk_at hR.1 rfl) rfl rfl (fun h9 => by cases h9) ?_
  refine Ev.iload_n (i := 1) dX7_isRefused_5 rfl rfl ?_
  refine Ev.if_eq (tgt := 13) dX7_isRefused_6 rfl (fun hc => ?_) (fun hc => ?_)
  · skip
    refine Ev.iconst dX7_isRefused_13 ?_
    rw [if_pos hc]
    exact Ev.bret dX7_isRefused_14 rfl (by decide) ⟨(Nat.le_of_ble_eq_true rfl), (Nat.le_of_ble_eq_true rfl)⟩
  · skip
    refine Ev.iconst dX7_isRefused_9 ?_
    refine Ev.goto (tgt := 14) dX7_isRefused_10 rfl ?_
    rw [if_neg hc]
    exact Ev.bret dX7_isRefused_14 rfl (by decide) ⟨(Nat.le_of_ble_eq_true rfl), (Nat.le_of_ble_eq_true rfl)⟩
theorem s_isBarred {h : zH} (hR : zRM h) (w : Int) : Ev M_X7_isBarred 0 [(0, zr (some 260)), (1, zi w)] [] h (0, 0) (.inl (some (zi (if (if w = 3 then 2 else w) = 0 then 0 else 1))), (h.1, zup h.2.1 260 2 (if w = 3 then 2 else w), h.2.2)) := by
  refine Ev.aload_n (i := 0) dX7_isBarred_0 rfl rfl ?_
  refine Ev.iload_n (i := 1) dX7_isBarred_1 rfl rfl ?_
  refine Ev.iconst dX7_isBarred_2 ?_
  refine Ev.icmp_ne (tgt := 10) dX7_isBarred_3 rfl (fun hc => ?_) (fun hc => ?_)
  · skip
    refine Ev.iload_n (i := 1) dX7_isBarred_10 rfl rfl ?_
    refine Ev.callV (ob := 260) (as := [zi w]) (st := []) (s_isRefused hR w) dX7_isBarred_11 ok_X7_isRefused (lk_X7_60 rfl) ⟨(Nat.le_of_ble_eq_true rfl), (Nat.le_of_ble_eq_true rfl)⟩ (zk_at hR.1 rfl) ⟨by decide, rfl⟩ rfl (Nat.le_of_ble_eq_true rfl) (Nat.le_of_ble_eq_true rfl) ⟨(Nat.le_of_ble_eq_true rfl), (Nat.le_of_ble_eq_true rfl)⟩ ?_
    rw [if_neg hc]
    exact Ev.bret dX7_isBarred_14 rfl (by split <;> decide) ⟨(Nat.le_of_ble_eq_true rfl), (Nat.le_of_ble_eq_true rfl)⟩
  · skip
    refine Ev.iconst dX7_isBarred_6 ?_
    refine Ev.goto (tgt := 11) dX7_isBarred_7 rfl ?_
    refine Ev.callV (ob := 260) (as := [zi 2]) (st := []) (s_isRefused hR 2) dX7_isBarred_11 ok_X7_isRefused (lk_X7_60 rfl) ⟨(Nat.le_of_ble_eq_true rfl), (Nat.le_of_ble_eq_true rfl)⟩ (zk_at hR.1 rfl) ⟨by decide, rfl⟩ rfl (Nat.le_of_ble_eq_true rfl) (Nat.le_of_ble_eq_true rfl) ⟨(Nat.le_of_ble_eq_true rfl), (Nat.le_of_ble_eq_true rfl)⟩ ?_
    rw [if_pos hc]
    exact Ev.bret dX7_isBarred_14 rfl (by split <;> decide) ⟨(Nat.le_of_ble_eq_true rfl), (Nat.le_of_ble_eq_true rfl)⟩
theorem s_isIn {h : zH} (hR : zRM h) {k gr r : Int} (hk : 0 ≤ k ∧ k < 24) : Ev M_X7_isIn 0 [(0, zr (some 260)), (1, zi k), (2, zi gr), (3, zi r)] [] h (0, 0) (.inl (some (zi (if rf h k 2 = gr ∧ rf h k 3 = r then 1 else 0))), h) := by
  refine Ev.aload_n (i := 0) dX7_isIn_0 rfl rfl ?_
  refine Ev.iload_n (i := 1) dX7_isIn_1 rfl rfl ?_
  refine Ev.iconst dX7_isIn_2 ?_
  refine Ev.callV (ob := 260) (as := [zi k, zi 2]) (st := []) (s_of (h := h) hR ⟨by omega, by omega⟩ ⟨by decide, by decide⟩) dX7_isIn_3 ok_X7_of (lk_X7_49 rfl) ⟨(Nat.le_of_ble_eq_true rfl), (Nat.le_of_ble_eq_true rfl)⟩ (zk_at hR.1 rfl) ⟨by decide, rfl⟩ rfl (Nat.le_of_ble_eq_true rfl) (Nat.le_of_ble_eq_true rfl) ⟨(Nat.le_of_ble_eq_true rfl), (Nat.le_of_ble_eq_true rfl)⟩ ?_
  refine Ev.iload_n (i := 2) dX7_isIn_6 rfl rfl ?_
  refine Ev.icmp_ne (tgt := 24) dX7_isIn_7 rfl (fun hc => ?_) (fun hc => ?_)
  · skip
    refine Ev.iconst dX7_isIn_24 ?_
    rw [if_neg (fun e => hc e.1)]
    exact Ev.bret dX7_isIn_25 rfl (by decide) ⟨(Nat.le_of_ble_eq_true rfl), (Nat.le_of_ble_eq_true rfl)⟩
  · skip
    refine Ev.aload_n (i := 0) dX7_isIn_10 rfl rfl ?_
    refine Ev.iload_n (i := 1) dX7_isIn_11 rfl rfl ?_
    refine Ev.iconst dX7_isIn_12 ?_
    refine Ev.callV (ob := 260) (as := [zi k, zi 3]) (st := []) (s_of (h := h) hR ⟨by omega, by omega⟩ ⟨by decide, by decide⟩) dX7_isIn_13 ok_X7_of (lk_X7_49 rfl) ⟨(Nat.le_of_ble_eq_true rfl), (Nat.le_of_ble_eq_true rfl)⟩ (zk_at hR.1 rfl) ⟨by decide, rfl⟩ rfl (Nat.le_of_ble_eq_true rfl) (Nat.le_of_ble_eq_true rfl) ⟨(Nat.le_of_ble_eq_true rfl), (Nat.le_of_ble_eq_true rfl)⟩ ?_
    refine Ev.iload_n (i := 3) dX7_isIn_16 rfl rfl ?_
    refine Ev.icmp_ne (tgt := 24) dX7_isIn_17 rfl (fun hc2 => ?_) (fun hc2 => ?_)
    · skip
      refine Ev.iconst dX7_isIn_24 ?_
      rw [if_neg (fun e => hc2 e.2)]
      exact Ev.bret dX7_isIn_25 rfl (by decide) ⟨(Nat.le_of_ble_eq_true rfl), (Nat.le_of_ble_eq_true rfl)⟩
    · skip
      refine Ev.iconst dX7_isIn_20 ?_
      refine Ev.goto (tgt := 25) dX7_isIn_21 rfl ?_
      rw [if_pos ⟨hc, hc2⟩]
      exact Ev.bret dX7_isIn_25 rfl (by decide) ⟨(Nat.le_of_ble_eq_true rfl), (Nat.le_of_ble_eq_true rfl)⟩
theorem s_rowLength_loop {h : zH} (hR : zRM h) {n : Nat} {gr r : Int} (hn : h.2.1 261 0 = n) (hn24 : n ≤ 24) (hs : ∀ m : Nat, m ≤ n → -1000000000 ≤ zsum (fun j => if rf h j 2 = gr ∧ rf h j 3 = r then h.2.1 263 j else 0) m ∧ zsum (fun j => if rf h j 2 = gr ∧ rf h j 3 = r then h.2.1 263 j else 0) m ≤ 1000000000) : ∀ (j k : Nat), k ≤ n → n - k = j → Ev M_X7_rowLength 5 [(0, zr (some 260)), (1, zi gr), (2, zi r), (3, zi (zsum (fun j => if rf h j 2 = gr ∧ rf h j 3 = r then h.2.1 263 j else 0) k)), (4, zi (k : Int))] [] h (0, 0) (.inl (some (zi (zsum (fun j => if rf h j 2 = gr ∧ rf h j 3 = r then h.2.1 263 j else 0) n))), h) := by
  intro j
  induction j with
  | zero =>
    intro k hk hj
    have hkn : k = n := by omega
    subst hkn
    refine Ev.iload dX7_rowLength_5 rfl ?_
    refine Ev.aload_n (i := 0) dX7_rowLength_7 rfl rfl ?_
    refine Ev.gR (r := (some 261)) dX7_rowLength_8 fl_X7_7 (zk_at hR.1 rfl) rfl hR.2.1 ?_
    refine Ev.iconst dX7_rowLength_11 ?_
    refine Ev.ia (x := k) dX7_rowLength_12 (zk_at hR.1 rfl) (by omega) (by omega) hn ?_
    refine Ev.icmp_ge (tgt := 47) dX7_rowLength_13 rfl (fun hc => ?_) (fun hc => absurd hc (by omega))
    refine Ev.iload_n (i := 3) dX7_rowLength_47 rfl rfl ?_
    exact Ev.iret dX7_rowLength_48 rfl ⟨(Nat.le_of_ble_eq_true rfl), (Nat.le_of_ble_eq_true rfl)⟩
  | succ j ih =>
    intro k hk hj
    refine Ev.iload dX7_rowLength_5 rfl ?_
    refine Ev.aload_n (i := 0) dX7_rowLength_7 rfl rfl ?_
    refine Ev.gR (r := (some 261)) dX7_rowLength_8 fl_X7_7 (zk_at hR.1 rfl) rfl hR.2.1 ?_
    refine Ev.iconst dX7_rowLength_11 ?_
    refine Ev.ia (x := n) dX7_rowLength_12 (zk_at hR.1 rfl) (by omega) (by omega) hn ?_
    refine Ev.icmp_ge (tgt := 47) dX7_rowLength_13 rfl (fun hc => absurd hc (by omega)) (fun hc => ?_)
    have hs1 := hs k (by omega)
    have hs2 := hs (k + 1) (by omega)
    have ez : zsum (fun j => if rf h j 2 = gr ∧ rf h j 3 = r then h.2.1 263 j else 0) (k + 1) = zsum (fun j => if rf h j 2 = gr ∧ rf h j 3 = r then h.2.1 263 j else 0) k + (if rf h k 2 = gr ∧ rf h k 3 = r then h.2.1 263 k else 0) := rfl
    refine Ev.iload_n (i := 3) dX7_rowLength_16 rfl rfl ?_
    refine Ev.aload_n (i := 0) dX7_rowLength_17 rfl rfl ?_
    refine Ev.iload dX7_rowLength_18 rfl ?_
    refine Ev.iload_n (i := 1) dX7_rowLength_20 rfl rfl ?_
    refine Ev.iload_n (i := 2) dX7_rowLength_21 rfl rfl ?_
    refine Ev.callV (ob := 260) (as := [zi (k : Int), zi gr, zi r]) (st := [zi (zsum (fun j => if rf h j 2 = gr ∧ rf h j 3 = r then h.2.1 263 j else 0) k)]) (s_isIn hR ⟨by omega, by omega⟩) dX7_rowLength_22 ok_X7_isIn (lk_X7_64 rfl) ⟨(Nat.le_of_ble_eq_true rfl), (Nat.le_of_ble_eq_true rfl)⟩ (zk_at hR.1 rfl) ⟨by decide, rfl⟩ rfl (Nat.le_of_ble_eq_true rfl) (Nat.le_of_ble_eq_true rfl) ⟨(Nat.le_of_ble_eq_true rfl), (Nat.le_of_ble_eq_true rfl)⟩ ?_
    by_cases hin : rf h k 2 = gr ∧ rf h k 3 = r
    · skip
      rw [if_pos hin] at ez ⊢
      refine Ev.if_eq (tgt := 38) dX7_rowLength_25 rfl (fun hc => absurd hc (by decide)) (fun hc => ?_)
      refine Ev.aload_n (i := 0) dX7_rowLength_28 rfl rfl ?_
      refine Ev.gR (r := (some 263)) dX7_rowLength_29 fl_X7_16 (zk_at hR.1 rfl) rfl hR.2.2.2.1 ?_
      refine Ev.iload dX7_rowLength_32 rfl ?_
      refine Ev.ia (x := (h).2.1 263 (k : Int)) dX7_rowLength_34 (zk_at hR.1 rfl) (by omega) (by omega) rfl ?_
      refine Ev.goto (tgt := 39) dX7_rowLength_35 rfl ?_
      refine Ev.iadd dX7_rowLength_39 ⟨by omega, by omega⟩ ?_
      refine Ev.istore_n (i := 3) (L' := [(3, zi ((zsum (fun j => if rf h j 2 = gr ∧ rf h j 3 = r then h.2.1 263 j else 0) k) + ((h).2.1 263 (k : Int)))), (0, zr (some 260)), (1, zi gr), (2, zi r), (4, zi (k : Int))]) dX7_rowLength_40 rfl (Nat.le_of_ble_eq_true rfl) rfl ?_
      refine Ev.iinc (L' := [(4, zi ((k : Int) + 1)), (3, zi ((zsum (fun j => if rf h j 2 = gr ∧ rf h j 3 = r then h.2.1 263 j else 0) k) + ((h).2.1 263 (k : Int)))), (0, zr (some 260)), (1, zi gr), (2, zi r)]) dX7_rowLength_41 rfl (Nat.le_of_ble_eq_true rfl) ⟨by omega, by omega⟩ rfl ?_
      refine Ev.goto (tgt := 5) dX7_rowLength_44 rfl ?_
      refine Ev.perm [2, 3, 4, 1, 0] rfl ?_
      have k9 := ih (k + 1) (by omega) (by omega)
      rw [ez] at k9
      exact k9
    · skip
      rw [if_neg hin] at ez ⊢
      refine Ev.if_eq (tgt := 38) dX7_rowLength_25 rfl (fun hc => ?_) (fun hc => absurd rfl hc)
      refine Ev.iconst dX7_rowLength_38 ?_
      refine Ev.iadd dX7_rowLength_39 ⟨by omega, by omega⟩ ?_
      refine Ev.istore_n (i := 3) (L' := [(3, zi ((zsum (fun j => if rf h j 2 = gr ∧ rf h j 3 = r then h.2.1 263 j else 0) k) + 0)), (0, zr (some 260)), (1, zi gr), (2, zi r), (4, zi (k : Int))]) dX7_rowLength_40 rfl (Nat.le_of_ble_eq_true rfl) rfl ?_
      refine Ev.iinc (L' := [(4, zi ((k : Int) + 1)), (3, zi ((zsum (fun j => if rf h j 2 = gr ∧ rf h j 3 = r then h.2.1 263 j else 0) k) + 0)), (0, zr (some 260)), (1, zi gr), (2, zi r)]) dX7_rowLength_41 rfl (Nat.le_of_ble_eq_true rfl) ⟨by omega, by omega⟩ rfl ?_
      refine Ev.goto (tgt := 5) dX7_rowLength_44 rfl ?_
      refine Ev.perm [2, 3, 4, 1, 0] rfl ?_
      have k9 := ih (k + 1) (by omega) (by omega)
      rw [ez] at k9
      exact k9
theorem s_rowLength {h : zH} (hR : zRM h) {n : Nat} {gr r : Int} (hn : h.2.1 261 0 = n) (hn24 : n ≤ 24) (hs : ∀ m : Nat, m ≤ n → -1000000000 ≤ zsum (fun j => if rf h j 2 = gr ∧ rf h j 3 = r then h.2.1 263 j else 0) m ∧ zsum (fun j => if rf h j 2 = gr ∧ rf h j 3 = r then h.2.1 263 j else 0) m ≤ 1000000000) : Ev M_X7_rowLength 0 [(0, zr (some 260)), (1, zi gr), (2, zi r)] [] h (0, 0) (.inl (some (zi (zsum (fun j => if rf h j 2 = gr ∧ rf h j 3 = r then h.2.1 263 j else 0) n))), h) := by
  refine Ev.iconst dX7_rowLength_0 ?_
  refine Ev.istore_n (i := 3) (L' := [(3, zi 0), (0, zr (some 260)), (1, zi gr), (2, zi r)]) dX7_rowLength_1 rfl (Nat.le_of_ble_eq_true rfl) rfl ?_
  refine Ev.iconst dX7_rowLength_2 ?_
  refine Ev.istore (i := 4) (L' := [(4, zi 0), (3, zi 0), (0, zr (some 260)), (1, zi gr), (2, zi r)]) dX7_rowLength_3 (Nat.le_of_ble_eq_true rfl) rfl ?_
  refine Ev.perm [2, 3, 4, 1, 0] rfl ?_
  exact s_rowLength_loop hR hn hn24 hs n 0 (by omega) (by omega)
theorem s_childrenOf_loop {h : zH} (hR : zRM h) {n : Nat} {gr r : Int} (hn : h.2.1 261 0 = n) (hn24 : n ≤ 24) (hs : ∀ m : Nat, m ≤ n → -1000000000 ≤ zsum (fun j => if rf h j 2 = gr ∧ rf h j 3 = r then 1 else 0) m ∧ zsum (fun j => if rf h j 2 = gr ∧ rf h j 3 = r then 1 else 0) m ≤ 1000000000) : ∀ (j k : Nat), k ≤ n → n - k = j → Ev M_X7_childrenOf 5 [(0, zr (some 260)), (1, zi gr), (2, zi r), (3, zi (zsum (fun j => if rf h j 2 = gr ∧ rf h j 3 = r then 1 else 0) k)), (4, zi (k : Int))] [] h (0, 0) (.inl (some (zi (zsum (fun j => if rf h j 2 = gr ∧ rf h j 3 = r then 1 else 0) n))), h) := by
  intro j
  induction j with
  | zero =>
    intro k hk hj
    have hkn : k = n := by omega
    subst hkn
    refine Ev.iload dX7_childrenOf_5 rfl ?_
    refine Ev.aload_n (i := 0) dX7_childrenOf_7 rfl rfl ?_
    refine Ev.gR (r := (some 261)) dX7_childrenOf_8 fl_X7_7 (zk_at hR.1 rfl) rfl hR.2.1 ?_
    refine Ev.iconst dX7_childrenOf_11 ?_
    refine Ev.ia (x := k) dX7_childrenOf_12 (zk_at hR.1 rfl) (by omega) (by omega) hn ?_
    refine Ev.icmp_ge (tgt := 41) dX7_childrenOf_13 rfl (fun hc => ?_) (fun hc => absurd hc (by omega))
    refine Ev.iload_n (i := 3) dX7_childrenOf_41 rfl rfl ?_
    exact Ev.iret dX7_childrenOf_42 rfl ⟨(Nat.le_of_ble_eq_true rfl), (Nat.le_of_ble_eq_true rfl)⟩
  | succ j ih =>
    intro k hk hj
    refine Ev.iload dX7_childrenOf_5 rfl ?_
    refine Ev.aload_n (i := 0) dX7_childrenOf_7 rfl rfl ?_
    refine Ev.gR (r := (some 261)) dX7_childrenOf_8 fl_X7_7 (zk_at hR.1 rfl) rfl hR.2.1 ?_
    refine Ev.iconst dX7_childrenOf_11 ?_
    refine Ev.ia (x := n) dX7_childrenOf_12 (zk_at hR.1 rfl) (by omega) (by omega) hn ?_
    refine Ev.icmp_ge (tgt := 41) dX7_childrenOf_13 rfl (fun hc => absurd hc (by omega)) (fun hc => ?_)
    have hs1 := hs k (by omega)
    have hs2 := hs (k + 1) (by omega)
    have ez : zsum (fun j => if rf h j 2 = gr ∧ rf h j 3 = r then 1 else 0) (k + 1) = zsum (fun j => if rf h j 2 = gr ∧ rf h j 3 = r then 1 else 0) k + (if rf h k 2 = gr ∧ rf h k 3 = r then 1 else 0) := rfl
    refine Ev.iload_n (i := 3) dX7_childrenOf_16 rfl rfl ?_
    refine Ev.aload_n (i := 0) dX7_childrenOf_17 rfl rfl ?_
    refine Ev.iload dX7_childrenOf_18 rfl ?_
    refine Ev.iload_n (i := 1) dX7_childrenOf_20 rfl rfl ?_
    refine Ev.iload_n (i := 2) dX7_childrenOf_21 rfl rfl ?_
    refine Ev.callV (ob := 260) (as := [zi (k : Int), zi gr, zi r]) (st := [zi (zsum (fun j => if rf h j 2 = gr ∧ rf h j 3 = r then 1 else 0) k)]) (s_isIn hR ⟨by omega, by omega⟩) dX7_childrenOf_22 ok_X7_isIn (lk_X7_64 rfl) ⟨(Nat.le_of_ble_eq_true rfl), (Nat.le_of_ble_eq_true rfl)⟩ (zk_at hR.1 rfl) ⟨by decide, rfl⟩ rfl (Nat.le_of_ble_eq_true rfl) (Nat.le_of_ble_eq_true rfl) ⟨(Nat.le_of_ble_eq_true rfl), (Nat.le_of_ble_eq_true rfl)⟩ ?_
    by_cases hin : rf h k 2 = gr ∧ rf h k 3 = r
    · skip
      rw [if_pos hin] at ez ⊢
      refine Ev.if_eq (tgt := 32) dX7_childrenOf_25 rfl (fun hc => absurd hc (by decide)) (fun hc => ?_)
      refine Ev.iconst dX7_childrenOf_28 ?_
      refine Ev.goto (tgt := 33) dX7_childrenOf_29 rfl ?_
      refine Ev.iadd dX7_childrenOf_33 ⟨by omega, by omega⟩ ?_
      refine Ev.istore_n (i := 3) (L' := [(3, zi ((zsum (fun j => if rf h j 2 = gr ∧ rf h j 3 = r then 1 else 0) k) + 1)), (0, zr (some 260)), (1, zi gr), (2, zi r), (4, zi (k : Int))]) dX7_childrenOf_34 rfl (Nat.le_of_ble_eq_true rfl) rfl ?_
      refine Ev.iinc (L' := [(4, zi ((k : Int) + 1)), (3, zi ((zsum (fun j => if rf h j 2 = gr ∧ rf h j 3 = r then 1 else 0) k) + 1)), (0, zr (some 260)), (1, zi gr), (2, zi r)]) dX7_childrenOf_35 rfl (Nat.le_of_ble_eq_true rfl) ⟨by omega, by omega⟩ rfl ?_
      refine Ev.goto (tgt := 5) dX7_childrenOf_38 rfl ?_
      refine Ev.perm [2, 3, 4, 1, 0] rfl ?_
      have k9 := ih (k + 1) (by omega) (by omega)
      rw [ez] at k9
      exact k9
    · skip
      rw [if_neg hin] at ez ⊢
      refine Ev.if_eq (tgt := 32) dX7_childrenOf_25 rfl (fun hc => ?_) (fun hc => absurd rfl hc)
      refine Ev.iconst dX7_childrenOf_32 ?_
      refine Ev.iadd dX7_childrenOf_33 ⟨by omega, by omega⟩ ?_
      refine Ev.istore_n (i := 3) (L' := [(3, zi ((zsum (fun j => if rf h j 2 = gr ∧ rf h j 3 = r then 1 else 0) k) + 0)), (0, zr (some 260)), (1, zi gr), (2, zi r), (4, zi (k : Int))]) dX7_childrenOf_34 rfl (Nat.le_of_ble_eq_true rfl) rfl ?_
      refine Ev.iinc (L' := [(4, zi ((k : Int) + 1)), (3, zi ((zsum (fun j => if rf h j 2 = gr ∧ rf h j 3 = r then 1 else 0) k) + 0)), (0, zr (some 260)), (1, zi gr), (2, zi r)]) dX7_childrenOf_35 rfl (Nat.le_of_ble_eq_true rfl) ⟨by omega, by omega⟩ rfl ?_
      refine Ev.goto (tgt := 5) dX7_childrenOf_38 rfl ?_
      refine Ev.perm [2, 3, 4, 1, 0] rfl ?_
      have k9 := ih (k + 1) (by omega) (by omega)
      rw [ez] at k9
      exact k9
theorem s_childrenOf {h : zH} (hR : zRM h) {n : Nat} {gr r : Int} (hn : h.2.1 261 0 = n) (hn24 : n ≤ 24) (hs : ∀ m : Nat, m ≤ n → -1000000000 ≤ zsum (fun j => if rf h j 2 = gr ∧ rf h j 3 = r then 1 else 0) m ∧ zsum (fun j => if rf h j 2 = gr ∧ rf h j 3 = r then 1 else 0) m ≤ 1000000000) : Ev M_X7_childrenOf 0 [(0, zr (some 260)), (1, zi gr), (2, zi r)] [] h (0, 0) (.inl (some (zi (zsum (fun j => if rf h j 2 = gr ∧ rf h j 3 = r then 1 else 0) n))), h) := by
  refine Ev.iconst dX7_childrenOf_0 ?_
  refine Ev.istore_n (i := 3) (L' := [(3, zi 0), (0, zr (some 260)), (1, zi gr), (2, zi r)]) dX7_childrenOf_1 rfl (Nat.le_of_ble_eq_true rfl) rfl ?_
  refine Ev.iconst dX7_childrenOf_2 ?_
  refine Ev.istore (i := 4) (L' := [(4, zi 0), (3, zi 0), (0, zr (some 260)), (1, zi gr), (2, zi r)]) dX7_childrenOf_3 (Nat.le_of_ble_eq_true rfl) rfl ?_
  refine Ev.perm [2, 3, 4, 1, 0] rfl ?_
  exact s_childrenOf_loop hR hn hn24 hs n 0 (by omega) (by omega)
end
section
/-! ===== sums ===== -/
theorem zsum_congr {g g' : Int → Int} : ∀ {m : Nat}, (∀ k : Nat, k < m → g k = g' k) → zsum g m = zsum g' m := by
  intro m
  induction m with
  | zero => intro _; rfl
  | succ m ih =>
    intro h
    show zsum g m + g m = zsum g' m + g' m
    rw [ih (fun k hk => h k (by omega)), h m (by omega)]
theorem zsum_le {g g' : Int → Int} : ∀ {m : Nat}, (∀ k : Nat, k < m → g k ≤ g' k) → zsum g m ≤ zsum g' m := by
  intro m
  induction m with
  | zero => intro _; exact Int.le_refl _
  | succ m ih =>
    intro h
    show zsum g m + g m ≤ zsum g' m + g' m
    have h1 := ih (fun k hk => h k (by omega))
    have h2 := h m (by omega)
    omega
theorem zsum_0 : ∀ (m : Nat), zsum (fun _ => 0) m = 0 := by
  intro m
  induction m with
  | zero => rfl
  | succ m ih =>
    show zsum (fun _ => 0) m + 0 = 0
    omega
theorem zsum_nn {g : Int → Int} {m : Nat} (h : ∀ k : Nat, k < m → 0 ≤ g k) : 0 ≤ zsum g m := by
  have h1 : zsum (fun _ => 0) m ≤ zsum g m := zsum_le h
  rw [zsum_0] at h1
  exact h1
theorem zsum_add (g g' : Int → Int) : ∀ (m : Nat), zsum (fun k => g k + g' k) m = zsum g m + zsum g' m := by
  intro m
  induction m with
  | zero => rfl
  | succ m ih =>
    show zsum (fun k => g k + g' k) m + (g m + g' m) = (zsum g m + g m) + (zsum g' m + g' m)
    omega
theorem zsum_up {g : Int → Int} {m n : Nat} (hmn : m ≤ n) (h : ∀ k : Nat, k < n → 0 ≤ g k) : zsum g m ≤ zsum g n := by
  induction n with
  | zero => have : m = 0 := by omega
            subst this; exact Int.le_refl _
  | succ n ih =>
    by_cases he : m = n + 1
    · subst he; exact Int.le_refl _
    · have h1 := ih (by omega) (fun k hk => h k (by omega))
      have h2 := h n (by omega)
      show zsum g m ≤ zsum g n + g n
      omega
theorem zsum_at {g : Int → Int} {n k : Nat} (hk : k < n) (h : ∀ j : Nat, j < n → 0 ≤ g j) : g k ≤ zsum g n := by
  have h1 := zsum_up (m := k + 1) (n := n) (by omega) h
  have h2 : zsum g (k + 1) = zsum g k + g k := rfl
  have h3 := zsum_nn (m := k) (fun j hj => h j (by omega))
  omega
theorem zsum_swap (g : Int → Int → Int) : ∀ (n m : Nat), zsum (fun i => zsum (fun j => g i j) m) n = zsum (fun j => zsum (fun i => g i j) n) m := by
  intro n
  induction n with
  | zero => intro m; exact (zsum_0 m).symm
  | succ n ih =>
    intro m
    show zsum (fun i => zsum (fun j => g i j) m) n + zsum (fun j => g n j) m = zsum (fun j => zsum (fun i => g i j) n + g n j) m
    rw [ih, zsum_add]
theorem zsum_none {g : Int → Int} {m : Nat} (h : ∀ k : Nat, k < m → g k = 0) : zsum g m = 0 := (zsum_congr h).trans (zsum_0 m)
theorem zsum_one {g : Int → Int} {m a : Nat} (ha : a < m) (h : ∀ k : Nat, k < m → k ≠ a → g k = 0) : zsum g m = g a := by
  induction m with
  | zero => omega
  | succ m ih =>
    show zsum g m + g m = g a
    by_cases he : a = m
    · subst he
      rw [zsum_none (fun k hk => h k (by omega) (by omega))]
      omega
    · rw [ih (by omega) (fun k hk hne => h k (by omega) hne), h m (by omega) (fun e => he e.symm)]
      omega
/-- at most one place counts -/
theorem zsum_most {g : Int → Int} {m : Nat} {v : Int} (hv : 0 ≤ v) (h0 : ∀ k : Nat, k < m → g k = 0 ∨ g k = v) (h1 : ∀ j k : Nat, j < m → k < m → g j ≠ 0 → g k ≠ 0 → j = k) : zsum g m ≤ v := by
  by_cases he : ∃ a : Nat, a < m ∧ g a ≠ 0
  · obtain ⟨a, ha, hga⟩ := he
    rw [zsum_one ha (fun k hk hne => Classical.byContradiction fun hg => hne (h1 k a hk ha hg hga))]
    rcases h0 a ha with e | e <;> omega
  · rw [zsum_none (fun k hk => Classical.byContradiction fun hg => he ⟨k, hk, hg⟩)]
    exact hv
/-! a bijection of the places keeps the sum -/
theorem zpig : ∀ (n m : Nat) (f : Nat → Nat), (∀ i, i < m → f i < n) → (∀ i j, i < m → j < m → f i = f j → i = j) → m ≤ n := by
  intro n
  induction n with
  | zero =>
    intro m f h _
    by_cases hm : m = 0
    · omega
    · exact absurd (h 0 (by omega)) (Nat.not_lt_zero _)
  | succ n ih =>
    intro m f h hi
    by_cases he : ∃ a, a < m ∧ f a = n
    · obtain ⟨a, ha, hfa⟩ := he
      have h2 := ih (m - 1) (fun i => if i < a then f i else f (i + 1)) ?_ ?_
      · omega
      · intro i hi2
        split
        · have h3 := h i (by omega)
          have h4 : f i ≠ n := fun e => by
            have := hi i a (by omega) ha (by omega)
            omega
          omega
        · have h3 := h (i + 1) (by omega)
          have h4 : f (i + 1) ≠ n := fun e => by
            have := hi (i + 1) a (by omega) ha (by omega)
            omega
          omega
      · intro i j hi2 hj2 e
        split at e <;> split at e
        · exact hi _ _ (by omega) (by omega) e
        · have := hi _ _ (by omega) (by omega) e; omega
        · have := hi _ _ (by omega) (by omega) e; omega
        · have := hi _ _ (by omega) (by omega) e; omega
    · have h2 := ih m f (fun i hi2 => by
        have h3 := h i hi2
        have h4 : f i ≠ n := fun e => he ⟨i, hi2, e⟩
        omega) hi
      omega
/-- an injection of a row of places into itself hits each of them -/
theorem zonto {n : Nat} {f : Nat → Nat} (h : ∀ i, i < n → f i < n) (hi : ∀ i j, i < n → j < n → f i = f j → i = j) : ∀ y, y < n → ∃ i, i < n ∧ f i = y := by
  intro y hy
  apply Classical.byContradiction
  intro hno
  have h1 := zpig n (n + 1) (fun i => if i < n then f i else y) (fun i hi2 => by
    split
    · exact h i (by assumption)
    · exact hy) (fun i j hi2 hj2 e => by
    split at e <;> split at e
    · exact hi _ _ (by assumption) (by assumption) e
    · exact absurd ⟨i, by assumption, e⟩ hno
    · exact absurd ⟨j, by assumption, e.symm⟩ hno
    · omega)
  omega
theorem zsum_bij {n : Nat} {f : Nat → Nat} (h : ∀ i, i < n → f i < n) (hi : ∀ i j, i < n → j < n → f i = f j → i = j) (g : Int → Int) : zsum (fun i => g (f i.toNat)) n = zsum g n := by
  have e1 : zsum (fun i => g (f i.toNat)) n = zsum (fun i => zsum (fun j => if (f i.toNat : Int) = j then g j else 0) n) n := by
    refine zsum_congr fun i hi2 => ?_
    have e2 := zsum_one (g := fun j => if (f i : Int) = j then g j else 0) (h i hi2) (fun k hk hne => if_neg (fun e => hne (by omega)))
    simp only [Int.toNat_natCast]
    rw [e2]
    simp
  rw [e1, zsum_swap]
  refine zsum_congr fun j hj => ?_
  obtain ⟨a, ha, hfa⟩ := zonto h hi j hj
  rw [zsum_one ha (fun k hk hne => if_neg (fun e => hne (hi k a hk ha (by simp at e; omega))))]
  simp [hfa]
/-! ===== the plan of a tree: nodes by their places 0 .. n - 1 in the order of their numbers; f k w: 0 number, 1 is a task, 2 group, 3 row, 4 place in the row, 5 duration, 6 reserve ===== -/
abbrev zF : Type := Int → Int → Int
def zmx (a v : Int) : Int := if a < v then v else a
theorem zmx_l (a v : Int) : a ≤ zmx a v := by unfold zmx; split <;> omega
theorem zmx_r (a v : Int) : v ≤ zmx a v := by unfold zmx; split <;> omega
theorem zmx_le {a v b : Int} (h1 : a ≤ b) (h2 : v ≤ b) : zmx a v ≤ b := by unfold zmx; split <;> assumption
/-- the length of a row, the greatest length of the rows of a group -/
def mrl (n : Nat) (f : zF) (len : Int → Int) (g r : Int) : Int := zsum (fun k => if f k 2 = g ∧ f k 3 = r then len k else 0) n
def mlg (n : Nat) (f : zF) (len : Int → Int) (g : Int) : Int := zmx (zmx (zmx (zmx 0 (mrl n f len g 0)) (mrl n f len g 1)) (mrl n f len g 2)) (mrl n f len g 3)
def mln (n : Nat) (f : zF) (len : Int → Int) (k : Int) : Int := if f k 1 = 1 then f k 5 + f k 6 else mlg n f len (f k 0)
/-- what stands ahead in the row -/
def mah (n : Nat) (f : zF) (len : Int → Int) (k : Int) : Int := zsum (fun o => if (f o 2 = f k 2 ∧ f o 3 = f k 3) ∧ f o 4 < f k 4 then len o else 0) n
def IsLen (n : Nat) (f : zF) (len : Int → Int) : Prop := ∀ k : Nat, k < n → len k = mln n f len k
def IsTm (n : Nat) (f : zF) (len st sl dp : Int → Int) : Prop := st 0 = 0 ∧ sl 0 = 0 ∧ dp 0 = 0 ∧ ∀ k p : Nat, 1 ≤ k → k < n → p < n → f k 2 = f p 0 → st k = st p + mah n f len k ∧ sl k = sl p + (len p - mrl n f len (f k 2) (f k 3)) ∧ dp k = dp p + 1
/-- a tree: the root first, numbers that rise, each other node in a group that is there, no circle -/
def WF (n : Nat) (f : zF) (dep : Nat → Nat) (B : Int) : Prop :=
  (1 ≤ n ∧ n ≤ 24) ∧ (f 0 0 = 0 ∧ f 0 1 = 0 ∧ f 0 2 = -1 ∧ f 0 3 = -1 ∧ f 0 4 = -1) ∧ (∀ i j : Nat, i < j → j < n → f i 0 < f j 0) ∧
  (∀ k : Nat, k < n → (f k 1 = 0 ∨ f k 1 = 1) ∧ (0 ≤ f k 5 ∧ f k 5 ≤ 60) ∧ (0 ≤ f k 6 ∧ f k 6 ≤ B) ∧ (f k 1 = 0 → f k 5 = 0 ∧ f k 6 = 0)) ∧
  (∀ k : Nat, 1 ≤ k → k < n → (0 ≤ f k 3 ∧ f k 3 ≤ 3) ∧ (0 ≤ f k 4 ∧ f k 4 < 24) ∧ ∃ p : Nat, p < n ∧ f k 2 = f p 0 ∧ f p 1 = 0 ∧ dep k = dep p + 1) ∧ dep 0 = 0
theorem WF.num_inj {n : Nat} {f : zF} {dep : Nat → Nat} {B : Int} (h : WF n f dep B) {i j : Nat} (hi : i < n) (hj : j < n) (e : f i 0 = f j 0) : i = j := by
  rcases Nat.lt_trichotomy i j with g | g | g
  · have := h.2.2.1 i j g hj; omega
  · exact g
  · have := h.2.2.1 j i g hi; omega
theorem WF.num_nn {n : Nat} {f : zF} {dep : Nat → Nat} {B : Int} (h : WF n f dep B) {i : Nat} (hi : i < n) : 0 ≤ f i 0 := by
  by_cases e : i = 0
  · subst e; have := h.2.1.1; simp at this ⊢; omega
  · have h1 := h.2.2.1 0 i (by omega) hi
    have h2 := h.2.1.1
    simp at h1
    omega
theorem WF.root2 {n : Nat} {f : zF} {dep : Nat → Nat} {B : Int} (h : WF n f dep B) {p : Nat} (hp : p < n) : f 0 2 ≠ f p 0 := by
  have h1 := h.num_nn hp
  have h2 := h.2.1.2.2.1
  omega
/-- if the children of each place of depth j + 1 and more agree, so does the place -/
theorem mln_congr {n : Nat} {f : zF} {dep : Nat → Nat} {B : Int} (h : WF n f dep B) {a b : Int → Int} {k : Nat} (hk : k < n) (hc : ∀ c : Nat, 1 ≤ c → c < n → f c 2 = f k 0 → a c = b c) : mln n f a k = mln n f b k := by
  have e : ∀ r, mrl n f a (f k 0) r = mrl n f b (f k 0) r := fun r => zsum_congr fun c hcn => by
    by_cases g : f c 2 = f k 0 ∧ f c 3 = r
    · rw [if_pos g, if_pos g]
      refine hc c ?_ hcn g.1
      rcases Nat.eq_zero_or_pos c with e0 | e0
      · subst e0; exact absurd g.1 (h.root2 hk)
      · exact e0
    · rw [if_neg g, if_neg g]
  unfold mln mlg
  rw [e 0, e 1, e 2, e 3]
theorem WF.dep_c {n : Nat} {f : zF} {dep : Nat → Nat} {B : Int} (h : WF n f dep B) {k c : Nat} (hk : k < n) (hc1 : 1 ≤ c) (hc : c < n) (e : f c 2 = f k 0) : dep c = dep k + 1 := by
  obtain ⟨-, -, p, hp, e1, -, e2⟩ := h.2.2.2.2.1 c hc1 hc
  have := h.num_inj hp hk (e1.symm.trans e)
  rw [e2, this]
def depMax (dep : Nat → Nat) : Nat → Nat
  | 0 => 0
  | m + 1 => max (depMax dep m) (dep m)
theorem depMax_le (dep : Nat → Nat) : ∀ {m k : Nat}, k < m → dep k ≤ depMax dep m := by
  intro m
  induction m with
  | zero => intro k hk; omega
  | succ m ih =>
    intro k hk
    show dep k ≤ max (depMax dep m) (dep m)
    by_cases e : k = m
    · subst e; exact Nat.le_max_right _ _
    · exact Nat.le_trans (ih (by omega)) (Nat.le_max_left _ _)
/-- from the leaves up -/
theorem WF.up {n : Nat} {f : zF} {dep : Nat → Nat} {B : Int} (h : WF n f dep B) {P : Nat → Prop} (hs : ∀ k : Nat, k < n → (∀ c : Nat, 1 ≤ c → c < n → f c 2 = f k 0 → P c) → P k) : ∀ k : Nat, k < n → P k := by
  have key : ∀ (F k : Nat), k < n → depMax dep n - dep k < F → P k := by
    intro F
    induction F with
    | zero => intro k _ hF; omega
    | succ F ih =>
      intro k hk hF
      refine hs k hk fun c hc1 hc e => ih c hc ?_
      have h1 := h.dep_c hk hc1 hc e
      have h2 := depMax_le dep hc
      omega
  intro k hk
  exact key (depMax dep n - dep k + 1) k hk (by omega)
/-- from the root down -/
theorem WF.down {n : Nat} {f : zF} {dep : Nat → Nat} {B : Int} (h : WF n f dep B) {P : Nat → Prop} (h0 : P 0) (hs : ∀ k p : Nat, 1 ≤ k → k < n → p < n → f k 2 = f p 0 → P p → P k) : ∀ k : Nat, k < n → P k := by
  have key : ∀ (F k : Nat), k < n → dep k < F → P k := by
    intro F
    induction F with
    | zero => intro k _ hF; omega
    | succ F ih =>
      intro k hk hF
      rcases Nat.eq_zero_or_pos k with e0 | e0
      · subst e0; exact h0
      · obtain ⟨-, -, p, hp, e1, -, e2⟩ := h.2.2.2.2.1 k e0 hk
        exact hs k p e0 hk hp e1 (ih p hp (by omega))
  intro k hk
  exact key (dep k + 1) k hk (by omega)
/-- one plan at the most -/
theorem IsLen.uniq {n : Nat} {f : zF} {dep : Nat → Nat} {B : Int} (h : WF n f dep B) {a b : Int → Int} (ha : IsLen n f a) (hb : IsLen n f b) : ∀ k : Nat, k < n → a k = b k :=
  h.up fun k hk hc => by rw [ha k hk, hb k hk]; exact mln_congr h hk hc
theorem mrl_congr {n : Nat} {f : zF} {a b : Int → Int} (hab : ∀ k : Nat, k < n → a k = b k) (g r : Int) : mrl n f a g r = mrl n f b g r := zsum_congr fun k hk => by rw [hab k hk]
theorem mah_congr {n : Nat} {f : zF} {a b : Int → Int} (hab : ∀ k : Nat, k < n → a k = b k) (k : Int) : mah n f a k = mah n f b k := zsum_congr fun o ho => by rw [hab o ho]
theorem IsTm.uniq {n : Nat} {f : zF} {dep : Nat → Nat} {B : Int} (h : WF n f dep B) {a b st sl dp st' sl' dp' : Int → Int} (hab : ∀ k : Nat, k < n → a k = b k) (h1 : IsTm n f a st sl dp) (h2 : IsTm n f b st' sl' dp') : ∀ k : Nat, k < n → st k = st' k ∧ sl k = sl' k ∧ dp k = dp' k := by
  refine h.down ⟨?_, ?_, ?_⟩ fun k p hk1 hk hp e ih => ?_
  · exact h1.1.trans h2.1.symm
  · exact h1.2.1.trans h2.2.1.symm
  · exact h1.2.2.1.trans h2.2.2.1.symm
  · obtain ⟨a1, a2, a3⟩ := h1.2.2.2 k p hk1 hk hp e
    obtain ⟨b1, b2, b3⟩ := h2.2.2.2 k p hk1 hk hp e
    rw [a1, a2, a3, b1, b2, b3, ih.1, ih.2.1, ih.2.2, mah_congr hab, mrl_congr hab, hab p hp]
    exact ⟨rfl, rfl, rfl⟩
/-- a plan there is -/
def lenF (n : Nat) (f : zF) : Nat → Int → Int
  | 0, _ => 0
  | F + 1, k => mln n f (lenF n f F) k
theorem lenF_st {n : Nat} {f : zF} {dep : Nat → Nat} {B : Int} (h : WF n f dep B) : ∀ (F k : Nat), k < n → depMax dep n - dep k < F → lenF n f F k = lenF n f (F + 1) k := by
  intro F
  induction F with
  | zero => intro k _ hF; omega
  | succ F ih =>
    intro k hk hF
    refine mln_congr h hk fun c hc1 hc e => ih c hc ?_
    have h1 := h.dep_c hk hc1 hc e
    have h2 := depMax_le dep hc
    omega
theorem lenF_ok {n : Nat} {f : zF} {dep : Nat → Nat} {B : Int} (h : WF n f dep B) : IsLen n f (lenF n f (depMax dep n + 1)) := fun k hk => by
  rw [lenF_st h _ k hk (by omega)]
  rfl
/-- something that grows from the group to the child by a given amount -/
def accF (n : Nat) (f : zF) (inc : Int → Int) : Nat → Int → Int
  | 0, _ => 0
  | F + 1, k => if k = 0 then 0 else accF n f inc F (zfnd (fun j => f j 0) (f k 2) n) + inc k
theorem WF.par {n : Nat} {f : zF} {dep : Nat → Nat} {B : Int} (h : WF n f dep B) {p : Nat} {x : Int} (hp : p < n) (e : f p 0 = x) : zfnd (fun j => f j 0) x n = p := zfnd_at hp e (fun j hj e2 => by
  have := h.2.2.1 j p hj hp
  have e3 : f j 0 = x := e2
  omega)
theorem accF_st {n : Nat} {f : zF} {dep : Nat → Nat} {B : Int} (h : WF n f dep B) (inc : Int → Int) : ∀ (F k : Nat), k < n → dep k < F → accF n f inc F k = accF n f inc (F + 1) k := by
  intro F
  induction F with
  | zero => intro k _ hF; omega
  | succ F ih =>
    intro k hk hF
    show (if (k : Int) = 0 then 0 else accF n f inc F (zfnd (fun j => f j 0) (f k 2) n) + inc k) = (if (k : Int) = 0 then 0 else accF n f inc (F + 1) (zfnd (fun j => f j 0) (f k 2) n) + inc k)
    by_cases e0 : (k : Int) = 0
    · rw [if_pos e0, if_pos e0]
    · rw [if_neg e0, if_neg e0]
      obtain ⟨-, -, p, hp, e1, -, e2⟩ := h.2.2.2.2.1 k (by omega) hk
      rw [h.par hp e1.symm, ih p hp (by omega)]
theorem acc_ok {n : Nat} {f : zF} {dep : Nat → Nat} {B : Int} (h : WF n f dep B) (inc : Int → Int) : ∃ a : Int → Int, a 0 = 0 ∧ ∀ k p : Nat, 1 ≤ k → k < n → p < n → f k 2 = f p 0 → a k = a p + inc k := by
  refine ⟨accF n f inc (depMax dep n + 1), rfl, fun k p hk1 hk hp e => ?_⟩
  have h1 := depMax_le dep hk
  rw [accF_st h inc _ k hk (by omega)]
  show (if (k : Int) = 0 then 0 else accF n f inc (depMax dep n + 1) (zfnd (fun j => f j 0) (f k 2) n) + inc k) = _
  rw [if_neg (by omega), h.par hp e.symm]
/-! bounds -/
def mtot (n : Nat) (f : zF) : Int := zsum (fun k => f k 5 + f k 6) n
def wgtF (n : Nat) (f : zF) : Nat → Int → Int
  | 0, _ => 0
  | F + 1, k => (f k 5 + f k 6) + zsum (fun c => if f c 2 = f k 0 then wgtF n f F c else 0) n
theorem wgtF_nn {n : Nat} {f : zF} {dep : Nat → Nat} {B : Int} (h : WF n f dep B) : ∀ (F k : Nat), k < n → 0 ≤ wgtF n f F k := by
  intro F
  induction F with
  | zero => intro k _; exact Int.le_refl _
  | succ F ih =>
    intro k hk
    have h1 := h.2.2.2.1 k hk
    have h2 : 0 ≤ zsum (fun c => if f c 2 = f k 0 then wgtF n f F c else 0) n := zsum_nn fun c hc => by
      split
      · exact ih c hc
      · exact Int.le_refl _
    show 0 ≤ (f k 5 + f k 6) + zsum (fun c => if f c 2 = f k 0 then wgtF n f F c else 0) n
    omega
theorem wgtF_lvl {n : Nat} {f : zF} {dep : Nat → Nat} {B : Int} (h : WF n f dep B) : ∀ (F j : Nat), zsum (fun k => if dep k.toNat = j then wgtF n f F k else 0) n ≤ zsum (fun k => if j ≤ dep k.toNat then f k 5 + f k 6 else 0) n := by
  intro F
  induction F with
  | zero =>
    intro j
    refine zsum_le fun k hk => ?_
    have h1 := h.2.2.2.1 k hk
    have e : wgtF n f 0 k = 0 := rfl
    rw [e]
    split <;> split <;> omega
  | succ F ih =>
    intro j
    have e1 : zsum (fun k => if dep k.toNat = j then wgtF n f (F + 1) k else 0) n = zsum (fun k => if dep k.toNat = j then f k 5 + f k 6 else 0) n + zsum (fun k => zsum (fun c => if dep k.toNat = j ∧ f c 2 = f k 0 then wgtF n f F c else 0) n) n := by
      rw [← zsum_add]
      refine zsum_congr fun k hk => ?_
      by_cases hj : dep (k : Int).toNat = j
      · rw [if_pos hj, if_pos hj]
        show (f k 5 + f k 6) + _ = _
        congr 1
        refine zsum_congr fun c hc => ?_
        by_cases e : f c 2 = f k 0
        · rw [if_pos e, if_pos ⟨hj, e⟩]
        · rw [if_neg e, if_neg (fun g => e g.2)]
      · rw [if_neg hj, if_neg hj, zsum_none (fun c hc => if_neg (fun g => hj g.1))]
        rfl
    have e2 : zsum (fun k => zsum (fun c => if dep k.toNat = j ∧ f c 2 = f k 0 then wgtF n f F c else 0) n) n ≤ zsum (fun c => if dep c.toNat = j + 1 then wgtF n f F c else 0) n := by
      rw [zsum_swap]
      refine zsum_le fun c hc => ?_
      have hw := wgtF_nn h F c hc
      by_cases hd : dep c = j + 1
      · rw [if_pos (by simpa using hd)]
        refine zsum_most hw (fun k hk => ?_) (fun a b ha hb ga gb => ?_)
        · split
          · exact Or.inr rfl
          · exact Or.inl rfl
        · have a1 : f c 2 = f a 0 := by
            apply Classical.byContradiction
            intro g
            exact ga (if_neg (fun q => g q.2))
          have b1 : f c 2 = f b 0 := by
            apply Classical.byContradiction
            intro g
            exact gb (if_neg (fun q => g q.2))
          exact h.num_inj ha hb (a1.symm.trans b1)
      · have hz : zsum (fun k => if dep k.toNat = j ∧ f c 2 = f k 0 then wgtF n f F c else 0) n = 0 := by
          refine zsum_none (fun k hk => if_neg (fun g => ?_))
          rcases Nat.eq_zero_or_pos c with e0 | e0
          · subst e0; exact h.root2 hk g.2
          · have := h.dep_c hk e0 hc g.2
            have h3 := g.1
            simp at h3
            omega
        rw [if_neg (by simpa using hd), hz]
        exact Int.le_refl _
    have e3 := ih (j + 1)
    have e4 : zsum (fun k => if j ≤ dep k.toNat then f k 5 + f k 6 else 0) n = zsum (fun k => if dep k.toNat = j then f k 5 + f k 6 else 0) n + zsum (fun k => if j + 1 ≤ dep k.toNat then f k 5 + f k 6 else 0) n := by
      rw [← zsum_add]
      refine zsum_congr fun k hk => ?_
      by_cases g1 : dep (k : Int).toNat = j
      · rw [if_pos (by omega), if_pos g1, if_neg (by omega)]; omega
      · by_cases g2 : j ≤ dep (k : Int).toNat
        · rw [if_pos g2, if_neg g1, if_pos (by omega)]; omega
        · rw [if_neg g2, if_neg g1, if_neg (by omega)]; omega
    rw [e1, e4]
    omega
theorem wgtF_tot {n : Nat} {f : zF} {dep : Nat → Nat} {B : Int} (h : WF n f dep B) (F k : Nat) (hk : k < n) : wgtF n f F k ≤ mtot n f := by
  have h1 := wgtF_lvl h F (dep k)
  have h2 : wgtF n f F k ≤ zsum (fun j => if dep j.toNat = dep k then wgtF n f F j else 0) n := by
    have h3 := zsum_at (g := fun j => if dep j.toNat = dep k then wgtF n f F j else 0) hk (fun j hj => by
      have := wgtF_nn h F j hj
      split <;> omega)
    simp at h3
    exact h3
  have h4 : zsum (fun j => if dep k ≤ dep j.toNat then f j 5 + f j 6 else 0) n ≤ mtot n f := zsum_le fun j hj => by
    have := h.2.2.2.1 j hj
    split <;> omega
  omega
theorem lenF_wgt {n : Nat} {f : zF} {dep : Nat → Nat} {B : Int} (h : WF n f dep B) : ∀ (F k : Nat), k < n → 0 ≤ lenF n f F k ∧ lenF n f F k ≤ wgtF n f F k := by
  intro F
  induction F with
  | zero => intro k _; exact ⟨Int.le_refl _, Int.le_refl _⟩
  | succ F ih =>
    intro k hk
    have h1 := h.2.2.2.1 k hk
    have hc : 0 ≤ zsum (fun c => if f c 2 = f k 0 then wgtF n f F c else 0) n := zsum_nn fun c hc => by
      split
      · exact wgtF_nn h F c hc
      · exact Int.le_refl _
    have hr : ∀ r, mrl n f (lenF n f F) (f k 0) r ≤ zsum (fun c => if f c 2 = f k 0 then wgtF n f F c else 0) n := fun r => zsum_le fun c hc => by
      have := ih c hc
      by_cases g : f c 2 = f k 0
      · rw [if_pos g]
        split <;> omega
      · rw [if_neg g, if_neg (fun q => g q.1)]
        exact Int.le_refl _
    show 0 ≤ mln n f (lenF n f F) k ∧ mln n f (lenF n f F) k ≤ (f k 5 + f k 6) + zsum (fun c => if f c 2 = f k 0 then wgtF n f F c else 0) n
    unfold mln
    split
    · omega
    · constructor
      · unfold mlg
        have a1 := zmx_l 0 (mrl n f (lenF n f F) (f k 0) 0)
        have a2 := zmx_l (zmx 0 (mrl n f (lenF n f F) (f k 0) 0)) (mrl n f (lenF n f F) (f k 0) 1)
        have a3 := zmx_l (zmx (zmx 0 (mrl n f (lenF n f F) (f k 0) 0)) (mrl n f (lenF n f F) (f k 0) 1)) (mrl n f (lenF n f F) (f k 0) 2)
        have a4 := zmx_l (zmx (zmx (zmx 0 (mrl n f (lenF n f F) (f k 0) 0)) (mrl n f (lenF n f F) (f k 0) 1)) (mrl n f (lenF n f F) (f k 0) 2)) (mrl n f (lenF n f F) (f k 0) 3)
        omega
      · have h3 : mlg n f (lenF n f F) (f k 0) ≤ zsum (fun c => if f c 2 = f k 0 then wgtF n f F c else 0) n := zmx_le (zmx_le (zmx_le (zmx_le hc (hr 0)) (hr 1)) (hr 2)) (hr 3)
        omega
theorem IsLen.bd {n : Nat} {f : zF} {dep : Nat → Nat} {B : Int} (h : WF n f dep B) {len : Int → Int} (hl : IsLen n f len) : ∀ k : Nat, k < n → 0 ≤ len k ∧ len k ≤ mtot n f := fun k hk => by
  rw [hl.uniq h (lenF_ok h) k hk]
  have h1 := lenF_wgt h (depMax dep n + 1) k hk
  have h2 := wgtF_tot h (depMax dep n + 1) k hk
  omega
theorem mtot_le {n : Nat} {f : zF} {dep : Nat → Nat} {B : Int} (h : WF n f dep B) : 0 ≤ mtot n f ∧ mtot n f ≤ 24 * (60 + B) := by
  constructor
  · exact zsum_nn fun k hk => by have := h.2.2.2.1 k hk; omega
  · have h1 : ∀ m : Nat, m ≤ n → zsum (fun k => f k 5 + f k 6) m ≤ m * (60 + B) := by
      intro m
      induction m with
      | zero => intro _; simp [zsum]
      | succ m ih =>
        intro hm
        have h2 := ih (by omega)
        have h3 := h.2.2.2.1 m (by omega)
        show zsum (fun k => f k 5 + f k 6) m + (f m 5 + f m 6) ≤ _
        have e : ((m + 1 : Nat) : Int) * (60 + B) = m * (60 + B) + (60 + B) := by
          rw [Int.natCast_add, Int.add_mul]
          simp
        omega
    have h2 := h1 n (Nat.le_refl _)
    have hB : 0 ≤ B := by
      have := h.2.2.2.1 0 (by have := h.1.1; omega)
      omega
    have h3 : (n : Int) * (60 + B) ≤ 24 * (60 + B) := Int.mul_le_mul_of_nonneg_right (by have := h.1.2; omega) (by omega)
    show zsum (fun k => f k 5 + f k 6) n ≤ _
    omega
theorem mrl_part {n : Nat} {f : zF} {dep : Nat → Nat} {B : Int} (h : WF n f dep B) {len : Int → Int} (hl : IsLen n f len) {p : Nat} (hp : p < n) (hg : f p 1 = 0) {r : Int} (hr : 0 ≤ r ∧ r ≤ 3) : mrl n f len (f p 0) r ≤ len p := by
  rw [hl p hp]
  unfold mln
  rw [if_neg (by omega)]
  unfold mlg
  have a1 := zmx_l 0 (mrl n f len (f p 0) 0)
  have b1 := zmx_r 0 (mrl n f len (f p 0) 0)
  have a2 := zmx_l (zmx 0 (mrl n f len (f p 0) 0)) (mrl n f len (f p 0) 1)
  have b2 := zmx_r (zmx 0 (mrl n f len (f p 0) 0)) (mrl n f len (f p 0) 1)
  have a3 := zmx_l (zmx (zmx 0 (mrl n f len (f p 0) 0)) (mrl n f len (f p 0) 1)) (mrl n f len (f p 0) 2)
  have b3 := zmx_r (zmx (zmx 0 (mrl n f len (f p 0) 0)) (mrl n f len (f p 0) 1)) (mrl n f len (f p 0) 2)
  have a4 := zmx_l (zmx (zmx (zmx 0 (mrl n f len (f p 0) 0)) (mrl n f len (f p 0) 1)) (mrl n f len (f p 0) 2)) (mrl n f len (f p 0) 3)
  have b4 := zmx_r (zmx (zmx (zmx 0 (mrl n f len (f p 0) 0)) (mrl n f len (f p 0) 1)) (mrl n f len (f p 0) 2)) (mrl n f len (f p 0) 3)
  rcases (show r = 0 ∨ r = 1 ∨ r = 2 ∨ r = 3 by omega) with e | e | e | e <;> subst e <;> omega
/-- any partial sum of lengths of a row, even of a row of no group -/
theorem mrl_bd {n : Nat} {f : zF} {dep : Nat → Nat} {B : Int} (h : WF n f dep B) {len : Int → Int} (hl : IsLen n f len) (g r : Int) : ∀ m : Nat, m ≤ n → 0 ≤ zsum (fun k => if f k 2 = g ∧ f k 3 = r then len k else 0) m ∧ zsum (fun k => if f k 2 = g ∧ f k 3 = r then len k else 0) m ≤ mtot n f := by
  have hnn : ∀ k : Nat, k < n → 0 ≤ (fun k => if f k 2 = g ∧ f k 3 = r then len k else 0) (k : Int) := fun k hk => by
    have := hl.bd h k hk
    show 0 ≤ (if f k 2 = g ∧ f k 3 = r then len k else 0)
    split <;> omega
  have htot : zsum (fun k => if f k 2 = g ∧ f k 3 = r then len k else 0) n ≤ mtot n f := by
    by_cases he : ∃ k : Nat, 1 ≤ k ∧ k < n ∧ f k 2 = g ∧ f k 3 = r
    · obtain ⟨k, hk1, hk, e1, e2⟩ := he
      obtain ⟨hr, -, p, hp, e3, hpg, -⟩ := h.2.2.2.2.1 k hk1 hk
      have h1 := mrl_part h hl hp hpg hr
      have h2 := (hl.bd h p hp).2
      rw [← e3, e1, e2] at h1
      exact Int.le_trans h1 h2
    · have hz : zsum (fun k => if f k 2 = g ∧ f k 3 = r then len k else 0) n ≤ len 0 := by
        have hn := h.1.1
        by_cases h0 : f 0 2 = g ∧ f 0 3 = r
        · rw [zsum_one (a := 0) (by omega) (fun k hk hne => if_neg (fun q => he ⟨k, by omega, hk, q⟩))]
          show (if f 0 2 = g ∧ f 0 3 = r then len 0 else 0) ≤ len 0
          rw [if_pos h0]
          exact Int.le_refl _
        · have hz0 : zsum (fun k => if f k 2 = g ∧ f k 3 = r then len k else 0) n = 0 := by
            refine zsum_none (fun k hk => if_neg (fun q => ?_))
            rcases Nat.eq_zero_or_pos k with e0 | e0
            · subst e0; exact h0 q
            · exact he ⟨k, e0, hk, q⟩
          rw [hz0]
          exact (hl.bd h 0 (by omega)).1
      have h2 := (hl.bd h 0 (by have := h.1.1; omega)).2
      exact Int.le_trans hz h2
  intro m hm
  have h1 := zsum_nn (g := fun k => if f k 2 = g ∧ f k 3 = r then len k else 0) (m := m) (fun k hk => hnn k (by omega))
  have h2 := zsum_up (g := fun k => if f k 2 = g ∧ f k 3 = r then len k else 0) hm hnn
  exact ⟨h1, by omega⟩
theorem mah_bd {n : Nat} {f : zF} {dep : Nat → Nat} {B : Int} (h : WF n f dep B) {len : Int → Int} (hl : IsLen n f len) {k : Nat} (hk : k < n) : ∀ m : Nat, m ≤ n → 0 ≤ zsum (fun o => if (f o 2 = f k 2 ∧ f o 3 = f k 3) ∧ f o 4 < f k 4 then len o else 0) m ∧ zsum (fun o => if (f o 2 = f k 2 ∧ f o 3 = f k 3) ∧ f o 4 < f k 4 then len o else 0) m ≤ mtot n f := by
  intro m hm
  have h1 := mrl_bd h hl (f k 2) (f k 3) m hm
  constructor
  · refine zsum_nn fun o ho => ?_
    have := hl.bd h o (by omega)
    split <;> omega
  · refine Int.le_trans (zsum_le (g' := fun o => if f o 2 = f k 2 ∧ f o 3 = f k 3 then len o else 0) fun o ho => ?_) h1.2
    have := hl.bd h o (by omega)
    by_cases g : f o 2 = f k 2 ∧ f o 3 = f k 3
    · rw [if_pos g]
      split <;> omega
    · rw [if_neg g, if_neg (fun q => g q.1)]
      exact Int.le_refl _
/-- what stands ahead, and the node itself, within its row -/
theorem mah_row {n : Nat} {f : zF} {dep : Nat → Nat} {B : Int} (h : WF n f dep B) {len : Int → Int} (hl : IsLen n f len) {k : Nat} (hk : k < n) : mah n f len k + len k ≤ mrl n f len (f k 2) (f k 3) := by
  have e1 : mah n f len k + len k = zsum (fun o => (if (f o 2 = f k 2 ∧ f o 3 = f k 3) ∧ f o 4 < f k 4 then len o else 0) + (if o = (k : Int) then len o else 0)) n := by
    rw [zsum_add, zsum_one (g := fun o => if o = (k : Int) then len o else 0) hk (fun j hj hne => if_neg (fun q => hne (by omega)))]
    simp [mah]
  rw [e1]
  refine zsum_le fun o ho => ?_
  have := hl.bd h o ho
  by_cases g0 : (o : Int) = k
  · have : o = k := by omega
    subst this
    rw [if_neg (by omega), if_pos rfl, if_pos ⟨rfl, rfl⟩]
    omega
  · rw [if_neg g0]
    by_cases g : f o 2 = f k 2 ∧ f o 3 = f k 3
    · rw [if_pos g]
      split <;> omega
    · rw [if_neg g, if_neg (fun q => g q.1)]
      omega
theorem IsTm.bd {n : Nat} {f : zF} {dep : Nat → Nat} {B : Int} (h : WF n f dep B) {len st sl dp : Int → Int} (hl : IsLen n f len) (ht : IsTm n f len st sl dp) : ∀ k : Nat, k < n → 0 ≤ st k ∧ 0 ≤ sl k ∧ 0 ≤ dp k ∧ st k + len k + sl k ≤ len 0 ∧ dp k = dep k := by
  have hn := h.1.1
  refine h.down ?_ fun k p hk1 hk hp e ih => ?_
  · have h1 := ht.1
    have h2 := ht.2.1
    have h3 := ht.2.2.1
    have h4 := h.2.2.2.2.2
    simp only [Int.natCast_zero] at *
    rw [h1, h2, h3, h4]
    simp
  · obtain ⟨a1, a2, a3⟩ := ht.2.2.2 k p hk1 hk hp e
    obtain ⟨hr, -, p', hp', e3, hpg, -⟩ := h.2.2.2.2.1 k hk1 hk
    have hpp := h.num_inj hp' hp (e3.symm.trans e)
    subst hpp
    have b1 := mrl_part h hl hp' hpg hr
    rw [← e3] at b1
    have b2 := mah_row h hl hk
    have b3 := (mah_bd h hl hk n (Nat.le_refl _)).1
    have b4 : mah n f len k = zsum (fun o => if (f o 2 = f k 2 ∧ f o 3 = f k 3) ∧ f o 4 < f k 4 then len o else 0) n := rfl
    have b5 := h.dep_c hp' hk1 hk e
    have b6 := hl.bd h k hk
    omega
theorem plan_ex {n : Nat} {f : zF} {dep : Nat → Nat} {B : Int} (h : WF n f dep B) : ∃ len st sl dp : Int → Int, IsLen n f len ∧ IsTm n f len st sl dp := by
  obtain ⟨st, s0, s1⟩ := acc_ok h (mah n f (lenF n f (depMax dep n + 1)))
  obtain ⟨sl, l0, l1⟩ := acc_ok h (fun k => lenF n f (depMax dep n + 1) (zfnd (fun j => f j 0) (f k 2) n) - mrl n f (lenF n f (depMax dep n + 1)) (f k 2) (f k 3))
  obtain ⟨dp, d0, d1⟩ := acc_ok h (fun _ => 1)
  refine ⟨_, st, sl, dp, lenF_ok h, s0, l0, d0, fun k p hk1 hk hp e => ⟨s1 k p hk1 hk hp e, ?_, d1 k p hk1 hk hp e⟩⟩
  rw [l1 k p hk1 hk hp e, h.par hp e.symm]
/-! ===== an order, groups ahead of their children: 'ord' lists 'many' places; those of the first i have all their children in it, place ord i those ahead of c ===== -/
def BInv (n : Nat) (ch : Nat → Nat → Prop) (ord : Nat → Nat) (i c many : Nat) : Prop :=
  (∀ j, j < many → ord j < n) ∧ (∀ a b, a < many → b < many → ord a = ord b → a = b) ∧ ord 0 = 0 ∧ 1 ≤ many ∧ (∀ j, 0 < j → j < many → 1 ≤ ord j) ∧
  (∀ x, 1 ≤ x → x < n → ((∃ j, j < many ∧ ord j = x) ↔ ((∃ a, a < i ∧ ch (ord a) x) ∨ (ch (ord i) x ∧ x < c)))) ∧ (∀ j, 0 < j → j < many → ∃ a, a < j ∧ a ≤ i ∧ ch (ord a) (ord j))
theorem BInv.le {n : Nat} {ch : Nat → Nat → Prop} {ord : Nat → Nat} {i c many : Nat} (h : BInv n ch ord i c many) : many ≤ n := zpig n many ord h.1 (fun a b ha hb e => h.2.1 a b ha hb e)
theorem BInv.start {n : Nat} {ch : Nat → Nat → Prop} (hn : 1 ≤ n) (hr : ∀ p, ¬ ch p 0) {ord : Nat → Nat} (h0 : ord 0 = 0) {c : Nat} (hc : c ≤ 1) : BInv n ch ord 0 c 1 := by
  refine ⟨fun j hj => ?_, fun a b ha hb _ => by omega, h0, Nat.le_refl _, fun j h1 h2 => by omega, fun x hx1 hx => ?_, fun j h1 h2 => by omega⟩
  · have : j = 0 := by omega
    subst this; omega
  · constructor
    · rintro ⟨j, hj, e⟩
      have : j = 0 := by omega
      subst this; omega
    · rintro (⟨a, ha, -⟩ | ⟨-, hx2⟩) <;> omega
theorem BInv.skip {n : Nat} {ch : Nat → Nat → Prop} {ord : Nat → Nat} {i c many : Nat} (h : BInv n ch ord i c many) (hc : ¬ ch (ord i) c) : BInv n ch ord i (c + 1) many := by
  obtain ⟨a1, a2, a3, a4, a5, a6, a7⟩ := h
  refine ⟨a1, a2, a3, a4, a5, fun x hx1 hx => (a6 x hx1 hx).trans ?_, a7⟩
  constructor
  · rintro (g | ⟨g1, g2⟩)
    · exact Or.inl g
    · exact Or.inr ⟨g1, by omega⟩
  · rintro (g | ⟨g1, g2⟩)
    · exact Or.inl g
    · refine Or.inr ⟨g1, ?_⟩
      by_cases e : x = c
      · subst e; exact absurd g1 hc
      · omega
/-- a child comes in at the end; the order is given by another function that agrees so far -/
theorem BInv.add {n : Nat} {ch : Nat → Nat → Prop} (hu : ∀ p q x, p < n → q < n → ch p x → ch q x → p = q) {ord ord' : Nat → Nat} {i c many : Nat} (h : BInv n ch ord i c many) (him : i < many) (hc1 : 1 ≤ c) (hc : c < n) (hch : ch (ord i) c) (hag : ∀ j, j < many → ord' j = ord j) (hnew : ord' many = c) : BInv n ch ord' i (c + 1) (many + 1) ∧ many < n := by
  obtain ⟨a1, a2, a3, a4, a5, a6, a7⟩ := h
  have hno : ∀ j, j < many → ord j ≠ c := by
    intro j hj e
    rcases (a6 c hc1 hc).mp ⟨j, hj, e⟩ with ⟨a, ha, hca⟩ | ⟨-, g⟩
    · have := a2 a i (by omega) him (hu _ _ c (a1 a (by omega)) (a1 i him) hca hch)
      omega
    · omega
  have hB : BInv n ch ord' i (c + 1) (many + 1) := by
    refine ⟨fun j hj => ?_, fun a b ha hb e => ?_, by rw [hag 0 (by omega)]; exact a3, by omega, fun j h1 h2 => ?_, fun x hx1 hx => ?_, fun j h1 h2 => ?_⟩
    · by_cases g : j = many
      · subst g; omega
      · rw [hag j (by omega)]; exact a1 j (by omega)
    · by_cases g1 : a = many <;> by_cases g2 : b = many
      · omega
      · rw [g1, hnew, hag b (by omega)] at e
        exact absurd e.symm (hno b (by omega))
      · rw [g2, hnew, hag a (by omega)] at e
        exact absurd e (hno a (by omega))
      · rw [hag a (by omega), hag b (by omega)] at e
        exact a2 a b (by omega) (by omega) e
    · by_cases g : j = many
      · subst g; omega
      · rw [hag j (by omega)]; exact a5 j h1 (by omega)
    · rw [hag i him]
      constructor
      · rintro ⟨j, hj, e⟩
        by_cases g : j = many
        · subst g
          rw [hnew] at e
          subst e
          exact Or.inr ⟨hch, by omega⟩
        · rw [hag j (by omega)] at e
          rcases (a6 x hx1 hx).mp ⟨j, by omega, e⟩ with ⟨a, ha, hca⟩ | ⟨g1, g2⟩
          · exact Or.inl ⟨a, ha, by rw [hag a (by omega)]; exact hca⟩
          · exact Or.inr ⟨g1, by omega⟩
      · rintro (⟨a, ha, hca⟩ | ⟨g1, g2⟩)
        · rw [hag a (by omega)] at hca
          obtain ⟨j, hj, e⟩ := (a6 x hx1 hx).mpr (Or.inl ⟨a, ha, hca⟩)
          exact ⟨j, by omega, by rw [hag j hj]; exact e⟩
        · by_cases e : x = c
          · subst e; exact ⟨many, by omega, hnew⟩
          · obtain ⟨j, hj, e⟩ := (a6 x hx1 hx).mpr (Or.inr ⟨g1, by omega⟩)
            exact ⟨j, by omega, by rw [hag j hj]; exact e⟩
    · by_cases g : j = many
      · subst g
        exact ⟨i, him, Nat.le_refl _, by rw [hag i him, hnew]; exact hch⟩
      · obtain ⟨a, ha, hai, hca⟩ := a7 j h1 (by omega)
        exact ⟨a, ha, hai, by rw [hag a (by omega), hag j (by omega)]; exact hca⟩
  have := hB.le
  exact ⟨hB, by omega⟩
theorem BInv.next {n : Nat} {ch : Nat → Nat → Prop} {ord : Nat → Nat} {i c many : Nat} (h : BInv n ch ord i c many) (hc : n ≤ c) {c0 : Nat} (hc0 : c0 ≤ 1) : BInv n ch ord (i + 1) c0 many := by
  obtain ⟨a1, a2, a3, a4, a5, a6, a7⟩ := h
  refine ⟨a1, a2, a3, a4, a5, fun x hx1 hx => (a6 x hx1 hx).trans ?_, fun j h1 h2 => ?_⟩
  · constructor
    · rintro (⟨a, ha, g⟩ | ⟨g1, g2⟩)
      · exact Or.inl ⟨a, by omega, g⟩
      · exact Or.inl ⟨i, by omega, g1⟩
    · rintro (⟨a, ha, g⟩ | ⟨g1, g2⟩)
      · by_cases e : a = i
        · subst e; exact Or.inr ⟨g, by omega⟩
        · exact Or.inl ⟨a, by omega, g⟩
      · omega
  · obtain ⟨a, g1, g2, g3⟩ := a7 j h1 h2
    exact ⟨a, g1, by omega, g3⟩
/-- at the end every place is there -/
theorem BInv.done {n : Nat} {ch : Nat → Nat → Prop} {ord : Nat → Nat} {many : Nat} {dep : Nat → Nat} (h : BInv n ch ord many 0 many) (hd : ∀ x, 1 ≤ x → x < n → ∃ p, p < n ∧ ch p x ∧ dep x = dep p + 1) : many = n ∧ ∀ x, x < n → ∃ j, j < many ∧ ord j = x := by
  have hall : ∀ (F x : Nat), x < n → dep x < F → ∃ j, j < many ∧ ord j = x := by
    intro F
    induction F with
    | zero => intro x _ hF; omega
    | succ F ih =>
      intro x hx hF
      rcases Nat.eq_zero_or_pos x with e0 | e0
      · subst e0; exact ⟨0, h.2.2.2.1, h.2.2.1⟩
      · obtain ⟨p, hp, hc, e⟩ := hd x e0 hx
        obtain ⟨j, hj, ej⟩ := ih p hp (by omega)
        exact (h.2.2.2.2.2.1 x e0 hx).mpr (Or.inl ⟨j, hj, by rw [ej]; exact hc⟩)
  have hall2 : ∀ x, x < n → ∃ j, j < many ∧ ord j = x := fun x hx => hall (dep x + 1) x hx (by omega)
  refine ⟨?_, hall2⟩
  have h1 := h.le
  have h2 : n ≤ many := by
    refine zpig many n (fun x => if hx : x < n then (hall2 x hx).choose else 0) (fun x hx => ?_) (fun a b ha hb e => ?_)
    · simp only [hx, dif_pos]
      exact (hall2 x hx).choose_spec.1
    · simp only [ha, hb, dif_pos] at e
      have e1 := (hall2 a ha).choose_spec.2
      have e2 := (hall2 b hb).choose_spec.2
      rw [e] at e1
      omega
  omega
end
