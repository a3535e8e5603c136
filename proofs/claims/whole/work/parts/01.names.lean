-- ===== PART A: goes FIRST, ahead of the names: the tables' words, and 'selects' of the private methods out of them =====
/-- a private method of a class that the tables say can be made, by its rows of tables_1 -/
def lw_okq (q : MethodName × Nat) : Prop := (q.1.cls ≠ "java/lang/invoke/MethodHandle" ∧ q.1.cls ≠ "java/lang/invoke/VarHandle") ∧ Cond.instantiable q.1.cls q.2 ∈ tables_1 ∧ Cond.privateMethod q.1 ∈ tables_1 ∧ Cond.instanceMethod q.1 ∈ tables_1
theorem lw_p0 : lw_okq (⟨"BridgeSentences$World", "sumOf", "(LBridgeSentences$One;I)I"⟩, 11) := ⟨⟨by decide +kernel, by decide +kernel⟩, List.mem_of_getElem? (i := 31) (by decide +kernel), List.mem_of_getElem? (i := 355) (by decide +kernel), List.mem_of_getElem? (i := 356) (by decide +kernel)⟩
theorem lw_p1 : lw_okq (⟨"BridgeSentences$Bridge", "holds", "(II[I)Z"⟩, 9) := ⟨⟨by decide +kernel, by decide +kernel⟩, List.mem_of_getElem? (i := 109) (by decide +kernel), List.mem_of_getElem? (i := 363) (by decide +kernel), List.mem_of_getElem? (i := 364) (by decide +kernel)⟩
theorem lw_p2 : lw_okq (⟨"BridgeSentences", "dearOf", "(LBridgeSentences$One;)I"⟩, 10) := ⟨⟨by decide +kernel, by decide +kernel⟩, List.mem_of_getElem? (i := 23) (by decide +kernel), List.mem_of_getElem? (i := 399) (by decide +kernel), List.mem_of_getElem? (i := 400) (by decide +kernel)⟩
theorem lw_p3 : lw_okq (⟨"BridgeSentences$World", "copyOne", "(LBridgeSentences$One;I)V"⟩, 11) := ⟨⟨by decide +kernel, by decide +kernel⟩, List.mem_of_getElem? (i := 31) (by decide +kernel), List.mem_of_getElem? (i := 410) (by decide +kernel), List.mem_of_getElem? (i := 411) (by decide +kernel)⟩
theorem lw_p4 : lw_okq (⟨"BridgeSentences", "hadSets", "(LBridgeSentences$One;)I"⟩, 10) := ⟨⟨by decide +kernel, by decide +kernel⟩, List.mem_of_getElem? (i := 23) (by decide +kernel), List.mem_of_getElem? (i := 442) (by decide +kernel), List.mem_of_getElem? (i := 443) (by decide +kernel)⟩
theorem lw_p5 : lw_okq (⟨"BridgeSentences$World", "beatenBy", "(LBridgeSentences$One;II)I"⟩, 11) := ⟨⟨by decide +kernel, by decide +kernel⟩, List.mem_of_getElem? (i := 31) (by decide +kernel), List.mem_of_getElem? (i := 465) (by decide +kernel), List.mem_of_getElem? (i := 466) (by decide +kernel)⟩
theorem lw_p6 : lw_okq (⟨"BridgeSentences", "leastHad", "(LBridgeSentences$One;)I"⟩, 10) := ⟨⟨by decide +kernel, by decide +kernel⟩, List.mem_of_getElem? (i := 23) (by decide +kernel), List.mem_of_getElem? (i := 469) (by decide +kernel), List.mem_of_getElem? (i := 470) (by decide +kernel)⟩
theorem lw_p7 : lw_okq (⟨"BridgeSentences$Bridge", "isClause", "()Z"⟩, 9) := ⟨⟨by decide +kernel, by decide +kernel⟩, List.mem_of_getElem? (i := 109) (by decide +kernel), List.mem_of_getElem? (i := 513) (by decide +kernel), List.mem_of_getElem? (i := 514) (by decide +kernel)⟩
theorem lw_p8 : lw_okq (⟨"BridgeSentences$Bridge", "isWord", "(Ljava/lang/String;)Z"⟩, 9) := ⟨⟨by decide +kernel, by decide +kernel⟩, List.mem_of_getElem? (i := 109) (by decide +kernel), List.mem_of_getElem? (i := 520) (by decide +kernel), List.mem_of_getElem? (i := 521) (by decide +kernel)⟩
theorem lw_p9 : lw_okq (⟨"BridgeSentences$Bridge", "isNext", "(C)Z"⟩, 9) := ⟨⟨by decide +kernel, by decide +kernel⟩, List.mem_of_getElem? (i := 109) (by decide +kernel), List.mem_of_getElem? (i := 572) (by decide +kernel), List.mem_of_getElem? (i := 573) (by decide +kernel)⟩
theorem lw_p10 : lw_okq (⟨"BridgeSentences$Bridge", "number", "()I"⟩, 9) := ⟨⟨by decide +kernel, by decide +kernel⟩, List.mem_of_getElem? (i := 109) (by decide +kernel), List.mem_of_getElem? (i := 576) (by decide +kernel), List.mem_of_getElem? (i := 577) (by decide +kernel)⟩
theorem lw_p11 : lw_okq (⟨"BridgeSentences$Bridge", "endClause", "(I)Z"⟩, 9) := ⟨⟨by decide +kernel, by decide +kernel⟩, List.mem_of_getElem? (i := 109) (by decide +kernel), List.mem_of_getElem? (i := 580) (by decide +kernel), List.mem_of_getElem? (i := 581) (by decide +kernel)⟩
theorem lw_p12 : lw_okq (⟨"BridgeSentences$Bridge", "isEither", "(I)Z"⟩, 9) := ⟨⟨by decide +kernel, by decide +kernel⟩, List.mem_of_getElem? (i := 109) (by decide +kernel), List.mem_of_getElem? (i := 584) (by decide +kernel), List.mem_of_getElem? (i := 585) (by decide +kernel)⟩
theorem lw_p13 : lw_okq (⟨"BridgeSentences$Bridge", "isBoth", "(I)Z"⟩, 9) := ⟨⟨by decide +kernel, by decide +kernel⟩, List.mem_of_getElem? (i := 109) (by decide +kernel), List.mem_of_getElem? (i := 588) (by decide +kernel), List.mem_of_getElem? (i := 589) (by decide +kernel)⟩
theorem lw_p14 : lw_okq (⟨"BridgeSentences$Bridge", "isFactor", "(I)Z"⟩, 9) := ⟨⟨by decide +kernel, by decide +kernel⟩, List.mem_of_getElem? (i := 109) (by decide +kernel), List.mem_of_getElem? (i := 592) (by decide +kernel), List.mem_of_getElem? (i := 593) (by decide +kernel)⟩
theorem lw_p15 : lw_okq (⟨"BridgeSentences$Bridge", "isTest", "()Z"⟩, 9) := ⟨⟨by decide +kernel, by decide +kernel⟩, List.mem_of_getElem? (i := 109) (by decide +kernel), List.mem_of_getElem? (i := 596) (by decide +kernel), List.mem_of_getElem? (i := 597) (by decide +kernel)⟩
def lw_privs_1 : List (MethodName × Nat) := [(⟨"BridgeSentences$World", "sumOf", "(LBridgeSentences$One;I)I"⟩, 11), (⟨"BridgeSentences$Bridge", "holds", "(II[I)Z"⟩, 9), (⟨"BridgeSentences", "dearOf", "(LBridgeSentences$One;)I"⟩, 10), (⟨"BridgeSentences$World", "copyOne", "(LBridgeSentences$One;I)V"⟩, 11), (⟨"BridgeSentences", "hadSets", "(LBridgeSentences$One;)I"⟩, 10), (⟨"BridgeSentences$World", "beatenBy", "(LBridgeSentences$One;II)I"⟩, 11), (⟨"BridgeSentences", "leastHad", "(LBridgeSentences$One;)I"⟩, 10), (⟨"BridgeSentences$Bridge", "isClause", "()Z"⟩, 9), (⟨"BridgeSentences$Bridge", "isWord", "(Ljava/lang/String;)Z"⟩, 9), (⟨"BridgeSentences$Bridge", "isNext", "(C)Z"⟩, 9), (⟨"BridgeSentences$Bridge", "number", "()I"⟩, 9), (⟨"BridgeSentences$Bridge", "endClause", "(I)Z"⟩, 9), (⟨"BridgeSentences$Bridge", "isEither", "(I)Z"⟩, 9), (⟨"BridgeSentences$Bridge", "isBoth", "(I)Z"⟩, 9), (⟨"BridgeSentences$Bridge", "isFactor", "(I)Z"⟩, 9), (⟨"BridgeSentences$Bridge", "isTest", "()Z"⟩, 9)]
theorem lw_r1 : ∀ q ∈ lw_privs_1, lw_okq q := List.forall_mem_cons.mpr ⟨lw_p0, List.forall_mem_cons.mpr ⟨lw_p1, List.forall_mem_cons.mpr ⟨lw_p2, List.forall_mem_cons.mpr ⟨lw_p3, List.forall_mem_cons.mpr ⟨lw_p4, List.forall_mem_cons.mpr ⟨lw_p5, List.forall_mem_cons.mpr ⟨lw_p6, List.forall_mem_cons.mpr ⟨lw_p7, List.forall_mem_cons.mpr ⟨lw_p8, List.forall_mem_cons.mpr ⟨lw_p9, List.forall_mem_cons.mpr ⟨lw_p10, List.forall_mem_cons.mpr ⟨lw_p11, List.forall_mem_cons.mpr ⟨lw_p12, List.forall_mem_cons.mpr ⟨lw_p13, List.forall_mem_cons.mpr ⟨lw_p14, List.forall_mem_cons.mpr ⟨lw_p15, fun _ h => absurd h List.not_mem_nil⟩⟩⟩⟩⟩⟩⟩⟩⟩⟩⟩⟩⟩⟩⟩⟩
theorem lw_p16 : lw_okq (⟨"BridgeSentences$Bridge", "isKept", "(I)Z"⟩, 9) := ⟨⟨by decide +kernel, by decide +kernel⟩, List.mem_of_getElem? (i := 109) (by decide +kernel), List.mem_of_getElem? (i := 657) (by decide +kernel), List.mem_of_getElem? (i := 658) (by decide +kernel)⟩
theorem lw_p17 : lw_okq (⟨"BridgeSentences", "comesOf", "(I)I"⟩, 10) := ⟨⟨by decide +kernel, by decide +kernel⟩, List.mem_of_getElem? (i := 23) (by decide +kernel), List.mem_of_getElem? (i := 673) (by decide +kernel), List.mem_of_getElem? (i := 674) (by decide +kernel)⟩
theorem lw_p18 : lw_okq (⟨"BridgeSentences$World", "goOne", "(LBridgeSentences$One;I)V"⟩, 11) := ⟨⟨by decide +kernel, by decide +kernel⟩, List.mem_of_getElem? (i := 31) (by decide +kernel), List.mem_of_getElem? (i := 682) (by decide +kernel), List.mem_of_getElem? (i := 683) (by decide +kernel)⟩
theorem lw_p19 : lw_okq (⟨"BridgeSentences", "worthsOf", "(I)I"⟩, 10) := ⟨⟨by decide +kernel, by decide +kernel⟩, List.mem_of_getElem? (i := 23) (by decide +kernel), List.mem_of_getElem? (i := 692) (by decide +kernel), List.mem_of_getElem? (i := 693) (by decide +kernel)⟩
theorem lw_p20 : lw_okq (⟨"BridgeSentences", "decoyOf", "(LBridgeSentences$One;I)I"⟩, 10) := ⟨⟨by decide +kernel, by decide +kernel⟩, List.mem_of_getElem? (i := 23) (by decide +kernel), List.mem_of_getElem? (i := 721) (by decide +kernel), List.mem_of_getElem? (i := 722) (by decide +kernel)⟩
theorem lw_p21 : lw_okq (⟨"BridgeSentences", "isSoWithV", "(II)Z"⟩, 10) := ⟨⟨by decide +kernel, by decide +kernel⟩, List.mem_of_getElem? (i := 23) (by decide +kernel), List.mem_of_getElem? (i := 741) (by decide +kernel), List.mem_of_getElem? (i := 742) (by decide +kernel)⟩
theorem lw_p22 : lw_okq (⟨"BridgeSentences", "goRow", "(II)V"⟩, 10) := ⟨⟨by decide +kernel, by decide +kernel⟩, List.mem_of_getElem? (i := 23) (by decide +kernel), List.mem_of_getElem? (i := 772) (by decide +kernel), List.mem_of_getElem? (i := 773) (by decide +kernel)⟩
theorem lw_p23 : lw_okq (⟨"BridgeSentencesModel", "change", "(III)I"⟩, 29) := ⟨⟨by decide +kernel, by decide +kernel⟩, List.mem_of_getElem? (i := 922) (by decide +kernel), List.mem_of_getElem? (i := 1038) (by decide +kernel), List.mem_of_getElem? (i := 1039) (by decide +kernel)⟩
theorem lw_p24 : lw_okq (⟨"BridgeSentencesModel", "number", "(II)I"⟩, 29) := ⟨⟨by decide +kernel, by decide +kernel⟩, List.mem_of_getElem? (i := 922) (by decide +kernel), List.mem_of_getElem? (i := 1042) (by decide +kernel), List.mem_of_getElem? (i := 1043) (by decide +kernel)⟩
theorem lw_p25 : lw_okq (⟨"BridgeSentencesModel", "isOne", "(I)Z"⟩, 29) := ⟨⟨by decide +kernel, by decide +kernel⟩, List.mem_of_getElem? (i := 922) (by decide +kernel), List.mem_of_getElem? (i := 1050) (by decide +kernel), List.mem_of_getElem? (i := 1051) (by decide +kernel)⟩
theorem lw_p26 : lw_okq (⟨"BridgeSentencesModel", "tip", "(I)I"⟩, 29) := ⟨⟨by decide +kernel, by decide +kernel⟩, List.mem_of_getElem? (i := 922) (by decide +kernel), List.mem_of_getElem? (i := 1054) (by decide +kernel), List.mem_of_getElem? (i := 1055) (by decide +kernel)⟩
theorem lw_p27 : lw_okq (⟨"BridgeSentencesModel", "tell", "(I)V"⟩, 29) := ⟨⟨by decide +kernel, by decide +kernel⟩, List.mem_of_getElem? (i := 922) (by decide +kernel), List.mem_of_getElem? (i := 1058) (by decide +kernel), List.mem_of_getElem? (i := 1059) (by decide +kernel)⟩
theorem lw_p28 : lw_okq (⟨"BridgeSentencesModel", "readFor", "(II)V"⟩, 29) := ⟨⟨by decide +kernel, by decide +kernel⟩, List.mem_of_getElem? (i := 922) (by decide +kernel), List.mem_of_getElem? (i := 1062) (by decide +kernel), List.mem_of_getElem? (i := 1063) (by decide +kernel)⟩
theorem lw_p29 : lw_okq (⟨"BridgeSentencesModel", "readAll", "()Z"⟩, 29) := ⟨⟨by decide +kernel, by decide +kernel⟩, List.mem_of_getElem? (i := 922) (by decide +kernel), List.mem_of_getElem? (i := 1066) (by decide +kernel), List.mem_of_getElem? (i := 1067) (by decide +kernel)⟩
theorem lw_p30 : lw_okq (⟨"BridgeSentencesModel", "clause", "()V"⟩, 29) := ⟨⟨by decide +kernel, by decide +kernel⟩, List.mem_of_getElem? (i := 922) (by decide +kernel), List.mem_of_getElem? (i := 1070) (by decide +kernel), List.mem_of_getElem? (i := 1071) (by decide +kernel)⟩
theorem lw_p31 : lw_okq (⟨"BridgeSentencesModel", "isAt", "(I)Z"⟩, 29) := ⟨⟨by decide +kernel, by decide +kernel⟩, List.mem_of_getElem? (i := 922) (by decide +kernel), List.mem_of_getElem? (i := 1074) (by decide +kernel), List.mem_of_getElem? (i := 1075) (by decide +kernel)⟩
def lw_privs_2 : List (MethodName × Nat) := [(⟨"BridgeSentences$Bridge", "isKept", "(I)Z"⟩, 9), (⟨"BridgeSentences", "comesOf", "(I)I"⟩, 10), (⟨"BridgeSentences$World", "goOne", "(LBridgeSentences$One;I)V"⟩, 11), (⟨"BridgeSentences", "worthsOf", "(I)I"⟩, 10), (⟨"BridgeSentences", "decoyOf", "(LBridgeSentences$One;I)I"⟩, 10), (⟨"BridgeSentences", "isSoWithV", "(II)Z"⟩, 10), (⟨"BridgeSentences", "goRow", "(II)V"⟩, 10), (⟨"BridgeSentencesModel", "change", "(III)I"⟩, 29), (⟨"BridgeSentencesModel", "number", "(II)I"⟩, 29), (⟨"BridgeSentencesModel", "isOne", "(I)Z"⟩, 29), (⟨"BridgeSentencesModel", "tip", "(I)I"⟩, 29), (⟨"BridgeSentencesModel", "tell", "(I)V"⟩, 29), (⟨"BridgeSentencesModel", "readFor", "(II)V"⟩, 29), (⟨"BridgeSentencesModel", "readAll", "()Z"⟩, 29), (⟨"BridgeSentencesModel", "clause", "()V"⟩, 29), (⟨"BridgeSentencesModel", "isAt", "(I)Z"⟩, 29)]
theorem lw_r2 : ∀ q ∈ lw_privs_2, lw_okq q := List.forall_mem_cons.mpr ⟨lw_p16, List.forall_mem_cons.mpr ⟨lw_p17, List.forall_mem_cons.mpr ⟨lw_p18, List.forall_mem_cons.mpr ⟨lw_p19, List.forall_mem_cons.mpr ⟨lw_p20, List.forall_mem_cons.mpr ⟨lw_p21, List.forall_mem_cons.mpr ⟨lw_p22, List.forall_mem_cons.mpr ⟨lw_p23, List.forall_mem_cons.mpr ⟨lw_p24, List.forall_mem_cons.mpr ⟨lw_p25, List.forall_mem_cons.mpr ⟨lw_p26, List.forall_mem_cons.mpr ⟨lw_p27, List.forall_mem_cons.mpr ⟨lw_p28, List.forall_mem_cons.mpr ⟨lw_p29, List.forall_mem_cons.mpr ⟨lw_p30, List.forall_mem_cons.mpr ⟨lw_p31, fun _ h => absurd h List.not_mem_nil⟩⟩⟩⟩⟩⟩⟩⟩⟩⟩⟩⟩⟩⟩⟩⟩
theorem lw_p32 : lw_okq (⟨"BridgeSentencesModel", "takes", "(I)V"⟩, 29) := ⟨⟨by decide +kernel, by decide +kernel⟩, List.mem_of_getElem? (i := 922) (by decide +kernel), List.mem_of_getElem? (i := 1078) (by decide +kernel), List.mem_of_getElem? (i := 1079) (by decide +kernel)⟩
theorem lw_p33 : lw_okq (⟨"BridgeSentencesModel", "number", "()I"⟩, 29) := ⟨⟨by decide +kernel, by decide +kernel⟩, List.mem_of_getElem? (i := 922) (by decide +kernel), List.mem_of_getElem? (i := 1082) (by decide +kernel), List.mem_of_getElem? (i := 1083) (by decide +kernel)⟩
theorem lw_p34 : lw_okq (⟨"BridgeSentencesModel", "isDigit", "()Z"⟩, 29) := ⟨⟨by decide +kernel, by decide +kernel⟩, List.mem_of_getElem? (i := 922) (by decide +kernel), List.mem_of_getElem? (i := 1086) (by decide +kernel), List.mem_of_getElem? (i := 1087) (by decide +kernel)⟩
theorem lw_p35 : lw_okq (⟨"BridgeSentencesModel", "any", "()Z"⟩, 29) := ⟨⟨by decide +kernel, by decide +kernel⟩, List.mem_of_getElem? (i := 922) (by decide +kernel), List.mem_of_getElem? (i := 1090) (by decide +kernel), List.mem_of_getElem? (i := 1091) (by decide +kernel)⟩
theorem lw_p36 : lw_okq (⟨"BridgeSentencesModel", "both", "()Z"⟩, 29) := ⟨⟨by decide +kernel, by decide +kernel⟩, List.mem_of_getElem? (i := 922) (by decide +kernel), List.mem_of_getElem? (i := 1094) (by decide +kernel), List.mem_of_getElem? (i := 1095) (by decide +kernel)⟩
theorem lw_p37 : lw_okq (⟨"BridgeSentencesModel", "factor", "()Z"⟩, 29) := ⟨⟨by decide +kernel, by decide +kernel⟩, List.mem_of_getElem? (i := 922) (by decide +kernel), List.mem_of_getElem? (i := 1098) (by decide +kernel), List.mem_of_getElem? (i := 1099) (by decide +kernel)⟩
theorem lw_p38 : lw_okq (⟨"BridgeSentencesModel", "test", "()Z"⟩, 29) := ⟨⟨by decide +kernel, by decide +kernel⟩, List.mem_of_getElem? (i := 922) (by decide +kernel), List.mem_of_getElem? (i := 1102) (by decide +kernel), List.mem_of_getElem? (i := 1103) (by decide +kernel)⟩
theorem lw_p39 : lw_okq (⟨"BridgeSentencesModel", "tipBy", "(II)I"⟩, 29) := ⟨⟨by decide +kernel, by decide +kernel⟩, List.mem_of_getElem? (i := 922) (by decide +kernel), List.mem_of_getElem? (i := 1106) (by decide +kernel), List.mem_of_getElem? (i := 1107) (by decide +kernel)⟩
theorem lw_p40 : lw_okq (⟨"BridgeSentencesModel", "urgeBy", "(IIII)I"⟩, 29) := ⟨⟨by decide +kernel, by decide +kernel⟩, List.mem_of_getElem? (i := 922) (by decide +kernel), List.mem_of_getElem? (i := 1110) (by decide +kernel), List.mem_of_getElem? (i := 1111) (by decide +kernel)⟩
theorem lw_p41 : lw_okq (⟨"BridgeSentencesModel", "dear", "(I)I"⟩, 29) := ⟨⟨by decide +kernel, by decide +kernel⟩, List.mem_of_getElem? (i := 922) (by decide +kernel), List.mem_of_getElem? (i := 1122) (by decide +kernel), List.mem_of_getElem? (i := 1123) (by decide +kernel)⟩
theorem lw_p42 : lw_okq (⟨"BridgeSentencesModel", "had", "(IZ)I"⟩, 29) := ⟨⟨by decide +kernel, by decide +kernel⟩, List.mem_of_getElem? (i := 922) (by decide +kernel), List.mem_of_getElem? (i := 1126) (by decide +kernel), List.mem_of_getElem? (i := 1127) (by decide +kernel)⟩
theorem lw_p43 : lw_okq (⟨"BridgeSentencesModel", "isSeen", "(II)Z"⟩, 29) := ⟨⟨by decide +kernel, by decide +kernel⟩, List.mem_of_getElem? (i := 922) (by decide +kernel), List.mem_of_getElem? (i := 1130) (by decide +kernel), List.mem_of_getElem? (i := 1131) (by decide +kernel)⟩
theorem lw_p44 : lw_okq (⟨"BridgeSentencesModel", "freeNow", "()I"⟩, 29) := ⟨⟨by decide +kernel, by decide +kernel⟩, List.mem_of_getElem? (i := 922) (by decide +kernel), List.mem_of_getElem? (i := 1169) (by decide +kernel), List.mem_of_getElem? (i := 1170) (by decide +kernel)⟩
theorem lw_p45 : lw_okq (⟨"BridgeSentencesModel", "beyond", "()I"⟩, 29) := ⟨⟨by decide +kernel, by decide +kernel⟩, List.mem_of_getElem? (i := 922) (by decide +kernel), List.mem_of_getElem? (i := 1173) (by decide +kernel), List.mem_of_getElem? (i := 1174) (by decide +kernel)⟩
theorem lw_p46 : lw_okq (⟨"BridgeSentencesModel", "comes", "(I)I"⟩, 29) := ⟨⟨by decide +kernel, by decide +kernel⟩, List.mem_of_getElem? (i := 922) (by decide +kernel), List.mem_of_getElem? (i := 1177) (by decide +kernel), List.mem_of_getElem? (i := 1178) (by decide +kernel)⟩
theorem lw_p47 : lw_okq (⟨"BridgeSentencesModel", "day", "()V"⟩, 29) := ⟨⟨by decide +kernel, by decide +kernel⟩, List.mem_of_getElem? (i := 922) (by decide +kernel), List.mem_of_getElem? (i := 1181) (by decide +kernel), List.mem_of_getElem? (i := 1182) (by decide +kernel)⟩
def lw_privs_3 : List (MethodName × Nat) := [(⟨"BridgeSentencesModel", "takes", "(I)V"⟩, 29), (⟨"BridgeSentencesModel", "number", "()I"⟩, 29), (⟨"BridgeSentencesModel", "isDigit", "()Z"⟩, 29), (⟨"BridgeSentencesModel", "any", "()Z"⟩, 29), (⟨"BridgeSentencesModel", "both", "()Z"⟩, 29), (⟨"BridgeSentencesModel", "factor", "()Z"⟩, 29), (⟨"BridgeSentencesModel", "test", "()Z"⟩, 29), (⟨"BridgeSentencesModel", "tipBy", "(II)I"⟩, 29), (⟨"BridgeSentencesModel", "urgeBy", "(IIII)I"⟩, 29), (⟨"BridgeSentencesModel", "dear", "(I)I"⟩, 29), (⟨"BridgeSentencesModel", "had", "(IZ)I"⟩, 29), (⟨"BridgeSentencesModel", "isSeen", "(II)Z"⟩, 29), (⟨"BridgeSentencesModel", "freeNow", "()I"⟩, 29), (⟨"BridgeSentencesModel", "beyond", "()I"⟩, 29), (⟨"BridgeSentencesModel", "comes", "(I)I"⟩, 29), (⟨"BridgeSentencesModel", "day", "()V"⟩, 29)]
theorem lw_r3 : ∀ q ∈ lw_privs_3, lw_okq q := List.forall_mem_cons.mpr ⟨lw_p32, List.forall_mem_cons.mpr ⟨lw_p33, List.forall_mem_cons.mpr ⟨lw_p34, List.forall_mem_cons.mpr ⟨lw_p35, List.forall_mem_cons.mpr ⟨lw_p36, List.forall_mem_cons.mpr ⟨lw_p37, List.forall_mem_cons.mpr ⟨lw_p38, List.forall_mem_cons.mpr ⟨lw_p39, List.forall_mem_cons.mpr ⟨lw_p40, List.forall_mem_cons.mpr ⟨lw_p41, List.forall_mem_cons.mpr ⟨lw_p42, List.forall_mem_cons.mpr ⟨lw_p43, List.forall_mem_cons.mpr ⟨lw_p44, List.forall_mem_cons.mpr ⟨lw_p45, List.forall_mem_cons.mpr ⟨lw_p46, List.forall_mem_cons.mpr ⟨lw_p47, fun _ h => absurd h List.not_mem_nil⟩⟩⟩⟩⟩⟩⟩⟩⟩⟩⟩⟩⟩⟩⟩⟩
theorem lw_p48 : lw_okq (⟨"BridgeSentencesModel", "goes", "(I)V"⟩, 29) := ⟨⟨by decide +kernel, by decide +kernel⟩, List.mem_of_getElem? (i := 922) (by decide +kernel), List.mem_of_getElem? (i := 1185) (by decide +kernel), List.mem_of_getElem? (i := 1186) (by decide +kernel)⟩
theorem lw_p49 : lw_okq (⟨"BridgeSentencesModel", "hears", "(I)V"⟩, 29) := ⟨⟨by decide +kernel, by decide +kernel⟩, List.mem_of_getElem? (i := 922) (by decide +kernel), List.mem_of_getElem? (i := 1189) (by decide +kernel), List.mem_of_getElem? (i := 1190) (by decide +kernel)⟩
theorem lw_p50 : lw_okq (⟨"BridgeSentencesModel", "worths", "(I)I"⟩, 29) := ⟨⟨by decide +kernel, by decide +kernel⟩, List.mem_of_getElem? (i := 922) (by decide +kernel), List.mem_of_getElem? (i := 1193) (by decide +kernel), List.mem_of_getElem? (i := 1194) (by decide +kernel)⟩
theorem lw_p51 : lw_okq (⟨"BridgeSentencesModel", "days", "(I)V"⟩, 29) := ⟨⟨by decide +kernel, by decide +kernel⟩, List.mem_of_getElem? (i := 922) (by decide +kernel), List.mem_of_getElem? (i := 1201) (by decide +kernel), List.mem_of_getElem? (i := 1202) (by decide +kernel)⟩
theorem lw_p52 : lw_okq (⟨"BridgeSentencesModel", "all", "(III)I"⟩, 29) := ⟨⟨by decide +kernel, by decide +kernel⟩, List.mem_of_getElem? (i := 922) (by decide +kernel), List.mem_of_getElem? (i := 1255) (by decide +kernel), List.mem_of_getElem? (i := 1256) (by decide +kernel)⟩
theorem lw_p53 : lw_okq (⟨"BridgeSentencesModel", "byKind", "(IIII)I"⟩, 29) := ⟨⟨by decide +kernel, by decide +kernel⟩, List.mem_of_getElem? (i := 922) (by decide +kernel), List.mem_of_getElem? (i := 1259) (by decide +kernel), List.mem_of_getElem? (i := 1260) (by decide +kernel)⟩
theorem lw_p54 : lw_okq (⟨"BridgeSentencesModel", "body", "(I)I"⟩, 29) := ⟨⟨by decide +kernel, by decide +kernel⟩, List.mem_of_getElem? (i := 922) (by decide +kernel), List.mem_of_getElem? (i := 1263) (by decide +kernel), List.mem_of_getElem? (i := 1264) (by decide +kernel)⟩
def lw_privs_4 : List (MethodName × Nat) := [(⟨"BridgeSentencesModel", "goes", "(I)V"⟩, 29), (⟨"BridgeSentencesModel", "hears", "(I)V"⟩, 29), (⟨"BridgeSentencesModel", "worths", "(I)I"⟩, 29), (⟨"BridgeSentencesModel", "days", "(I)V"⟩, 29), (⟨"BridgeSentencesModel", "all", "(III)I"⟩, 29), (⟨"BridgeSentencesModel", "byKind", "(IIII)I"⟩, 29), (⟨"BridgeSentencesModel", "body", "(I)I"⟩, 29)]
theorem lw_r4 : ∀ q ∈ lw_privs_4, lw_okq q := List.forall_mem_cons.mpr ⟨lw_p48, List.forall_mem_cons.mpr ⟨lw_p49, List.forall_mem_cons.mpr ⟨lw_p50, List.forall_mem_cons.mpr ⟨lw_p51, List.forall_mem_cons.mpr ⟨lw_p52, List.forall_mem_cons.mpr ⟨lw_p53, List.forall_mem_cons.mpr ⟨lw_p54, fun _ h => absurd h List.not_mem_nil⟩⟩⟩⟩⟩⟩⟩
def lw_privs : List (MethodName × Nat) := lw_privs_1 ++ (lw_privs_2 ++ (lw_privs_3 ++ (lw_privs_4)))
def lw_tbl : List Cond := k2_sels lw_privs ++ tables_1
theorem lw_privs_ok : ∀ q ∈ lw_privs, lw_okq q := by
  show ∀ q ∈ lw_privs_1 ++ (lw_privs_2 ++ (lw_privs_3 ++ (lw_privs_4))), lw_okq q
  exact List.forall_mem_append.mpr ⟨lw_r1, List.forall_mem_append.mpr ⟨lw_r2, List.forall_mem_append.mpr ⟨lw_r3, lw_r4⟩⟩⟩
def RX0 : String := "BridgeSentences$Bridge"
def TX0 : u_T := fun k => match k with
  | 0 => ("BridgeSentences$Bridge", "text", "[B", true)
  | 1 => ("BridgeSentences$Bridge", "length", "I", false)
  | 2 => ("BridgeSentences$Bridge", "at", "I", false)
  | 3 => ("BridgeSentences$Bridge", "code", "[I", true)
  | 4 => ("BridgeSentences$Bridge", "codeSize", "I", false)
  | 5 => ("BridgeSentences$Bridge", "weights", "[I", true)
  | 6 => ("BridgeSentences$Bridge", "codeEnds", "[I", true)
  | 7 => ("BridgeSentences$Bridge", "clauses", "I", false)
  | _ => ("BridgeSentences$Bridge", "free", "I", false)
def tyX0 : Nat → FieldType := fun k => match k with
  | 0 => .array .byte
  | 1 => .int
  | 2 => .int
  | 3 => .array .int
  | 4 => .int
  | 5 => .array .int
  | 6 => .array .int
  | 7 => .int
  | _ => .int
theorem nmX0 : ∀ a, a < 9 → ∀ b, b < 9 → a ≠ b → (TX0 a).2.1 ≠ (TX0 b).2.1 := by decide +kernel
theorem tyX0_ok : ∀ k, k < 9 → parseFieldDescriptor (TX0 k).2.2.1 = some (tyX0 k) := by decide +kernel
abbrev cX0_init : ByteArray := prog_2_method_1_code
def yX0_init : MethodName := ⟨RX0, "<init>", "()V"⟩
abbrev cX0_faultOfText : ByteArray := prog_2_method_2_code
def yX0_faultOfText : MethodName := ⟨RX0, "faultOfText", "()I"⟩
abbrev cX0_isClause : ByteArray := prog_2_method_3_code
def yX0_isClause : MethodName := ⟨RX0, "isClause", "()Z"⟩
abbrev cX0_endClause : ByteArray := prog_2_method_4_code
def yX0_endClause : MethodName := ⟨RX0, "endClause", "(I)Z"⟩
abbrev cX0_isEither : ByteArray := prog_2_method_5_code
def yX0_isEither : MethodName := ⟨RX0, "isEither", "(I)Z"⟩
abbrev cX0_isBoth : ByteArray := prog_2_method_6_code
def yX0_isBoth : MethodName := ⟨RX0, "isBoth", "(I)Z"⟩
abbrev cX0_isFactor : ByteArray := prog_2_method_7_code
def yX0_isFactor : MethodName := ⟨RX0, "isFactor", "(I)Z"⟩
abbrev cX0_isTest : ByteArray := prog_2_method_8_code
def yX0_isTest : MethodName := ⟨RX0, "isTest", "()Z"⟩
abbrev cX0_isKept : ByteArray := prog_2_method_9_code
def yX0_isKept : MethodName := ⟨RX0, "isKept", "(I)Z"⟩
abbrev cX0_isNext : ByteArray := prog_2_method_10_code
def yX0_isNext : MethodName := ⟨RX0, "isNext", "(C)Z"⟩
abbrev cX0_isWord : ByteArray := prog_2_method_11_code
def yX0_isWord : MethodName := ⟨RX0, "isWord", "(Ljava/lang/String;)Z"⟩
abbrev cX0_number : ByteArray := prog_2_method_12_code
def yX0_number : MethodName := ⟨RX0, "number", "()I"⟩
abbrev cX0_pressing : ByteArray := prog_2_method_13_code
def yX0_pressing : MethodName := ⟨RX0, "pressing", "([I)I"⟩
abbrev cX0_holds : ByteArray := prog_2_method_14_code
def yX0_holds : MethodName := ⟨RX0, "holds", "(II[I)Z"⟩
def RX1 : String := "BridgeSentences$Child"
def TX1 : u_T := fun k => match k with
  | 0 => ("BridgeSentences$One", "kind", "I", true)
  | 1 => ("BridgeSentences$One", "number", "I", true)
  | 2 => ("BridgeSentences$One", "v", "I", false)
  | 3 => ("BridgeSentences$One", "has", "I", false)
  | 4 => ("BridgeSentences$One", "isBeyond", "Z", false)
  | _ => ("BridgeSentences$One", "back", "I", false)
def tyX1 : Nat → FieldType := fun k => match k with
  | 0 => .int
  | 1 => .int
  | 2 => .int
  | 3 => .int
  | 4 => .boolean
  | _ => .int
theorem nmX1 : ∀ a, a < 6 → ∀ b, b < 6 → a ≠ b → (TX1 a).2.1 ≠ (TX1 b).2.1 := by decide +kernel
theorem tyX1_ok : ∀ k, k < 6 → parseFieldDescriptor (TX1 k).2.2.1 = some (tyX1 k) := by decide +kernel
abbrev cX1_init : ByteArray := prog_3_method_1_code
def yX1_init : MethodName := ⟨RX1, "<init>", "(II)V"⟩
abbrev cX1_urgeBy : ByteArray := prog_3_method_2_code
def yX1_urgeBy : MethodName := ⟨RX1, "urgeBy", "(III)I"⟩
abbrev cX1_tells : ByteArray := prog_3_method_3_code
def yX1_tells : MethodName := ⟨RX1, "tells", "(LBridgeSentences$Trace;I)I"⟩
def RX2 : String := "BridgeSentences$Clerk"
def TX2 : u_T := fun k => match k with
  | 0 => ("BridgeSentences$One", "kind", "I", true)
  | 1 => ("BridgeSentences$One", "number", "I", true)
  | 2 => ("BridgeSentences$One", "v", "I", false)
  | 3 => ("BridgeSentences$One", "has", "I", false)
  | 4 => ("BridgeSentences$One", "isBeyond", "Z", false)
  | _ => ("BridgeSentences$One", "back", "I", false)
def tyX2 : Nat → FieldType := fun k => match k with
  | 0 => .int
  | 1 => .int
  | 2 => .int
  | 3 => .int
  | 4 => .boolean
  | _ => .int
theorem nmX2 : ∀ a, a < 6 → ∀ b, b < 6 → a ≠ b → (TX2 a).2.1 ≠ (TX2 b).2.1 := by decide +kernel
theorem tyX2_ok : ∀ k, k < 6 → parseFieldDescriptor (TX2 k).2.2.1 = some (tyX2 k) := by decide +kernel
abbrev cX2_init : ByteArray := prog_4_method_1_code
def yX2_init : MethodName := ⟨RX2, "<init>", "(II)V"⟩
abbrev cX2_urgeBy : ByteArray := prog_4_method_2_code
def yX2_urgeBy : MethodName := ⟨RX2, "urgeBy", "(III)I"⟩
abbrev cX2_mutters : ByteArray := prog_4_method_3_code
def yX2_mutters : MethodName := ⟨RX2, "mutters", "(LBridgeSentences$Trace;I)I"⟩
def RX3 : String := "BridgeSentences$Lover"
def TX3 : u_T := fun k => match k with
  | 0 => ("BridgeSentences$One", "kind", "I", true)
  | 1 => ("BridgeSentences$One", "number", "I", true)
  | 2 => ("BridgeSentences$One", "v", "I", false)
  | 3 => ("BridgeSentences$One", "has", "I", false)
  | 4 => ("BridgeSentences$One", "isBeyond", "Z", false)
  | _ => ("BridgeSentences$One", "back", "I", false)
def tyX3 : Nat → FieldType := fun k => match k with
  | 0 => .int
  | 1 => .int
  | 2 => .int
  | 3 => .int
  | 4 => .boolean
  | _ => .int
theorem nmX3 : ∀ a, a < 6 → ∀ b, b < 6 → a ≠ b → (TX3 a).2.1 ≠ (TX3 b).2.1 := by decide +kernel
theorem tyX3_ok : ∀ k, k < 6 → parseFieldDescriptor (TX3 k).2.2.1 = some (tyX3 k) := by decide +kernel
abbrev cX3_init : ByteArray := prog_5_method_1_code
def yX3_init : MethodName := ⟨RX3, "<init>", "(II)V"⟩
abbrev cX3_urgeBy : ByteArray := prog_5_method_2_code
def yX3_urgeBy : MethodName := ⟨RX3, "urgeBy", "(III)I"⟩
abbrev cX3_tells : ByteArray := prog_5_method_3_code
def yX3_tells : MethodName := ⟨RX3, "tells", "(LBridgeSentences$Trace;I)I"⟩
def RX4 : String := "BridgeSentences$One"
def TX4 : u_T := fun k => match k with
  | 0 => ("BridgeSentences$One", "kind", "I", true)
  | 1 => ("BridgeSentences$One", "number", "I", true)
  | 2 => ("BridgeSentences$One", "v", "I", false)
  | 3 => ("BridgeSentences$One", "has", "I", false)
  | 4 => ("BridgeSentences$One", "isBeyond", "Z", false)
  | _ => ("BridgeSentences$One", "back", "I", false)
def tyX4 : Nat → FieldType := fun k => match k with
  | 0 => .int
  | 1 => .int
  | 2 => .int
  | 3 => .int
  | 4 => .boolean
  | _ => .int
theorem nmX4 : ∀ a, a < 6 → ∀ b, b < 6 → a ≠ b → (TX4 a).2.1 ≠ (TX4 b).2.1 := by decide +kernel
theorem tyX4_ok : ∀ k, k < 6 → parseFieldDescriptor (TX4 k).2.2.1 = some (tyX4 k) := by decide +kernel
abbrev cX4_init : ByteArray := prog_6_method_1_code
def yX4_init : MethodName := ⟨RX4, "<init>", "(II)V"⟩
abbrev cX4_becomeLike : ByteArray := prog_6_method_2_code
def yX4_becomeLike : MethodName := ⟨RX4, "becomeLike", "(LBridgeSentences$One;)V"⟩
abbrev cX4_urgeBy : ByteArray := prog_6_method_3_code
def yX4_urgeBy : MethodName := ⟨RX4, "urgeBy", "(III)I"⟩
abbrev cX4_mutters : ByteArray := prog_6_method_4_code
def yX4_mutters : MethodName := ⟨RX4, "mutters", "(LBridgeSentences$Trace;I)I"⟩
abbrev cX4_says : ByteArray := prog_6_method_5_code
def yX4_says : MethodName := ⟨RX4, "says", "(LBridgeSentences$Trace;I)I"⟩
abbrev cX4_tells : ByteArray := prog_6_method_6_code
def yX4_tells : MethodName := ⟨RX4, "tells", "(LBridgeSentences$Trace;I)I"⟩
def RX5 : String := "BridgeSentences$Orator"
def TX5 : u_T := fun k => match k with
  | 0 => ("BridgeSentences$One", "kind", "I", true)
  | 1 => ("BridgeSentences$One", "number", "I", true)
  | 2 => ("BridgeSentences$One", "v", "I", false)
  | 3 => ("BridgeSentences$One", "has", "I", false)
  | 4 => ("BridgeSentences$One", "isBeyond", "Z", false)
  | _ => ("BridgeSentences$One", "back", "I", false)
def tyX5 : Nat → FieldType := fun k => match k with
  | 0 => .int
  | 1 => .int
  | 2 => .int
  | 3 => .int
  | 4 => .boolean
  | _ => .int
theorem nmX5 : ∀ a, a < 6 → ∀ b, b < 6 → a ≠ b → (TX5 a).2.1 ≠ (TX5 b).2.1 := by decide +kernel
theorem tyX5_ok : ∀ k, k < 6 → parseFieldDescriptor (TX5 k).2.2.1 = some (tyX5 k) := by decide +kernel
abbrev cX5_init : ByteArray := prog_7_method_1_code
def yX5_init : MethodName := ⟨RX5, "<init>", "(II)V"⟩
abbrev cX5_urgeBy : ByteArray := prog_7_method_2_code
def yX5_urgeBy : MethodName := ⟨RX5, "urgeBy", "(III)I"⟩
abbrev cX5_mutters : ByteArray := prog_7_method_3_code
def yX5_mutters : MethodName := ⟨RX5, "mutters", "(LBridgeSentences$Trace;I)I"⟩
abbrev cX5_says : ByteArray := prog_7_method_4_code
def yX5_says : MethodName := ⟨RX5, "says", "(LBridgeSentences$Trace;I)I"⟩
def RX6 : String := "BridgeSentences$Poet"
def TX6 : u_T := fun k => match k with
  | 0 => ("BridgeSentences$One", "kind", "I", true)
  | 1 => ("BridgeSentences$One", "number", "I", true)
  | 2 => ("BridgeSentences$One", "v", "I", false)
  | 3 => ("BridgeSentences$One", "has", "I", false)
  | 4 => ("BridgeSentences$One", "isBeyond", "Z", false)
  | _ => ("BridgeSentences$One", "back", "I", false)
def tyX6 : Nat → FieldType := fun k => match k with
  | 0 => .int
  | 1 => .int
  | 2 => .int
  | 3 => .int
  | 4 => .boolean
  | _ => .int
theorem nmX6 : ∀ a, a < 6 → ∀ b, b < 6 → a ≠ b → (TX6 a).2.1 ≠ (TX6 b).2.1 := by decide +kernel
theorem tyX6_ok : ∀ k, k < 6 → parseFieldDescriptor (TX6 k).2.2.1 = some (tyX6 k) := by decide +kernel
abbrev cX6_init : ByteArray := prog_8_method_1_code
def yX6_init : MethodName := ⟨RX6, "<init>", "(II)V"⟩
abbrev cX6_urgeBy : ByteArray := prog_8_method_2_code
def yX6_urgeBy : MethodName := ⟨RX6, "urgeBy", "(III)I"⟩
abbrev cX6_says : ByteArray := prog_8_method_3_code
def yX6_says : MethodName := ⟨RX6, "says", "(LBridgeSentences$Trace;I)I"⟩
def RX7 : String := "BridgeSentences$Rows"
def TX7 : u_T := fun k => match k with
  | 0 => ("BridgeSentences$Rows", "first", "[I", true)
  | 1 => ("BridgeSentences$Rows", "second", "[I", true)
  | _ => ("BridgeSentences$Rows", "size", "I", false)
def tyX7 : Nat → FieldType := fun k => match k with
  | 0 => .array .int
  | 1 => .array .int
  | _ => .int
theorem nmX7 : ∀ a, a < 3 → ∀ b, b < 3 → a ≠ b → (TX7 a).2.1 ≠ (TX7 b).2.1 := by decide +kernel
theorem tyX7_ok : ∀ k, k < 3 → parseFieldDescriptor (TX7 k).2.2.1 = some (tyX7 k) := by decide +kernel
abbrev cX7_init : ByteArray := prog_9_method_1_code
def yX7_init : MethodName := ⟨RX7, "<init>", "(I)V"⟩
abbrev cX7_cleared : ByteArray := prog_9_method_2_code
def yX7_cleared : MethodName := ⟨RX7, "cleared", "()I"⟩
abbrev cX7_added : ByteArray := prog_9_method_3_code
def yX7_added : MethodName := ⟨RX7, "added", "(II)I"⟩
abbrev cX7_becomeLike : ByteArray := prog_9_method_4_code
def yX7_becomeLike : MethodName := ⟨RX7, "becomeLike", "(LBridgeSentences$Rows;)V"⟩
def RX8 : String := "BridgeSentences$Told"
def TX8 : u_T := fun k => match k with
  | 0 => ("BridgeSentences$One", "kind", "I", true)
  | 1 => ("BridgeSentences$One", "number", "I", true)
  | 2 => ("BridgeSentences$One", "v", "I", false)
  | 3 => ("BridgeSentences$One", "has", "I", false)
  | 4 => ("BridgeSentences$One", "isBeyond", "Z", false)
  | 5 => ("BridgeSentences$One", "back", "I", false)
  | _ => ("BridgeSentences$Told", "more", "[I", true)
def tyX8 : Nat → FieldType := fun k => match k with
  | 0 => .int
  | 1 => .int
  | 2 => .int
  | 3 => .int
  | 4 => .boolean
  | 5 => .int
  | _ => .array .int
theorem nmX8 : ∀ a, a < 7 → ∀ b, b < 7 → a ≠ b → (TX8 a).2.1 ≠ (TX8 b).2.1 := by decide +kernel
theorem tyX8_ok : ∀ k, k < 7 → parseFieldDescriptor (TX8 k).2.2.1 = some (tyX8 k) := by decide +kernel
abbrev cX8_init : ByteArray := prog_10_method_1_code
def yX8_init : MethodName := ⟨RX8, "<init>", "(II)V"⟩
abbrev cX8_becomeLike : ByteArray := prog_10_method_2_code
def yX8_becomeLike : MethodName := ⟨RX8, "becomeLike", "(LBridgeSentences$One;)V"⟩
abbrev cX8_urgeBy : ByteArray := prog_10_method_3_code
def yX8_urgeBy : MethodName := ⟨RX8, "urgeBy", "(III)I"⟩
abbrev cX8_says : ByteArray := prog_10_method_4_code
def yX8_says : MethodName := ⟨RX8, "says", "(LBridgeSentences$Trace;I)I"⟩
abbrev cX8_mutters : ByteArray := prog_10_method_5_code
def yX8_mutters : MethodName := ⟨RX8, "mutters", "(LBridgeSentences$Trace;I)I"⟩
def RX9 : String := "BridgeSentences$Trace"
def TX9 : u_T := fun k => match k with
  | 0 => ("BridgeSentences$Trace", "bodies", "[I", true)
  | _ => ("BridgeSentences$Trace", "ran", "I", false)
def tyX9 : Nat → FieldType := fun k => match k with
  | 0 => .array .int
  | _ => .int
theorem nmX9 : ∀ a, a < 2 → ∀ b, b < 2 → a ≠ b → (TX9 a).2.1 ≠ (TX9 b).2.1 := by decide +kernel
theorem tyX9_ok : ∀ k, k < 2 → parseFieldDescriptor (TX9 k).2.2.1 = some (tyX9 k) := by decide +kernel
abbrev cX9_init : ByteArray := prog_11_method_1_code
def yX9_init : MethodName := ⟨RX9, "<init>", "()V"⟩
abbrev cX9_began : ByteArray := prog_11_method_2_code
def yX9_began : MethodName := ⟨RX9, "began", "(I)V"⟩
def RX10 : String := "BridgeSentences$World"
def TX10 : u_T := fun k => match k with
  | 0 => ("BridgeSentences$World", "worths", "[I", true)
  | 1 => ("BridgeSentences$World", "people", "[LBridgeSentences$One;", true)
  | 2 => ("BridgeSentences$World", "count", "I", false)
  | 3 => ("BridgeSentences$World", "takenSet", "I", false)
  | 4 => ("BridgeSentences$World", "heardSet", "I", false)
  | 5 => ("BridgeSentences$World", "day", "I", false)
  | 6 => ("BridgeSentences$World", "seen", "LBridgeSentences$Rows;", true)
  | 7 => ("BridgeSentences$World", "planned", "LBridgeSentences$Rows;", true)
  | 8 => ("BridgeSentences$World", "booked", "LBridgeSentences$Rows;", true)
  | 9 => ("BridgeSentences$World", "held", "LBridgeSentences$Bridge;", false)
  | _ => ("BridgeSentences$World", "facts", "[I", true)
def tyX10 : Nat → FieldType := fun k => match k with
  | 0 => .array .int
  | 1 => .array (.object "BridgeSentences$One")
  | 2 => .int
  | 3 => .int
  | 4 => .int
  | 5 => .int
  | 6 => .object "BridgeSentences$Rows"
  | 7 => .object "BridgeSentences$Rows"
  | 8 => .object "BridgeSentences$Rows"
  | 9 => .object "BridgeSentences$Bridge"
  | _ => .array .int
theorem nmX10 : ∀ a, a < 11 → ∀ b, b < 11 → a ≠ b → (TX10 a).2.1 ≠ (TX10 b).2.1 := by decide +kernel
theorem tyX10_ok : ∀ k, k < 11 → parseFieldDescriptor (TX10 k).2.2.1 = some (tyX10 k) := by decide +kernel
abbrev cX10_init : ByteArray := prog_12_method_1_code
def yX10_init : MethodName := ⟨RX10, "<init>", "()V"⟩
abbrev cX10_becomeLike : ByteArray := prog_12_method_2_code
def yX10_becomeLike : MethodName := ⟨RX10, "becomeLike", "(LBridgeSentences$World;)V"⟩
abbrev cX10_copyOne : ByteArray := prog_12_method_3_code
def yX10_copyOne : MethodName := ⟨RX10, "copyOne", "(LBridgeSentences$One;I)V"⟩
abbrev cX10_personAt : ByteArray := prog_12_method_4_code
def yX10_personAt : MethodName := ⟨RX10, "personAt", "(I)LBridgeSentences$One;"⟩
abbrev cX10_freeNow : ByteArray := prog_12_method_5_code
def yX10_freeNow : MethodName := ⟨RX10, "freeNow", "()I"⟩
abbrev cX10_beyondSet : ByteArray := prog_12_method_6_code
def yX10_beyondSet : MethodName := ⟨RX10, "beyondSet", "()I"⟩
abbrev cX10_allBack : ByteArray := prog_12_method_7_code
def yX10_allBack : MethodName := ⟨RX10, "allBack", "()I"⟩
abbrev cX10_heardWorth : ByteArray := prog_12_method_8_code
def yX10_heardWorth : MethodName := ⟨RX10, "heardWorth", "()I"⟩
abbrev cX10_sumOf : ByteArray := prog_12_method_9_code
def yX10_sumOf : MethodName := ⟨RX10, "sumOf", "(LBridgeSentences$One;I)I"⟩
abbrev cX10_urgeFor : ByteArray := prog_12_method_10_code
def yX10_urgeFor : MethodName := ⟨RX10, "urgeFor", "(LBridgeSentences$One;II)I"⟩
abbrev cX10_tipOf : ByteArray := prog_12_method_11_code
def yX10_tipOf : MethodName := ⟨RX10, "tipOf", "(LBridgeSentences$One;I)I"⟩
abbrev cX10_goDays : ByteArray := prog_12_method_12_code
def yX10_goDays : MethodName := ⟨RX10, "goDays", "(II)V"⟩
abbrev cX10_goDay : ByteArray := prog_12_method_13_code
def yX10_goDay : MethodName := ⟨RX10, "goDay", "(I)V"⟩
abbrev cX10_goOne : ByteArray := prog_12_method_14_code
def yX10_goOne : MethodName := ⟨RX10, "goOne", "(LBridgeSentences$One;I)V"⟩
abbrev cX10_letGo : ByteArray := prog_12_method_15_code
def yX10_letGo : MethodName := ⟨RX10, "letGo", "(I)V"⟩
abbrev cX10_seenOf : ByteArray := prog_12_method_16_code
def yX10_seenOf : MethodName := ⟨RX10, "seenOf", "(I)I"⟩
abbrev cX10_isSeenSo : ByteArray := prog_12_method_17_code
def yX10_isSeenSo : MethodName := ⟨RX10, "isSeenSo", "()Z"⟩
abbrev cX10_setsWithTip : ByteArray := prog_12_method_18_code
def yX10_setsWithTip : MethodName := ⟨RX10, "setsWithTip", "(LBridgeSentences$One;I)I"⟩
abbrev cX10_setsWithoutTip : ByteArray := prog_12_method_19_code
def yX10_setsWithoutTip : MethodName := ⟨RX10, "setsWithoutTip", "(LBridgeSentences$One;)I"⟩
abbrev cX10_beatenBy : ByteArray := prog_12_method_20_code
def yX10_beatenBy : MethodName := ⟨RX10, "beatenBy", "(LBridgeSentences$One;II)I"⟩
def RX11 : String := "BridgeSentences"
def TX11 : u_T := fun k => match k with
  | 0 => ("BridgeSentences", "now", "LBridgeSentences$World;", true)
  | 1 => ("BridgeSentences", "trial", "LBridgeSentences$World;", true)
  | 2 => ("BridgeSentences", "kept", "LBridgeSentences$World;", true)
  | 3 => ("BridgeSentences", "isKept", "Z", false)
  | 4 => ("BridgeSentences", "next", "LBridgeSentences$Bridge;", false)
  | 5 => ("BridgeSentences", "bridges", "I", false)
  | 6 => ("BridgeSentences", "latest", "LBridgeSentences$Trace;", true)
  | 7 => ("BridgeSentences", "tapeSort", "[I", true)
  | 8 => ("BridgeSentences", "tapeSize", "[I", true)
  | _ => ("BridgeSentences", "tapeItems", "[[J", true)
def tyX11 : Nat → FieldType := fun k => match k with
  | 0 => .object "BridgeSentences$World"
  | 1 => .object "BridgeSentences$World"
  | 2 => .object "BridgeSentences$World"
  | 3 => .boolean
  | 4 => .object "BridgeSentences$Bridge"
  | 5 => .int
  | 6 => .object "BridgeSentences$Trace"
  | 7 => .array .int
  | 8 => .array .int
  | _ => .array (.array .long)
theorem nmX11 : ∀ a, a < 10 → ∀ b, b < 10 → a ≠ b → (TX11 a).2.1 ≠ (TX11 b).2.1 := by decide +kernel
theorem tyX11_ok : ∀ k, k < 10 → parseFieldDescriptor (TX11 k).2.2.1 = some (tyX11 k) := by decide +kernel
abbrev cX11_init : ByteArray := prog_1_method_1_code
def yX11_init : MethodName := ⟨RX11, "<init>", "()V"⟩
abbrev cX11_one : ByteArray := prog_1_method_2_code
def yX11_one : MethodName := ⟨RX11, "one", "(III)I"⟩
abbrev cX11_of : ByteArray := prog_1_method_3_code
def yX11_of : MethodName := ⟨RX11, "of", "(II)I"⟩
abbrev cX11_urge : ByteArray := prog_1_method_4_code
def yX11_urge : MethodName := ⟨RX11, "urge", "(II)I"⟩
abbrev cX11_learn : ByteArray := prog_1_method_5_code
def yX11_learn : MethodName := ⟨RX11, "learn", "(II)I"⟩
abbrev cX11_ford : ByteArray := prog_1_method_6_code
def yX11_ford : MethodName := ⟨RX11, "ford", "(IZ)I"⟩
abbrev cX11_worth : ByteArray := prog_1_method_7_code
def yX11_worth : MethodName := ⟨RX11, "worth", "(II)I"⟩
abbrev cX11_row : ByteArray := prog_1_method_8_code
def yX11_row : MethodName := ⟨RX11, "row", "(III)I"⟩
abbrev cX11_feed : ByteArray := prog_1_method_9_code
def yX11_feed : MethodName := ⟨RX11, "feed", "(I)I"⟩
abbrev cX11_bridge : ByteArray := prog_1_method_10_code
def yX11_bridge : MethodName := ⟨RX11, "bridge", "()I"⟩
abbrev cX11_told : ByteArray := prog_1_method_11_code
def yX11_told : MethodName := ⟨RX11, "told", "(I)I"⟩
abbrev cX11_pass : ByteArray := prog_1_method_12_code
def yX11_pass : MethodName := ⟨RX11, "pass", "(I)I"⟩
abbrev cX11_on : ByteArray := prog_1_method_13_code
def yX11_on : MethodName := ⟨RX11, "on", "(II)I"⟩
abbrev cX11_decoy : ByteArray := prog_1_method_14_code
def yX11_decoy : MethodName := ⟨RX11, "decoy", "(II)I"⟩
abbrev cX11_see : ByteArray := prog_1_method_15_code
def yX11_see : MethodName := ⟨RX11, "see", "(II)I"⟩
abbrev cX11_can : ByteArray := prog_1_method_16_code
def yX11_can : MethodName := ⟨RX11, "can", "(II)I"⟩
abbrev cX11_odds : ByteArray := prog_1_method_17_code
def yX11_odds : MethodName := ⟨RX11, "odds", "(II)J"⟩
abbrev cX11_mean : ByteArray := prog_1_method_18_code
def yX11_mean : MethodName := ⟨RX11, "mean", "(II)J"⟩
abbrev cX11_plan : ByteArray := prog_1_method_19_code
def yX11_plan : MethodName := ⟨RX11, "plan", "(II)I"⟩
abbrev cX11_ends : ByteArray := prog_1_method_20_code
def yX11_ends : MethodName := ⟨RX11, "ends", "(I)I"⟩
abbrev cX11_book : ByteArray := prog_1_method_21_code
def yX11_book : MethodName := ⟨RX11, "book", "(II)I"⟩
abbrev cX11_looked : ByteArray := prog_1_method_22_code
def yX11_looked : MethodName := ⟨RX11, "looked", "()I"⟩
abbrev cX11_judge : ByteArray := prog_1_method_23_code
def yX11_judge : MethodName := ⟨RX11, "judge", "(II)I"⟩
abbrev cX11_image : ByteArray := prog_1_method_24_code
def yX11_image : MethodName := ⟨RX11, "image", "()I"⟩
abbrev cX11_undo : ByteArray := prog_1_method_25_code
def yX11_undo : MethodName := ⟨RX11, "undo", "()I"⟩
abbrev cX11_act : ByteArray := prog_1_method_26_code
def yX11_act : MethodName := ⟨RX11, "act", "(III)I"⟩
abbrev cX11_trace : ByteArray := prog_1_method_27_code
def yX11_trace : MethodName := ⟨RX11, "trace", "(I)I"⟩
abbrev cX11_taken : ByteArray := prog_1_method_28_code
def yX11_taken : MethodName := ⟨RX11, "taken", "(II)I"⟩
abbrev cX11_count : ByteArray := prog_1_method_29_code
def yX11_count : MethodName := ⟨RX11, "count", "(I)I"⟩
abbrev cX11_tape : ByteArray := prog_1_method_30_code
def yX11_tape : MethodName := ⟨RX11, "tape", "(III)I"⟩
abbrev cX11_item : ByteArray := prog_1_method_31_code
def yX11_item : MethodName := ⟨RX11, "item", "(IIJ)I"⟩
abbrev cX11_read : ByteArray := prog_1_method_32_code
def yX11_read : MethodName := ⟨RX11, "read", "(II)J"⟩
abbrev cX11_shift : ByteArray := prog_1_method_33_code
def yX11_shift : MethodName := ⟨RX11, "shift", "(IIIII)I"⟩
abbrev cX11_isSentence : ByteArray := prog_1_method_34_code
def yX11_isSentence : MethodName := ⟨RX11, "isSentence", "(I)Z"⟩
abbrev cX11_isSet : ByteArray := prog_1_method_35_code
def yX11_isSet : MethodName := ⟨RX11, "isSet", "(I)Z"⟩
abbrev cX11_isWorth : ByteArray := prog_1_method_36_code
def yX11_isWorth : MethodName := ⟨RX11, "isWorth", "(I)Z"⟩
abbrev cX11_areDays : ByteArray := prog_1_method_37_code
def yX11_areDays : MethodName := ⟨RX11, "areDays", "(I)Z"⟩
abbrev cX11_isPart : ByteArray := prog_1_method_38_code
def yX11_isPart : MethodName := ⟨RX11, "isPart", "(I)Z"⟩
abbrev cX11_isTape : ByteArray := prog_1_method_39_code
def yX11_isTape : MethodName := ⟨RX11, "isTape", "(I)Z"⟩
abbrev cX11_orNotAny : ByteArray := prog_1_method_40_code
def yX11_orNotAny : MethodName := ⟨RX11, "orNotAny", "(I)I"⟩
abbrev cX11_isUnder : ByteArray := prog_1_method_41_code
def yX11_isUnder : MethodName := ⟨RX11, "isUnder", "(II)Z"⟩
abbrev cX11_asItem : ByteArray := prog_1_method_42_code
def yX11_asItem : MethodName := ⟨RX11, "asItem", "(IJ)J"⟩
abbrev cX11_inLowestTerms : ByteArray := prog_1_method_43_code
def yX11_inLowestTerms : MethodName := ⟨RX11, "inLowestTerms", "(III)J"⟩
abbrev cX11_choices : ByteArray := prog_1_method_44_code
def yX11_choices : MethodName := ⟨RX11, "choices", "(II)I"⟩
abbrev cX11_made : ByteArray := prog_1_method_45_code
def yX11_made : MethodName := ⟨RX11, "made", "(II)LBridgeSentences$One;"⟩
abbrev cX11_dearOf : ByteArray := prog_1_method_46_code
def yX11_dearOf : MethodName := ⟨RX11, "dearOf", "(LBridgeSentences$One;)I"⟩
abbrev cX11_hadSets : ByteArray := prog_1_method_47_code
def yX11_hadSets : MethodName := ⟨RX11, "hadSets", "(LBridgeSentences$One;)I"⟩
abbrev cX11_leastHad : ByteArray := prog_1_method_48_code
def yX11_leastHad : MethodName := ⟨RX11, "leastHad", "(LBridgeSentences$One;)I"⟩
abbrev cX11_decoyOf : ByteArray := prog_1_method_49_code
def yX11_decoyOf : MethodName := ⟨RX11, "decoyOf", "(LBridgeSentences$One;I)I"⟩
abbrev cX11_isOther : ByteArray := prog_1_method_50_code
def yX11_isOther : MethodName := ⟨RX11, "isOther", "(II)Z"⟩
abbrev cX11_comesOf : ByteArray := prog_1_method_51_code
def yX11_comesOf : MethodName := ⟨RX11, "comesOf", "(I)I"⟩
abbrev cX11_worthsOf : ByteArray := prog_1_method_52_code
def yX11_worthsOf : MethodName := ⟨RX11, "worthsOf", "(I)I"⟩
abbrev cX11_isSoWithV : ByteArray := prog_1_method_53_code
def yX11_isSoWithV : MethodName := ⟨RX11, "isSoWithV", "(II)Z"⟩
abbrev cX11_goRow : ByteArray := prog_1_method_54_code
def yX11_goRow : MethodName := ⟨RX11, "goRow", "(II)V"⟩
def RX12 : String := "BridgeSentencesModel"
def TX12 : u_T := fun k => match k with
  | 0 => ("BridgeSentencesModel", "now", "[I", true)
  | 1 => ("BridgeSentencesModel", "mind", "[I", true)
  | 2 => ("BridgeSentencesModel", "then", "[I", true)
  | 3 => ("BridgeSentencesModel", "kept", "Z", false)
  | 4 => ("BridgeSentencesModel", "text", "[I", true)
  | 5 => ("BridgeSentencesModel", "texted", "I", false)
  | 6 => ("BridgeSentencesModel", "rules", "[I", true)
  | 7 => ("BridgeSentencesModel", "sizes", "[I", true)
  | 8 => ("BridgeSentencesModel", "ruled", "I", false)
  | 9 => ("BridgeSentencesModel", "read", "[I", true)
  | 10 => ("BridgeSentencesModel", "size", "I", false)
  | 11 => ("BridgeSentencesModel", "at", "I", false)
  | 12 => ("BridgeSentencesModel", "well", "Z", false)
  | 13 => ("BridgeSentencesModel", "within", "I", false)
  | 14 => ("BridgeSentencesModel", "sum", "I", false)
  | 15 => ("BridgeSentencesModel", "free", "I", false)
  | 16 => ("BridgeSentencesModel", "names", "[I", true)
  | 17 => ("BridgeSentencesModel", "letters", "[C", true)
  | 18 => ("BridgeSentencesModel", "begins", "[C", true)
  | 19 => ("BridgeSentencesModel", "words", "[C", true)
  | 20 => ("BridgeSentencesModel", "sums", "[I", true)
  | 21 => ("BridgeSentencesModel", "above", "[I", true)
  | 22 => ("BridgeSentencesModel", "bodies", "[I", true)
  | 23 => ("BridgeSentencesModel", "trace", "[I", true)
  | 24 => ("BridgeSentencesModel", "ran", "I", false)
  | 25 => ("BridgeSentencesModel", "sorts", "[I", true)
  | 26 => ("BridgeSentencesModel", "lengths", "[I", true)
  | 27 => ("BridgeSentencesModel", "items", "[J", true)
  | _ => ("BridgeSentencesModel", "moved", "[J", true)
def tyX12 : Nat → FieldType := fun k => match k with
  | 0 => .array .int
  | 1 => .array .int
  | 2 => .array .int
  | 3 => .boolean
  | 4 => .array .int
  | 5 => .int
  | 6 => .array .int
  | 7 => .array .int
  | 8 => .int
  | 9 => .array .int
  | 10 => .int
  | 11 => .int
  | 12 => .boolean
  | 13 => .int
  | 14 => .int
  | 15 => .int
  | 16 => .array .int
  | 17 => .array .char
  | 18 => .array .char
  | 19 => .array .char
  | 20 => .array .int
  | 21 => .array .int
  | 22 => .array .int
  | 23 => .array .int
  | 24 => .int
  | 25 => .array .int
  | 26 => .array .int
  | 27 => .array .long
  | _ => .array .long
theorem nmX12 : ∀ a, a < 29 → ∀ b, b < 29 → a ≠ b → (TX12 a).2.1 ≠ (TX12 b).2.1 := by decide +kernel
theorem tyX12_ok : ∀ k, k < 29 → parseFieldDescriptor (TX12 k).2.2.1 = some (tyX12 k) := by decide +kernel
abbrev cX12_init : ByteArray := prog_14_method_1_code
def yX12_init : MethodName := ⟨RX12, "<init>", "()V"⟩
abbrev cX12_isIn : ByteArray := prog_14_method_2_code
def yX12_isIn : MethodName := ⟨RX12, "isIn", "(III)Z"⟩
abbrev cX12_fresh : ByteArray := prog_14_method_3_code
def yX12_fresh : MethodName := ⟨RX12, "fresh", "()[I"⟩
abbrev cX12_move : ByteArray := prog_14_method_4_code
def yX12_move : MethodName := ⟨RX12, "move", "([I[I)V"⟩
abbrev cX12_image : ByteArray := prog_14_method_5_code
def yX12_image : MethodName := ⟨RX12, "image", "()I"⟩
abbrev cX12_undo : ByteArray := prog_14_method_6_code
def yX12_undo : MethodName := ⟨RX12, "undo", "()I"⟩
abbrev cX12_isOne : ByteArray := prog_14_method_7_code
def yX12_isOne : MethodName := ⟨RX12, "isOne", "(I)Z"⟩
abbrev cX12_isSentence : ByteArray := prog_14_method_8_code
def yX12_isSentence : MethodName := ⟨RX12, "isSentence", "(I)Z"⟩
abbrev cX12_orNever : ByteArray := prog_14_method_9_code
def yX12_orNever : MethodName := ⟨RX12, "orNever", "(I)I"⟩
abbrev cX12_many : ByteArray := prog_14_method_10_code
def yX12_many : MethodName := ⟨RX12, "many", "(I)I"⟩
abbrev cX12_number : ByteArray := prog_14_method_11_code
def yX12_number : MethodName := ⟨RX12, "number", "(II)I"⟩
abbrev cX12_change : ByteArray := prog_14_method_12_code
def yX12_change : MethodName := ⟨RX12, "change", "(III)I"⟩
abbrev cX12_one : ByteArray := prog_14_method_13_code
def yX12_one : MethodName := ⟨RX12, "one", "(III)I"⟩
abbrev cX12_of : ByteArray := prog_14_method_14_code
def yX12_of : MethodName := ⟨RX12, "of", "(II)I"⟩
abbrev cX12_urge : ByteArray := prog_14_method_15_code
def yX12_urge : MethodName := ⟨RX12, "urge", "(II)I"⟩
abbrev cX12_learn : ByteArray := prog_14_method_16_code
def yX12_learn : MethodName := ⟨RX12, "learn", "(II)I"⟩
abbrev cX12_ford : ByteArray := prog_14_method_17_code
def yX12_ford : MethodName := ⟨RX12, "ford", "(IZ)I"⟩
abbrev cX12_worth : ByteArray := prog_14_method_18_code
def yX12_worth : MethodName := ⟨RX12, "worth", "(II)I"⟩
abbrev cX12_row : ByteArray := prog_14_method_19_code
def yX12_row : MethodName := ⟨RX12, "row", "(III)I"⟩
abbrev cX12_feed : ByteArray := prog_14_method_20_code
def yX12_feed : MethodName := ⟨RX12, "feed", "(I)I"⟩
abbrev cX12_isAt : ByteArray := prog_14_method_21_code
def yX12_isAt : MethodName := ⟨RX12, "isAt", "(I)Z"⟩
abbrev cX12_takes : ByteArray := prog_14_method_22_code
def yX12_takes : MethodName := ⟨RX12, "takes", "(I)V"⟩
abbrev cX12_isDigit : ByteArray := prog_14_method_23_code
def yX12_isDigit : MethodName := ⟨RX12, "isDigit", "()Z"⟩
abbrev cX12_number_ : ByteArray := prog_14_method_24_code
def yX12_number_ : MethodName := ⟨RX12, "number", "()I"⟩
abbrev cX12_test : ByteArray := prog_14_method_25_code
def yX12_test : MethodName := ⟨RX12, "test", "()Z"⟩
abbrev cX12_factor : ByteArray := prog_14_method_26_code
def yX12_factor : MethodName := ⟨RX12, "factor", "()Z"⟩
abbrev cX12_both : ByteArray := prog_14_method_27_code
def yX12_both : MethodName := ⟨RX12, "both", "()Z"⟩
abbrev cX12_any : ByteArray := prog_14_method_28_code
def yX12_any : MethodName := ⟨RX12, "any", "()Z"⟩
abbrev cX12_clause : ByteArray := prog_14_method_29_code
def yX12_clause : MethodName := ⟨RX12, "clause", "()V"⟩
abbrev cX12_readAll : ByteArray := prog_14_method_30_code
def yX12_readAll : MethodName := ⟨RX12, "readAll", "()Z"⟩
abbrev cX12_readFor : ByteArray := prog_14_method_31_code
def yX12_readFor : MethodName := ⟨RX12, "readFor", "(II)V"⟩
abbrev cX12_bridge : ByteArray := prog_14_method_32_code
def yX12_bridge : MethodName := ⟨RX12, "bridge", "()I"⟩
abbrev cX12_urgeBy : ByteArray := prog_14_method_33_code
def yX12_urgeBy : MethodName := ⟨RX12, "urgeBy", "(IIII)I"⟩
abbrev cX12_tell : ByteArray := prog_14_method_34_code
def yX12_tell : MethodName := ⟨RX12, "tell", "(I)V"⟩
abbrev cX12_tipBy : ByteArray := prog_14_method_35_code
def yX12_tipBy : MethodName := ⟨RX12, "tipBy", "(II)I"⟩
abbrev cX12_tip : ByteArray := prog_14_method_36_code
def yX12_tip : MethodName := ⟨RX12, "tip", "(I)I"⟩
abbrev cX12_goes : ByteArray := prog_14_method_37_code
def yX12_goes : MethodName := ⟨RX12, "goes", "(I)V"⟩
abbrev cX12_freeNow : ByteArray := prog_14_method_38_code
def yX12_freeNow : MethodName := ⟨RX12, "freeNow", "()I"⟩
abbrev cX12_hears : ByteArray := prog_14_method_39_code
def yX12_hears : MethodName := ⟨RX12, "hears", "(I)V"⟩
abbrev cX12_day : ByteArray := prog_14_method_40_code
def yX12_day : MethodName := ⟨RX12, "day", "()V"⟩
abbrev cX12_days : ByteArray := prog_14_method_41_code
def yX12_days : MethodName := ⟨RX12, "days", "(I)V"⟩
abbrev cX12_beyond : ByteArray := prog_14_method_42_code
def yX12_beyond : MethodName := ⟨RX12, "beyond", "()I"⟩
abbrev cX12_comes : ByteArray := prog_14_method_43_code
def yX12_comes : MethodName := ⟨RX12, "comes", "(I)I"⟩
abbrev cX12_dear : ByteArray := prog_14_method_44_code
def yX12_dear : MethodName := ⟨RX12, "dear", "(I)I"⟩
abbrev cX12_told : ByteArray := prog_14_method_45_code
def yX12_told : MethodName := ⟨RX12, "told", "(I)I"⟩
abbrev cX12_pass : ByteArray := prog_14_method_46_code
def yX12_pass : MethodName := ⟨RX12, "pass", "(I)I"⟩
abbrev cX12_on : ByteArray := prog_14_method_47_code
def yX12_on : MethodName := ⟨RX12, "on", "(II)I"⟩
abbrev cX12_decoy : ByteArray := prog_14_method_48_code
def yX12_decoy : MethodName := ⟨RX12, "decoy", "(II)I"⟩
abbrev cX12_see : ByteArray := prog_14_method_49_code
def yX12_see : MethodName := ⟨RX12, "see", "(II)I"⟩
abbrev cX12_isSeen : ByteArray := prog_14_method_50_code
def yX12_isSeen : MethodName := ⟨RX12, "isSeen", "(II)Z"⟩
abbrev cX12_had : ByteArray := prog_14_method_51_code
def yX12_had : MethodName := ⟨RX12, "had", "(IZ)I"⟩
abbrev cX12_worths : ByteArray := prog_14_method_52_code
def yX12_worths : MethodName := ⟨RX12, "worths", "(I)I"⟩
abbrev cX12_can : ByteArray := prog_14_method_53_code
def yX12_can : MethodName := ⟨RX12, "can", "(II)I"⟩
abbrev cX12_fraction : ByteArray := prog_14_method_54_code
def yX12_fraction : MethodName := ⟨RX12, "fraction", "(JJI)J"⟩
abbrev cX12_odds : ByteArray := prog_14_method_55_code
def yX12_odds : MethodName := ⟨RX12, "odds", "(II)J"⟩
abbrev cX12_mean : ByteArray := prog_14_method_56_code
def yX12_mean : MethodName := ⟨RX12, "mean", "(II)J"⟩
abbrev cX12_plan : ByteArray := prog_14_method_57_code
def yX12_plan : MethodName := ⟨RX12, "plan", "(II)I"⟩
abbrev cX12_ends : ByteArray := prog_14_method_58_code
def yX12_ends : MethodName := ⟨RX12, "ends", "(I)I"⟩
abbrev cX12_book : ByteArray := prog_14_method_59_code
def yX12_book : MethodName := ⟨RX12, "book", "(II)I"⟩
abbrev cX12_looked : ByteArray := prog_14_method_60_code
def yX12_looked : MethodName := ⟨RX12, "looked", "()I"⟩
abbrev cX12_body : ByteArray := prog_14_method_61_code
def yX12_body : MethodName := ⟨RX12, "body", "(I)I"⟩
abbrev cX12_all : ByteArray := prog_14_method_62_code
def yX12_all : MethodName := ⟨RX12, "all", "(III)I"⟩
abbrev cX12_byKind : ByteArray := prog_14_method_63_code
def yX12_byKind : MethodName := ⟨RX12, "byKind", "(IIII)I"⟩
abbrev cX12_act : ByteArray := prog_14_method_64_code
def yX12_act : MethodName := ⟨RX12, "act", "(III)I"⟩
abbrev cX12_trace : ByteArray := prog_14_method_65_code
def yX12_trace : MethodName := ⟨RX12, "trace", "(I)I"⟩
abbrev cX12_taken : ByteArray := prog_14_method_66_code
def yX12_taken : MethodName := ⟨RX12, "taken", "(II)I"⟩
abbrev cX12_count : ByteArray := prog_14_method_67_code
def yX12_count : MethodName := ⟨RX12, "count", "(I)I"⟩
abbrev cX12_isTape : ByteArray := prog_14_method_68_code
def yX12_isTape : MethodName := ⟨RX12, "isTape", "(I)Z"⟩
abbrev cX12_tape : ByteArray := prog_14_method_69_code
def yX12_tape : MethodName := ⟨RX12, "tape", "(III)I"⟩
abbrev cX12_item : ByteArray := prog_14_method_70_code
def yX12_item : MethodName := ⟨RX12, "item", "(IIJ)I"⟩
abbrev cX12_read : ByteArray := prog_14_method_71_code
def yX12_read : MethodName := ⟨RX12, "read", "(II)J"⟩
abbrev cX12_shift : ByteArray := prog_14_method_72_code
def yX12_shift : MethodName := ⟨RX12, "shift", "(IIIII)I"⟩
abbrev cX12_judge : ByteArray := prog_14_method_73_code
def yX12_judge : MethodName := ⟨RX12, "judge", "(II)I"⟩
def RJ11 : String := "java/lang/Character"
abbrev cJ11_isValidCodePoint_9a6ad : ByteArray := prog_15_method_11_code
def yJ11_isValidCodePoint_9a6ad : MethodName := ⟨RJ11, "isValidCodePoint", "(I)Z"⟩
abbrev cJ11_highSurrogate_5068e : ByteArray := prog_15_method_28_code
def yJ11_highSurrogate_5068e : MethodName := ⟨RJ11, "highSurrogate", "(I)C"⟩
abbrev cJ11_lowSurrogate_5068e : ByteArray := prog_15_method_29_code
def yJ11_lowSurrogate_5068e : MethodName := ⟨RJ11, "lowSurrogate", "(I)C"⟩
def RJ6 : String := "java/lang/Integer"
abbrev cJ6_bitCount_0f7a4 : ByteArray := prog_16_method_49_code
def yJ6_bitCount_0f7a4 : MethodName := ⟨RJ6, "bitCount", "(I)I"⟩
def RJ9 : String := "java/lang/Math"
abbrev cJ9_max_7cf53 : ByteArray := prog_17_method_65_code
def yJ9_max_7cf53 : MethodName := ⟨RJ9, "max", "(II)I"⟩
abbrev cJ9_min_7cf53 : ByteArray := prog_17_method_69_code
def yJ9_min_7cf53 : MethodName := ⟨RJ9, "min", "(II)I"⟩
def RJ0 : String := "java/lang/String"
abbrev cJ0_length_8abf5 : ByteArray := prog_18_method_54_code
def yJ0_length_8abf5 : MethodName := ⟨RJ0, "length", "()I"⟩
abbrev cJ0_charAt_5068e : ByteArray := prog_18_method_56_code
def yJ0_charAt_5068e : MethodName := ⟨RJ0, "charAt", "(I)C"⟩
abbrev cJ0_indexOf_0f7a4 : ByteArray := prog_18_method_79_code
def yJ0_indexOf_0f7a4 : MethodName := ⟨RJ0, "indexOf", "(I)I"⟩
abbrev cJ0_indexOf_7cf53 : ByteArray := prog_18_method_80_code
def yJ0_indexOf_7cf53 : MethodName := ⟨RJ0, "indexOf", "(II)I"⟩
abbrev cJ0_coder_7d493 : ByteArray := prog_18_method_152_code
def yJ0_coder_7d493 : MethodName := ⟨RJ0, "coder", "()B"⟩
abbrev cJ0_isLatin1_aae02 : ByteArray := prog_18_method_154_code
def yJ0_isLatin1_aae02 : MethodName := ⟨RJ0, "isLatin1", "()Z"⟩
abbrev cJ0_checkIndex_df160 : ByteArray := prog_18_method_155_code
def yJ0_checkIndex_df160 : MethodName := ⟨RJ0, "checkIndex", "(II)V"⟩
abbrev cJ0_checkBoundsBeginEnd_23922 : ByteArray := prog_18_method_158_code
def yJ0_checkBoundsBeginEnd_23922 : MethodName := ⟨RJ0, "checkBoundsBeginEnd", "(III)V"⟩
def RJ1 : String := "java/lang/StringLatin1"
abbrev cJ1_charAt_3b067 : ByteArray := prog_19_method_2_code
def yJ1_charAt_3b067 : MethodName := ⟨RJ1, "charAt", "([BI)C"⟩
abbrev cJ1_canEncode_9a6ad : ByteArray := prog_19_method_4_code
def yJ1_canEncode_9a6ad : MethodName := ⟨RJ1, "canEncode", "(I)Z"⟩
abbrev cJ1_indexOf_4cfef : ByteArray := prog_19_method_22_code
def yJ1_indexOf_4cfef : MethodName := ⟨RJ1, "indexOf", "([BIII)I"⟩
abbrev cJ1_indexOfChar_4cfef : ByteArray := prog_19_method_23_code
def yJ1_indexOfChar_4cfef : MethodName := ⟨RJ1, "indexOfChar", "([BIII)I"⟩
def RJ2 : String := "java/lang/StringUTF16"
abbrev cJ2_getChar_3b067 : ByteArray := prog_20_method_5_code
def yJ2_getChar_3b067 : MethodName := ⟨RJ2, "getChar", "([BI)C"⟩
abbrev cJ2_length_9d52b : ByteArray := prog_20_method_6_code
def yJ2_length_9d52b : MethodName := ⟨RJ2, "length", "([B)I"⟩
abbrev cJ2_indexOf_4cfef : ByteArray := prog_20_method_40_code
def yJ2_indexOf_4cfef : MethodName := ⟨RJ2, "indexOf", "([BIII)I"⟩
abbrev cJ2_indexOfChar_4cfef : ByteArray := prog_20_method_47_code
def yJ2_indexOfChar_4cfef : MethodName := ⟨RJ2, "indexOfChar", "([BIII)I"⟩
abbrev cJ2_indexOfCharUnsafe_4cfef : ByteArray := prog_20_method_48_code
def yJ2_indexOfCharUnsafe_4cfef : MethodName := ⟨RJ2, "indexOfCharUnsafe", "([BIII)I"⟩
abbrev cJ2_indexOfSupplementary_4cfef : ByteArray := prog_20_method_49_code
def yJ2_indexOfSupplementary_4cfef : MethodName := ⟨RJ2, "indexOfSupplementary", "([BIII)I"⟩
abbrev cJ2_charAt_3b067 : ByteArray := prog_20_method_83_code
def yJ2_charAt_3b067 : MethodName := ⟨RJ2, "charAt", "([BI)C"⟩
abbrev cJ2_checkIndex_2214a : ByteArray := prog_20_method_91_code
def yJ2_checkIndex_2214a : MethodName := ⟨RJ2, "checkIndex", "(I[B)V"⟩
abbrev cJ2_checkBoundsBeginEnd_d044e : ByteArray := prog_20_method_93_code
def yJ2_checkBoundsBeginEnd_d044e : MethodName := ⟨RJ2, "checkBoundsBeginEnd", "(II[B)V"⟩
def RJ10 : String := "java/lang/System"
def RJ3 : String := "jdk/internal/util/Preconditions"
abbrev cJ3_checkIndex_8e157 : ByteArray := prog_22_method_11_code
def yJ3_checkIndex_8e157 : MethodName := ⟨RJ3, "checkIndex", "(IILjava/util/function/BiFunction;)I"⟩
abbrev cJ3_checkFromToIndex_8c36e : ByteArray := prog_22_method_12_code
def yJ3_checkFromToIndex_8c36e : MethodName := ⟨RJ3, "checkFromToIndex", "(IIILjava/util/function/BiFunction;)I"⟩
def RL : String := "BridgeSentencesLaw"
abbrev cL_law : ByteArray := code
def yL_law : MethodName := ⟨RL, "law", "([I)Z"⟩
abbrev vwCl : List vw_C := [(RX0, TX0, 9), (RX1, TX1, 6), (RX2, TX2, 6), (RX3, TX3, 6), (RX4, TX4, 6), (RX5, TX5, 6), (RX6, TX6, 6), (RX7, TX7, 3), (RX8, TX8, 7), (RX9, TX9, 2), (RX10, TX10, 11), (RX11, TX11, 10), (RX12, TX12, 29)]
