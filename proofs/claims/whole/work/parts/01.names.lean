-- ===== PART A: goes FIRST, ahead of the names: the tables' words, and 'selects' of the private methods out of them =====
/-- a private method of a class that the tables say can be made, by its rows of tables_1 -/
def lw_okq (q : MethodName × Nat) : Prop := (q.1.cls ≠ "java/lang/invoke/MethodHandle" ∧ q.1.cls ≠ "java/lang/invoke/VarHandle") ∧ Cond.instantiable q.1.cls q.2 ∈ tables_1 ∧ Cond.privateMethod q.1 ∈ tables_1 ∧ Cond.instanceMethod q.1 ∈ tables_1
theorem lw_p0 : lw_okq (⟨"HeaderWays$Text", "readSign", "(C)Z"⟩, 9) := ⟨⟨by decide +kernel, by decide +kernel⟩, List.mem_of_getElem? (i := 90) (by decide +kernel), List.mem_of_getElem? (i := 396) (by decide +kernel), List.mem_of_getElem? (i := 397) (by decide +kernel)⟩
theorem lw_p1 : lw_okq (⟨"HeaderWays$Text", "readToken", "()V"⟩, 9) := ⟨⟨by decide +kernel, by decide +kernel⟩, List.mem_of_getElem? (i := 90) (by decide +kernel), List.mem_of_getElem? (i := 400) (by decide +kernel), List.mem_of_getElem? (i := 401) (by decide +kernel)⟩
theorem lw_p2 : lw_okq (⟨"HeaderWays$Text", "skipBlanks", "(I)I"⟩, 9) := ⟨⟨by decide +kernel, by decide +kernel⟩, List.mem_of_getElem? (i := 90) (by decide +kernel), List.mem_of_getElem? (i := 404) (by decide +kernel), List.mem_of_getElem? (i := 405) (by decide +kernel)⟩
theorem lw_p3 : lw_okq (⟨"HeaderWays$Text", "readClause", "(I)Z"⟩, 9) := ⟨⟨by decide +kernel, by decide +kernel⟩, List.mem_of_getElem? (i := 90) (by decide +kernel), List.mem_of_getElem? (i := 411) (by decide +kernel), List.mem_of_getElem? (i := 412) (by decide +kernel)⟩
theorem lw_p4 : lw_okq (⟨"HeaderWays$Text", "isWord", "(Ljava/lang/String;)Z"⟩, 9) := ⟨⟨by decide +kernel, by decide +kernel⟩, List.mem_of_getElem? (i := 90) (by decide +kernel), List.mem_of_getElem? (i := 416) (by decide +kernel), List.mem_of_getElem? (i := 417) (by decide +kernel)⟩
theorem lw_p5 : lw_okq (⟨"HeaderWays$Text", "readNodes", "(I)Z"⟩, 9) := ⟨⟨by decide +kernel, by decide +kernel⟩, List.mem_of_getElem? (i := 90) (by decide +kernel), List.mem_of_getElem? (i := 468) (by decide +kernel), List.mem_of_getElem? (i := 469) (by decide +kernel)⟩
theorem lw_p6 : lw_okq (⟨"HeaderWays$Text", "readNumber", "(II)I"⟩, 9) := ⟨⟨by decide +kernel, by decide +kernel⟩, List.mem_of_getElem? (i := 90) (by decide +kernel), List.mem_of_getElem? (i := 472) (by decide +kernel), List.mem_of_getElem? (i := 473) (by decide +kernel)⟩
theorem lw_p7 : lw_okq (⟨"HeaderWays$Text", "keep", "(IIIII)V"⟩, 9) := ⟨⟨by decide +kernel, by decide +kernel⟩, List.mem_of_getElem? (i := 90) (by decide +kernel), List.mem_of_getElem? (i := 476) (by decide +kernel), List.mem_of_getElem? (i := 477) (by decide +kernel)⟩
theorem lw_p8 : lw_okq (⟨"HeaderWays$Text", "readLink", "(I)Z"⟩, 9) := ⟨⟨by decide +kernel, by decide +kernel⟩, List.mem_of_getElem? (i := 90) (by decide +kernel), List.mem_of_getElem? (i := 481) (by decide +kernel), List.mem_of_getElem? (i := 482) (by decide +kernel)⟩
theorem lw_p9 : lw_okq (⟨"HeaderWays$Text", "isTooMany", "(J)Z"⟩, 9) := ⟨⟨by decide +kernel, by decide +kernel⟩, List.mem_of_getElem? (i := 90) (by decide +kernel), List.mem_of_getElem? (i := 486) (by decide +kernel), List.mem_of_getElem? (i := 487) (by decide +kernel)⟩
theorem lw_p10 : lw_okq (⟨"HeaderWays", "doClause", "(I)V"⟩, 9) := ⟨⟨by decide +kernel, by decide +kernel⟩, List.mem_of_getElem? (i := 21) (by decide +kernel), List.mem_of_getElem? (i := 501) (by decide +kernel), List.mem_of_getElem? (i := 502) (by decide +kernel)⟩
theorem lw_p11 : lw_okq (⟨"HeaderWays$Net", "addLink", "(II)I"⟩, 9) := ⟨⟨by decide +kernel, by decide +kernel⟩, List.mem_of_getElem? (i := 29) (by decide +kernel), List.mem_of_getElem? (i := 529) (by decide +kernel), List.mem_of_getElem? (i := 530) (by decide +kernel)⟩
theorem lw_p12 : lw_okq (⟨"HeaderWays", "turn", "(I)I"⟩, 9) := ⟨⟨by decide +kernel, by decide +kernel⟩, List.mem_of_getElem? (i := 21) (by decide +kernel), List.mem_of_getElem? (i := 554) (by decide +kernel), List.mem_of_getElem? (i := 555) (by decide +kernel)⟩
theorem lw_p13 : lw_okq (⟨"HeaderWays$Past", "keep", "(IIII)V"⟩, 7) := ⟨⟨by decide +kernel, by decide +kernel⟩, List.mem_of_getElem? (i := 126) (by decide +kernel), List.mem_of_getElem? (i := 562) (by decide +kernel), List.mem_of_getElem? (i := 563) (by decide +kernel)⟩
theorem lw_p14 : lw_okq (⟨"HeaderWays$Routes", "startFrom", "(I)V"⟩, 4) := ⟨⟨by decide +kernel, by decide +kernel⟩, List.mem_of_getElem? (i := 155) (by decide +kernel), List.mem_of_getElem? (i := 617) (by decide +kernel), List.mem_of_getElem? (i := 618) (by decide +kernel)⟩
theorem lw_p15 : lw_okq (⟨"HeaderWays$Routes", "shorten", "(III)V"⟩, 4) := ⟨⟨by decide +kernel, by decide +kernel⟩, List.mem_of_getElem? (i := 155) (by decide +kernel), List.mem_of_getElem? (i := 621) (by decide +kernel), List.mem_of_getElem? (i := 622) (by decide +kernel)⟩
def lw_privs_1 : List (MethodName × Nat) := [(⟨"HeaderWays$Text", "readSign", "(C)Z"⟩, 9), (⟨"HeaderWays$Text", "readToken", "()V"⟩, 9), (⟨"HeaderWays$Text", "skipBlanks", "(I)I"⟩, 9), (⟨"HeaderWays$Text", "readClause", "(I)Z"⟩, 9), (⟨"HeaderWays$Text", "isWord", "(Ljava/lang/String;)Z"⟩, 9), (⟨"HeaderWays$Text", "readNodes", "(I)Z"⟩, 9), (⟨"HeaderWays$Text", "readNumber", "(II)I"⟩, 9), (⟨"HeaderWays$Text", "keep", "(IIIII)V"⟩, 9), (⟨"HeaderWays$Text", "readLink", "(I)Z"⟩, 9), (⟨"HeaderWays$Text", "isTooMany", "(J)Z"⟩, 9), (⟨"HeaderWays", "doClause", "(I)V"⟩, 9), (⟨"HeaderWays$Net", "addLink", "(II)I"⟩, 9), (⟨"HeaderWays", "turn", "(I)I"⟩, 9), (⟨"HeaderWays$Past", "keep", "(IIII)V"⟩, 7), (⟨"HeaderWays$Routes", "startFrom", "(I)V"⟩, 4), (⟨"HeaderWays$Routes", "shorten", "(III)V"⟩, 4)]
theorem lw_r1 : ∀ q ∈ lw_privs_1, lw_okq q := List.forall_mem_cons.mpr ⟨lw_p0, List.forall_mem_cons.mpr ⟨lw_p1, List.forall_mem_cons.mpr ⟨lw_p2, List.forall_mem_cons.mpr ⟨lw_p3, List.forall_mem_cons.mpr ⟨lw_p4, List.forall_mem_cons.mpr ⟨lw_p5, List.forall_mem_cons.mpr ⟨lw_p6, List.forall_mem_cons.mpr ⟨lw_p7, List.forall_mem_cons.mpr ⟨lw_p8, List.forall_mem_cons.mpr ⟨lw_p9, List.forall_mem_cons.mpr ⟨lw_p10, List.forall_mem_cons.mpr ⟨lw_p11, List.forall_mem_cons.mpr ⟨lw_p12, List.forall_mem_cons.mpr ⟨lw_p13, List.forall_mem_cons.mpr ⟨lw_p14, List.forall_mem_cons.mpr ⟨lw_p15, fun _ h => absurd h List.not_mem_nil⟩⟩⟩⟩⟩⟩⟩⟩⟩⟩⟩⟩⟩⟩⟩⟩
theorem lw_p16 : lw_okq (⟨"HeaderWays$Routes", "leadOn", "(IIII)V"⟩, 4) := ⟨⟨by decide +kernel, by decide +kernel⟩, List.mem_of_getElem? (i := 155) (by decide +kernel), List.mem_of_getElem? (i := 625) (by decide +kernel), List.mem_of_getElem? (i := 626) (by decide +kernel)⟩
theorem lw_p17 : lw_okq (⟨"HeaderWays$Rounds", "goesRound", "(III)Z"⟩, 6) := ⟨⟨by decide +kernel, by decide +kernel⟩, List.mem_of_getElem? (i := 174) (by decide +kernel), List.mem_of_getElem? (i := 664) (by decide +kernel), List.mem_of_getElem? (i := 665) (by decide +kernel)⟩
theorem lw_p18 : lw_okq (⟨"HeaderWays$Rounds", "firstToLearn", "(II)I"⟩, 6) := ⟨⟨by decide +kernel, by decide +kernel⟩, List.mem_of_getElem? (i := 174) (by decide +kernel), List.mem_of_getElem? (i := 695) (by decide +kernel), List.mem_of_getElem? (i := 696) (by decide +kernel)⟩
theorem lw_p19 : lw_okq (⟨"HeaderWays$Briefs", "shorten", "(IZ)Z"⟩, 10) := ⟨⟨by decide +kernel, by decide +kernel⟩, List.mem_of_getElem? (i := 247) (by decide +kernel), List.mem_of_getElem? (i := 741) (by decide +kernel), List.mem_of_getElem? (i := 742) (by decide +kernel)⟩
theorem lw_p20 : lw_okq (⟨"HeaderWays$Briefs", "followedFrom", "(I)I"⟩, 10) := ⟨⟨by decide +kernel, by decide +kernel⟩, List.mem_of_getElem? (i := 247) (by decide +kernel), List.mem_of_getElem? (i := 746) (by decide +kernel), List.mem_of_getElem? (i := 747) (by decide +kernel)⟩
theorem lw_p21 : lw_okq (⟨"HeaderWays$Briefs", "linkIn", "(III)I"⟩, 10) := ⟨⟨by decide +kernel, by decide +kernel⟩, List.mem_of_getElem? (i := 247) (by decide +kernel), List.mem_of_getElem? (i := 751) (by decide +kernel), List.mem_of_getElem? (i := 752) (by decide +kernel)⟩
theorem lw_p22 : lw_okq (⟨"HeaderWays$Briefs", "chooseFirst", "(I)V"⟩, 10) := ⟨⟨by decide +kernel, by decide +kernel⟩, List.mem_of_getElem? (i := 247) (by decide +kernel), List.mem_of_getElem? (i := 756) (by decide +kernel), List.mem_of_getElem? (i := 757) (by decide +kernel)⟩
theorem lw_p23 : lw_okq (⟨"HeaderWays$Briefs", "lowestKind", "(II)I"⟩, 10) := ⟨⟨by decide +kernel, by decide +kernel⟩, List.mem_of_getElem? (i := 247) (by decide +kernel), List.mem_of_getElem? (i := 760) (by decide +kernel), List.mem_of_getElem? (i := 761) (by decide +kernel)⟩
theorem lw_p24 : lw_okq (⟨"HeaderWays$Briefs", "writeFound", "()V"⟩, 10) := ⟨⟨by decide +kernel, by decide +kernel⟩, List.mem_of_getElem? (i := 247) (by decide +kernel), List.mem_of_getElem? (i := 764) (by decide +kernel), List.mem_of_getElem? (i := 765) (by decide +kernel)⟩
theorem lw_p25 : lw_okq (⟨"HeaderWays$Letters", "takeOffReached", "(I)V"⟩, 11) := ⟨⟨by decide +kernel, by decide +kernel⟩, List.mem_of_getElem? (i := 290) (by decide +kernel), List.mem_of_getElem? (i := 831) (by decide +kernel), List.mem_of_getElem? (i := 832) (by decide +kernel)⟩
theorem lw_p26 : lw_okq (⟨"HeaderWays$Letters", "linkAhead", "(I)I"⟩, 11) := ⟨⟨by decide +kernel, by decide +kernel⟩, List.mem_of_getElem? (i := 290) (by decide +kernel), List.mem_of_getElem? (i := 847) (by decide +kernel), List.mem_of_getElem? (i := 848) (by decide +kernel)⟩
theorem lw_p27 : lw_okq (⟨"HeaderWays$Letters", "crossLink", "(II)I"⟩, 11) := ⟨⟨by decide +kernel, by decide +kernel⟩, List.mem_of_getElem? (i := 290) (by decide +kernel), List.mem_of_getElem? (i := 870) (by decide +kernel), List.mem_of_getElem? (i := 871) (by decide +kernel)⟩
theorem lw_p28 : lw_okq (⟨"HeaderWays$Letters", "mend", "(II)Z"⟩, 11) := ⟨⟨by decide +kernel, by decide +kernel⟩, List.mem_of_getElem? (i := 290) (by decide +kernel), List.mem_of_getElem? (i := 874) (by decide +kernel), List.mem_of_getElem? (i := 875) (by decide +kernel)⟩
theorem lw_p29 : lw_okq (⟨"HeaderWaysModel", "reads", "(Z)I"⟩, 45) := ⟨⟨by decide +kernel, by decide +kernel⟩, List.mem_of_getElem? (i := 897) (by decide +kernel), List.mem_of_getElem? (i := 1054) (by decide +kernel), List.mem_of_getElem? (i := 1055) (by decide +kernel)⟩
theorem lw_p30 : lw_okq (⟨"HeaderWaysModel", "clause", "()V"⟩, 45) := ⟨⟨by decide +kernel, by decide +kernel⟩, List.mem_of_getElem? (i := 897) (by decide +kernel), List.mem_of_getElem? (i := 1058) (by decide +kernel), List.mem_of_getElem? (i := 1059) (by decide +kernel)⟩
theorem lw_p31 : lw_okq (⟨"HeaderWaysModel", "looks", "()I"⟩, 45) := ⟨⟨by decide +kernel, by decide +kernel⟩, List.mem_of_getElem? (i := 897) (by decide +kernel), List.mem_of_getElem? (i := 1062) (by decide +kernel), List.mem_of_getElem? (i := 1063) (by decide +kernel)⟩
def lw_privs_2 : List (MethodName × Nat) := [(⟨"HeaderWays$Routes", "leadOn", "(IIII)V"⟩, 4), (⟨"HeaderWays$Rounds", "goesRound", "(III)Z"⟩, 6), (⟨"HeaderWays$Rounds", "firstToLearn", "(II)I"⟩, 6), (⟨"HeaderWays$Briefs", "shorten", "(IZ)Z"⟩, 10), (⟨"HeaderWays$Briefs", "followedFrom", "(I)I"⟩, 10), (⟨"HeaderWays$Briefs", "linkIn", "(III)I"⟩, 10), (⟨"HeaderWays$Briefs", "chooseFirst", "(I)V"⟩, 10), (⟨"HeaderWays$Briefs", "lowestKind", "(II)I"⟩, 10), (⟨"HeaderWays$Briefs", "writeFound", "()V"⟩, 10), (⟨"HeaderWays$Letters", "takeOffReached", "(I)V"⟩, 11), (⟨"HeaderWays$Letters", "linkAhead", "(I)I"⟩, 11), (⟨"HeaderWays$Letters", "crossLink", "(II)I"⟩, 11), (⟨"HeaderWays$Letters", "mend", "(II)Z"⟩, 11), (⟨"HeaderWaysModel", "reads", "(Z)I"⟩, 45), (⟨"HeaderWaysModel", "clause", "()V"⟩, 45), (⟨"HeaderWaysModel", "looks", "()I"⟩, 45)]
theorem lw_r2 : ∀ q ∈ lw_privs_2, lw_okq q := List.forall_mem_cons.mpr ⟨lw_p16, List.forall_mem_cons.mpr ⟨lw_p17, List.forall_mem_cons.mpr ⟨lw_p18, List.forall_mem_cons.mpr ⟨lw_p19, List.forall_mem_cons.mpr ⟨lw_p20, List.forall_mem_cons.mpr ⟨lw_p21, List.forall_mem_cons.mpr ⟨lw_p22, List.forall_mem_cons.mpr ⟨lw_p23, List.forall_mem_cons.mpr ⟨lw_p24, List.forall_mem_cons.mpr ⟨lw_p25, List.forall_mem_cons.mpr ⟨lw_p26, List.forall_mem_cons.mpr ⟨lw_p27, List.forall_mem_cons.mpr ⟨lw_p28, List.forall_mem_cons.mpr ⟨lw_p29, List.forall_mem_cons.mpr ⟨lw_p30, List.forall_mem_cons.mpr ⟨lw_p31, fun _ h => absurd h List.not_mem_nil⟩⟩⟩⟩⟩⟩⟩⟩⟩⟩⟩⟩⟩⟩⟩⟩
theorem lw_p32 : lw_okq (⟨"HeaderWaysModel", "isLetter", "(I)Z"⟩, 45) := ⟨⟨by decide +kernel, by decide +kernel⟩, List.mem_of_getElem? (i := 897) (by decide +kernel), List.mem_of_getElem? (i := 1066) (by decide +kernel), List.mem_of_getElem? (i := 1067) (by decide +kernel)⟩
theorem lw_p33 : lw_okq (⟨"HeaderWaysModel", "isFigure", "(I)Z"⟩, 45) := ⟨⟨by decide +kernel, by decide +kernel⟩, List.mem_of_getElem? (i := 897) (by decide +kernel), List.mem_of_getElem? (i := 1070) (by decide +kernel), List.mem_of_getElem? (i := 1071) (by decide +kernel)⟩
theorem lw_p34 : lw_okq (⟨"HeaderWaysModel", "isName", "(IIIII)Z"⟩, 45) := ⟨⟨by decide +kernel, by decide +kernel⟩, List.mem_of_getElem? (i := 897) (by decide +kernel), List.mem_of_getElem? (i := 1074) (by decide +kernel), List.mem_of_getElem? (i := 1075) (by decide +kernel)⟩
theorem lw_p35 : lw_okq (⟨"HeaderWaysModel", "takes", "(Z)V"⟩, 45) := ⟨⟨by decide +kernel, by decide +kernel⟩, List.mem_of_getElem? (i := 897) (by decide +kernel), List.mem_of_getElem? (i := 1078) (by decide +kernel), List.mem_of_getElem? (i := 1079) (by decide +kernel)⟩
theorem lw_p36 : lw_okq (⟨"HeaderWaysModel", "readsNodes", "()V"⟩, 45) := ⟨⟨by decide +kernel, by decide +kernel⟩, List.mem_of_getElem? (i := 897) (by decide +kernel), List.mem_of_getElem? (i := 1082) (by decide +kernel), List.mem_of_getElem? (i := 1083) (by decide +kernel)⟩
theorem lw_p37 : lw_okq (⟨"HeaderWaysModel", "figure", "(II)I"⟩, 45) := ⟨⟨by decide +kernel, by decide +kernel⟩, List.mem_of_getElem? (i := 897) (by decide +kernel), List.mem_of_getElem? (i := 1086) (by decide +kernel), List.mem_of_getElem? (i := 1087) (by decide +kernel)⟩
theorem lw_p38 : lw_okq (⟨"HeaderWaysModel", "readsLink", "()V"⟩, 45) := ⟨⟨by decide +kernel, by decide +kernel⟩, List.mem_of_getElem? (i := 897) (by decide +kernel), List.mem_of_getElem? (i := 1090) (by decide +kernel), List.mem_of_getElem? (i := 1091) (by decide +kernel)⟩
theorem lw_p39 : lw_okq (⟨"HeaderWaysModel", "readLinkOf", "(II)I"⟩, 45) := ⟨⟨by decide +kernel, by decide +kernel⟩, List.mem_of_getElem? (i := 897) (by decide +kernel), List.mem_of_getElem? (i := 1094) (by decide +kernel), List.mem_of_getElem? (i := 1095) (by decide +kernel)⟩
theorem lw_p40 : lw_okq (⟨"HeaderWaysModel", "isLink", "(I)Z"⟩, 45) := ⟨⟨by decide +kernel, by decide +kernel⟩, List.mem_of_getElem? (i := 897) (by decide +kernel), List.mem_of_getElem? (i := 1106) (by decide +kernel), List.mem_of_getElem? (i := 1107) (by decide +kernel)⟩
theorem lw_p41 : lw_okq (⟨"HeaderWaysModel", "becomesUp", "(II)I"⟩, 45) := ⟨⟨by decide +kernel, by decide +kernel⟩, List.mem_of_getElem? (i := 897) (by decide +kernel), List.mem_of_getElem? (i := 1114) (by decide +kernel), List.mem_of_getElem? (i := 1115) (by decide +kernel)⟩
theorem lw_p42 : lw_okq (⟨"HeaderWaysModel", "notes", "()V"⟩, 45) := ⟨⟨by decide +kernel, by decide +kernel⟩, List.mem_of_getElem? (i := 897) (by decide +kernel), List.mem_of_getElem? (i := 1118) (by decide +kernel), List.mem_of_getElem? (i := 1119) (by decide +kernel)⟩
theorem lw_p43 : lw_okq (⟨"HeaderWaysModel", "isNode", "(I)Z"⟩, 45) := ⟨⟨by decide +kernel, by decide +kernel⟩, List.mem_of_getElem? (i := 897) (by decide +kernel), List.mem_of_getElem? (i := 1137) (by decide +kernel), List.mem_of_getElem? (i := 1138) (by decide +kernel)⟩
theorem lw_p44 : lw_okq (⟨"HeaderWaysModel", "lays", "(II)V"⟩, 45) := ⟨⟨by decide +kernel, by decide +kernel⟩, List.mem_of_getElem? (i := 897) (by decide +kernel), List.mem_of_getElem? (i := 1153) (by decide +kernel), List.mem_of_getElem? (i := 1154) (by decide +kernel)⟩
theorem lw_p45 : lw_okq (⟨"HeaderWaysModel", "length", "(II)I"⟩, 45) := ⟨⟨by decide +kernel, by decide +kernel⟩, List.mem_of_getElem? (i := 897) (by decide +kernel), List.mem_of_getElem? (i := 1160) (by decide +kernel), List.mem_of_getElem? (i := 1161) (by decide +kernel)⟩
theorem lw_p46 : lw_okq (⟨"HeaderWaysModel", "nextOf", "(IIII)I"⟩, 45) := ⟨⟨by decide +kernel, by decide +kernel⟩, List.mem_of_getElem? (i := 897) (by decide +kernel), List.mem_of_getElem? (i := 1164) (by decide +kernel), List.mem_of_getElem? (i := 1165) (by decide +kernel)⟩
theorem lw_p47 : lw_okq (⟨"HeaderWaysModel", "linkOf", "(II)I"⟩, 45) := ⟨⟨by decide +kernel, by decide +kernel⟩, List.mem_of_getElem? (i := 897) (by decide +kernel), List.mem_of_getElem? (i := 1168) (by decide +kernel), List.mem_of_getElem? (i := 1169) (by decide +kernel)⟩
def lw_privs_3 : List (MethodName × Nat) := [(⟨"HeaderWaysModel", "isLetter", "(I)Z"⟩, 45), (⟨"HeaderWaysModel", "isFigure", "(I)Z"⟩, 45), (⟨"HeaderWaysModel", "isName", "(IIIII)Z"⟩, 45), (⟨"HeaderWaysModel", "takes", "(Z)V"⟩, 45), (⟨"HeaderWaysModel", "readsNodes", "()V"⟩, 45), (⟨"HeaderWaysModel", "figure", "(II)I"⟩, 45), (⟨"HeaderWaysModel", "readsLink", "()V"⟩, 45), (⟨"HeaderWaysModel", "readLinkOf", "(II)I"⟩, 45), (⟨"HeaderWaysModel", "isLink", "(I)Z"⟩, 45), (⟨"HeaderWaysModel", "becomesUp", "(II)I"⟩, 45), (⟨"HeaderWaysModel", "notes", "()V"⟩, 45), (⟨"HeaderWaysModel", "isNode", "(I)Z"⟩, 45), (⟨"HeaderWaysModel", "lays", "(II)V"⟩, 45), (⟨"HeaderWaysModel", "length", "(II)I"⟩, 45), (⟨"HeaderWaysModel", "nextOf", "(IIII)I"⟩, 45), (⟨"HeaderWaysModel", "linkOf", "(II)I"⟩, 45)]
theorem lw_r3 : ∀ q ∈ lw_privs_3, lw_okq q := List.forall_mem_cons.mpr ⟨lw_p32, List.forall_mem_cons.mpr ⟨lw_p33, List.forall_mem_cons.mpr ⟨lw_p34, List.forall_mem_cons.mpr ⟨lw_p35, List.forall_mem_cons.mpr ⟨lw_p36, List.forall_mem_cons.mpr ⟨lw_p37, List.forall_mem_cons.mpr ⟨lw_p38, List.forall_mem_cons.mpr ⟨lw_p39, List.forall_mem_cons.mpr ⟨lw_p40, List.forall_mem_cons.mpr ⟨lw_p41, List.forall_mem_cons.mpr ⟨lw_p42, List.forall_mem_cons.mpr ⟨lw_p43, List.forall_mem_cons.mpr ⟨lw_p44, List.forall_mem_cons.mpr ⟨lw_p45, List.forall_mem_cons.mpr ⟨lw_p46, List.forall_mem_cons.mpr ⟨lw_p47, fun _ h => absurd h List.not_mem_nil⟩⟩⟩⟩⟩⟩⟩⟩⟩⟩⟩⟩⟩⟩⟩⟩
theorem lw_p48 : lw_okq (⟨"HeaderWaysModel", "walks", "(IIII)Z"⟩, 45) := ⟨⟨by decide +kernel, by decide +kernel⟩, List.mem_of_getElem? (i := 897) (by decide +kernel), List.mem_of_getElem? (i := 1180) (by decide +kernel), List.mem_of_getElem? (i := 1181) (by decide +kernel)⟩
theorem lw_p49 : lw_okq (⟨"HeaderWaysModel", "isOver", "(I)Z"⟩, 45) := ⟨⟨by decide +kernel, by decide +kernel⟩, List.mem_of_getElem? (i := 897) (by decide +kernel), List.mem_of_getElem? (i := 1184) (by decide +kernel), List.mem_of_getElem? (i := 1185) (by decide +kernel)⟩
theorem lw_p50 : lw_okq (⟨"HeaderWaysModel", "laysGoes", "()V"⟩, 45) := ⟨⟨by decide +kernel, by decide +kernel⟩, List.mem_of_getElem? (i := 897) (by decide +kernel), List.mem_of_getElem? (i := 1192) (by decide +kernel), List.mem_of_getElem? (i := 1193) (by decide +kernel)⟩
theorem lw_p51 : lw_okq (⟨"HeaderWaysModel", "ringsOf", "(II)I"⟩, 45) := ⟨⟨by decide +kernel, by decide +kernel⟩, List.mem_of_getElem? (i := 897) (by decide +kernel), List.mem_of_getElem? (i := 1196) (by decide +kernel), List.mem_of_getElem? (i := 1197) (by decide +kernel)⟩
theorem lw_p52 : lw_okq (⟨"HeaderWaysModel", "isSafe", "(I)Z"⟩, 45) := ⟨⟨by decide +kernel, by decide +kernel⟩, List.mem_of_getElem? (i := 897) (by decide +kernel), List.mem_of_getElem? (i := 1204) (by decide +kernel), List.mem_of_getElem? (i := 1205) (by decide +kernel)⟩
theorem lw_p53 : lw_okq (⟨"HeaderWaysModel", "behind", "()I"⟩, 45) := ⟨⟨by decide +kernel, by decide +kernel⟩, List.mem_of_getElem? (i := 897) (by decide +kernel), List.mem_of_getElem? (i := 1212) (by decide +kernel), List.mem_of_getElem? (i := 1213) (by decide +kernel)⟩
theorem lw_p54 : lw_okq (⟨"HeaderWaysModel", "laysOrders", "(I)V"⟩, 45) := ⟨⟨by decide +kernel, by decide +kernel⟩, List.mem_of_getElem? (i := 897) (by decide +kernel), List.mem_of_getElem? (i := 1216) (by decide +kernel), List.mem_of_getElem? (i := 1217) (by decide +kernel)⟩
theorem lw_p55 : lw_okq (⟨"HeaderWaysModel", "repairs", "(III)Z"⟩, 45) := ⟨⟨by decide +kernel, by decide +kernel⟩, List.mem_of_getElem? (i := 897) (by decide +kernel), List.mem_of_getElem? (i := 1236) (by decide +kernel), List.mem_of_getElem? (i := 1237) (by decide +kernel)⟩
theorem lw_p56 : lw_okq (⟨"HeaderWaysModel", "shortens", "([IIII)Z"⟩, 45) := ⟨⟨by decide +kernel, by decide +kernel⟩, List.mem_of_getElem? (i := 897) (by decide +kernel), List.mem_of_getElem? (i := 1240) (by decide +kernel), List.mem_of_getElem? (i := 1241) (by decide +kernel)⟩
theorem lw_p57 : lw_okq (⟨"HeaderWaysModel", "laysBy", "([IIII)V"⟩, 45) := ⟨⟨by decide +kernel, by decide +kernel⟩, List.mem_of_getElem? (i := 897) (by decide +kernel), List.mem_of_getElem? (i := 1244) (by decide +kernel), List.mem_of_getElem? (i := 1245) (by decide +kernel)⟩
theorem lw_p58 : lw_okq (⟨"HeaderWaysModel", "leads", "([IIIII)Z"⟩, 45) := ⟨⟨by decide +kernel, by decide +kernel⟩, List.mem_of_getElem? (i := 897) (by decide +kernel), List.mem_of_getElem? (i := 1248) (by decide +kernel), List.mem_of_getElem? (i := 1249) (by decide +kernel)⟩
theorem lw_p59 : lw_okq (⟨"HeaderWaysModel", "shortAt", "(I)I"⟩, 45) := ⟨⟨by decide +kernel, by decide +kernel⟩, List.mem_of_getElem? (i := 897) (by decide +kernel), List.mem_of_getElem? (i := 1252) (by decide +kernel), List.mem_of_getElem? (i := 1253) (by decide +kernel)⟩
theorem lw_p60 : lw_okq (⟨"HeaderWaysModel", "briefs", "()Z"⟩, 45) := ⟨⟨by decide +kernel, by decide +kernel⟩, List.mem_of_getElem? (i := 897) (by decide +kernel), List.mem_of_getElem? (i := 1268) (by decide +kernel), List.mem_of_getElem? (i := 1269) (by decide +kernel)⟩
theorem lw_p61 : lw_okq (⟨"HeaderWaysModel", "bears", "(II)V"⟩, 45) := ⟨⟨by decide +kernel, by decide +kernel⟩, List.mem_of_getElem? (i := 897) (by decide +kernel), List.mem_of_getElem? (i := 1284) (by decide +kernel), List.mem_of_getElem? (i := 1285) (by decide +kernel)⟩
theorem lw_p62 : lw_okq (⟨"HeaderWaysModel", "goesFrom", "(I)I"⟩, 45) := ⟨⟨by decide +kernel, by decide +kernel⟩, List.mem_of_getElem? (i := 897) (by decide +kernel), List.mem_of_getElem? (i := 1288) (by decide +kernel), List.mem_of_getElem? (i := 1289) (by decide +kernel)⟩
theorem lw_p63 : lw_okq (⟨"HeaderWaysModel", "leavesOwn", "(I)V"⟩, 45) := ⟨⟨by decide +kernel, by decide +kernel⟩, List.mem_of_getElem? (i := 897) (by decide +kernel), List.mem_of_getElem? (i := 1292) (by decide +kernel), List.mem_of_getElem? (i := 1293) (by decide +kernel)⟩
def lw_privs_4 : List (MethodName × Nat) := [(⟨"HeaderWaysModel", "walks", "(IIII)Z"⟩, 45), (⟨"HeaderWaysModel", "isOver", "(I)Z"⟩, 45), (⟨"HeaderWaysModel", "laysGoes", "()V"⟩, 45), (⟨"HeaderWaysModel", "ringsOf", "(II)I"⟩, 45), (⟨"HeaderWaysModel", "isSafe", "(I)Z"⟩, 45), (⟨"HeaderWaysModel", "behind", "()I"⟩, 45), (⟨"HeaderWaysModel", "laysOrders", "(I)V"⟩, 45), (⟨"HeaderWaysModel", "repairs", "(III)Z"⟩, 45), (⟨"HeaderWaysModel", "shortens", "([IIII)Z"⟩, 45), (⟨"HeaderWaysModel", "laysBy", "([IIII)V"⟩, 45), (⟨"HeaderWaysModel", "leads", "([IIIII)Z"⟩, 45), (⟨"HeaderWaysModel", "shortAt", "(I)I"⟩, 45), (⟨"HeaderWaysModel", "briefs", "()Z"⟩, 45), (⟨"HeaderWaysModel", "bears", "(II)V"⟩, 45), (⟨"HeaderWaysModel", "goesFrom", "(I)I"⟩, 45), (⟨"HeaderWaysModel", "leavesOwn", "(I)V"⟩, 45)]
theorem lw_r4 : ∀ q ∈ lw_privs_4, lw_okq q := List.forall_mem_cons.mpr ⟨lw_p48, List.forall_mem_cons.mpr ⟨lw_p49, List.forall_mem_cons.mpr ⟨lw_p50, List.forall_mem_cons.mpr ⟨lw_p51, List.forall_mem_cons.mpr ⟨lw_p52, List.forall_mem_cons.mpr ⟨lw_p53, List.forall_mem_cons.mpr ⟨lw_p54, List.forall_mem_cons.mpr ⟨lw_p55, List.forall_mem_cons.mpr ⟨lw_p56, List.forall_mem_cons.mpr ⟨lw_p57, List.forall_mem_cons.mpr ⟨lw_p58, List.forall_mem_cons.mpr ⟨lw_p59, List.forall_mem_cons.mpr ⟨lw_p60, List.forall_mem_cons.mpr ⟨lw_p61, List.forall_mem_cons.mpr ⟨lw_p62, List.forall_mem_cons.mpr ⟨lw_p63, fun _ h => absurd h List.not_mem_nil⟩⟩⟩⟩⟩⟩⟩⟩⟩⟩⟩⟩⟩⟩⟩⟩
theorem lw_p64 : lw_okq (⟨"HeaderWaysModel", "linkFrom", "(I)I"⟩, 45) := ⟨⟨by decide +kernel, by decide +kernel⟩, List.mem_of_getElem? (i := 897) (by decide +kernel), List.mem_of_getElem? (i := 1296) (by decide +kernel), List.mem_of_getElem? (i := 1297) (by decide +kernel)⟩
theorem lw_p65 : lw_okq (⟨"HeaderWaysModel", "otherEnd", "(II)I"⟩, 45) := ⟨⟨by decide +kernel, by decide +kernel⟩, List.mem_of_getElem? (i := 897) (by decide +kernel), List.mem_of_getElem? (i := 1300) (by decide +kernel), List.mem_of_getElem? (i := 1301) (by decide +kernel)⟩
theorem lw_p66 : lw_okq (⟨"HeaderWaysModel", "mends", "(II)Z"⟩, 45) := ⟨⟨by decide +kernel, by decide +kernel⟩, List.mem_of_getElem? (i := 897) (by decide +kernel), List.mem_of_getElem? (i := 1304) (by decide +kernel), List.mem_of_getElem? (i := 1305) (by decide +kernel)⟩
def lw_privs_5 : List (MethodName × Nat) := [(⟨"HeaderWaysModel", "linkFrom", "(I)I"⟩, 45), (⟨"HeaderWaysModel", "otherEnd", "(II)I"⟩, 45), (⟨"HeaderWaysModel", "mends", "(II)Z"⟩, 45)]
theorem lw_r5 : ∀ q ∈ lw_privs_5, lw_okq q := List.forall_mem_cons.mpr ⟨lw_p64, List.forall_mem_cons.mpr ⟨lw_p65, List.forall_mem_cons.mpr ⟨lw_p66, fun _ h => absurd h List.not_mem_nil⟩⟩⟩
def lw_privs : List (MethodName × Nat) := lw_privs_1 ++ (lw_privs_2 ++ (lw_privs_3 ++ (lw_privs_4 ++ (lw_privs_5))))
def lw_tbl : List Cond := k2_sels lw_privs ++ tables_1
theorem lw_privs_ok : ∀ q ∈ lw_privs, lw_okq q := by
  show ∀ q ∈ lw_privs_1 ++ (lw_privs_2 ++ (lw_privs_3 ++ (lw_privs_4 ++ (lw_privs_5)))), lw_okq q
  exact List.forall_mem_append.mpr ⟨lw_r1, List.forall_mem_append.mpr ⟨lw_r2, List.forall_mem_append.mpr ⟨lw_r3, List.forall_mem_append.mpr ⟨lw_r4, lw_r5⟩⟩⟩⟩

theorem x_in0 {big : List Cond} {w : Cond} (i : Nat) (h : big[i]? = some w) (g : goodWord w = true) : w ∈ big.filter goodWord := List.mem_filter.mpr ⟨List.mem_of_getElem? h, g⟩
/-- the words that every method here is said over -/
def x_GW : List Cond := lw_tbl.filter goodWord
def RX0 : String := "HeaderWays$Briefs"
def TX0 : u_T := fun k => match k with
  | 0 => ("HeaderWays$Briefs", "net", "LHeaderWays$Net;", true)
  | 1 => ("HeaderWays$Briefs", "routes", "LHeaderWays$Routes;", true)
  | 2 => ("HeaderWays$Briefs", "way", "LHeaderWays$Row;", true)
  | 3 => ("HeaderWays$Briefs", "alongCost", "[I", true)
  | 4 => ("HeaderWays$Briefs", "alongDelay", "[I", true)
  | 5 => ("HeaderWays$Briefs", "linksOn", "[I", true)
  | 6 => ("HeaderWays$Briefs", "fewest", "[I", true)
  | 7 => ("HeaderWays$Briefs", "goals", "[I", true)
  | 8 => ("HeaderWays$Briefs", "kinds", "[I", true)
  | _ => ("HeaderWays$Briefs", "found", "LHeaderWays$Segments;", true)
def tyX0 : Nat → FieldType := fun k => match k with
  | 0 => .object "HeaderWays$Net"
  | 1 => .object "HeaderWays$Routes"
  | 2 => .object "HeaderWays$Row"
  | 3 => .array .int
  | 4 => .array .int
  | 5 => .array .int
  | 6 => .array .int
  | 7 => .array .int
  | 8 => .array .int
  | _ => .object "HeaderWays$Segments"
theorem nmX0 : ∀ a, a < 10 → ∀ b, b < 10 → a ≠ b → (TX0 a).2.1 ≠ (TX0 b).2.1 := by decide +kernel
theorem tyX0_ok : ∀ k, k < 10 → parseFieldDescriptor (TX0 k).2.2.1 = some (tyX0 k) := by decide +kernel
def RX1 : String := "HeaderWays$Letters"
def TX1 : u_T := fun k => match k with
  | 0 => ("HeaderWays$Letters", "net", "LHeaderWays$Net;", true)
  | 1 => ("HeaderWays$Letters", "routes", "LHeaderWays$Routes;", true)
  | 2 => ("HeaderWays$Letters", "briefs", "LHeaderWays$Briefs;", true)
  | 3 => ("HeaderWays$Letters", "borne", "LHeaderWays$Segments;", true)
  | 4 => ("HeaderWays$Letters", "passed", "LHeaderWays$Row;", true)
  | 5 => ("HeaderWays$Letters", "protection", "I", false)
  | 6 => ("HeaderWays$Letters", "sent", "I", false)
  | 7 => ("HeaderWays$Letters", "there", "I", false)
  | 8 => ("HeaderWays$Letters", "mended", "I", false)
  | 9 => ("HeaderWays$Letters", "lost", "I", false)
  | _ => ("HeaderWays$Letters", "lastMended", "Z", false)
def tyX1 : Nat → FieldType := fun k => match k with
  | 0 => .object "HeaderWays$Net"
  | 1 => .object "HeaderWays$Routes"
  | 2 => .object "HeaderWays$Briefs"
  | 3 => .object "HeaderWays$Segments"
  | 4 => .object "HeaderWays$Row"
  | 5 => .int
  | 6 => .int
  | 7 => .int
  | 8 => .int
  | 9 => .int
  | _ => .boolean
theorem nmX1 : ∀ a, a < 11 → ∀ b, b < 11 → a ≠ b → (TX1 a).2.1 ≠ (TX1 b).2.1 := by decide +kernel
theorem tyX1_ok : ∀ k, k < 11 → parseFieldDescriptor (TX1 k).2.2.1 = some (tyX1 k) := by decide +kernel
def RX2 : String := "HeaderWays$Net"
def TX2 : u_T := fun k => match k with
  | 0 => ("HeaderWays$Net", "nodes", "I", false)
  | 1 => ("HeaderWays$Net", "links", "I", false)
  | 2 => ("HeaderWays$Net", "up", "I", false)
  | 3 => ("HeaderWays$Net", "low", "[I", true)
  | 4 => ("HeaderWays$Net", "high", "[I", true)
  | 5 => ("HeaderWays$Net", "cost", "[I", true)
  | 6 => ("HeaderWays$Net", "delay", "[I", true)
  | 7 => ("HeaderWays$Net", "crossed", "[I", true)
  | _ => ("HeaderWays$Net", "seen", "[I", true)
def tyX2 : Nat → FieldType := fun k => match k with
  | 0 => .int
  | 1 => .int
  | 2 => .int
  | 3 => .array .int
  | 4 => .array .int
  | 5 => .array .int
  | 6 => .array .int
  | 7 => .array .int
  | _ => .array .int
theorem nmX2 : ∀ a, a < 9 → ∀ b, b < 9 → a ≠ b → (TX2 a).2.1 ≠ (TX2 b).2.1 := by decide +kernel
theorem tyX2_ok : ∀ k, k < 9 → parseFieldDescriptor (TX2 k).2.2.1 = some (tyX2 k) := by decide +kernel
def RX3 : String := "HeaderWays$Past"
def TX3 : u_T := fun k => match k with
  | 0 => ("HeaderWays$Past", "net", "LHeaderWays$Net;", true)
  | 1 => ("HeaderWays$Past", "changes", "[I", true)
  | 2 => ("HeaderWays$Past", "places", "[I", true)
  | 3 => ("HeaderWays$Past", "firsts", "[I", true)
  | 4 => ("HeaderWays$Past", "seconds", "[I", true)
  | 5 => ("HeaderWays$Past", "ahead", "I", false)
  | _ => ("HeaderWays$Past", "size", "I", false)
def tyX3 : Nat → FieldType := fun k => match k with
  | 0 => .object "HeaderWays$Net"
  | 1 => .array .int
  | 2 => .array .int
  | 3 => .array .int
  | 4 => .array .int
  | 5 => .int
  | _ => .int
theorem nmX3 : ∀ a, a < 7 → ∀ b, b < 7 → a ≠ b → (TX3 a).2.1 ≠ (TX3 b).2.1 := by decide +kernel
theorem tyX3_ok : ∀ k, k < 7 → parseFieldDescriptor (TX3 k).2.2.1 = some (tyX3 k) := by decide +kernel
def RX4 : String := "HeaderWays$Rounds"
def TX4 : u_T := fun k => match k with
  | 0 => ("HeaderWays$Rounds", "net", "LHeaderWays$Net;", true)
  | 1 => ("HeaderWays$Rounds", "routes", "LHeaderWays$Routes;", true)
  | 2 => ("HeaderWays$Rounds", "aheadSeen", "[I", true)
  | 3 => ("HeaderWays$Rounds", "aheadUp", "[I", true)
  | 4 => ("HeaderWays$Rounds", "closed", "[Z", true)
  | _ => ("HeaderWays$Rounds", "order", "LHeaderWays$Row;", true)
def tyX4 : Nat → FieldType := fun k => match k with
  | 0 => .object "HeaderWays$Net"
  | 1 => .object "HeaderWays$Routes"
  | 2 => .array .int
  | 3 => .array .int
  | 4 => .array .boolean
  | _ => .object "HeaderWays$Row"
theorem nmX4 : ∀ a, a < 6 → ∀ b, b < 6 → a ≠ b → (TX4 a).2.1 ≠ (TX4 b).2.1 := by decide +kernel
theorem tyX4_ok : ∀ k, k < 6 → parseFieldDescriptor (TX4 k).2.2.1 = some (tyX4 k) := by decide +kernel
def RX5 : String := "HeaderWays$Routes"
def TX5 : u_T := fun k => match k with
  | 0 => ("HeaderWays$Routes", "net", "LHeaderWays$Net;", true)
  | 1 => ("HeaderWays$Routes", "sums", "[I", true)
  | 2 => ("HeaderWays$Routes", "nodesAhead", "[I", true)
  | _ => ("HeaderWays$Routes", "linksAhead", "[I", true)
def tyX5 : Nat → FieldType := fun k => match k with
  | 0 => .object "HeaderWays$Net"
  | 1 => .array .int
  | 2 => .array .int
  | _ => .array .int
theorem nmX5 : ∀ a, a < 4 → ∀ b, b < 4 → a ≠ b → (TX5 a).2.1 ≠ (TX5 b).2.1 := by decide +kernel
theorem tyX5_ok : ∀ k, k < 4 → parseFieldDescriptor (TX5 k).2.2.1 = some (tyX5 k) := by decide +kernel
def RX6 : String := "HeaderWays$Row"
def TX6 : u_T := fun k => match k with
  | 0 => ("HeaderWays$Row", "nodes", "[I", true)
  | _ => ("HeaderWays$Row", "length", "I", false)
def tyX6 : Nat → FieldType := fun k => match k with
  | 0 => .array .int
  | _ => .int
theorem nmX6 : ∀ a, a < 2 → ∀ b, b < 2 → a ≠ b → (TX6 a).2.1 ≠ (TX6 b).2.1 := by decide +kernel
theorem tyX6_ok : ∀ k, k < 2 → parseFieldDescriptor (TX6 k).2.2.1 = some (tyX6 k) := by decide +kernel
def RX7 : String := "HeaderWays$Segments"
def TX7 : u_T := fun k => match k with
  | 0 => ("HeaderWays$Segments", "kinds", "[I", true)
  | 1 => ("HeaderWays$Segments", "whats", "[I", true)
  | _ => ("HeaderWays$Segments", "size", "I", false)
def tyX7 : Nat → FieldType := fun k => match k with
  | 0 => .array .int
  | 1 => .array .int
  | _ => .int
theorem nmX7 : ∀ a, a < 3 → ∀ b, b < 3 → a ≠ b → (TX7 a).2.1 ≠ (TX7 b).2.1 := by decide +kernel
theorem tyX7_ok : ∀ k, k < 3 → parseFieldDescriptor (TX7 k).2.2.1 = some (tyX7 k) := by decide +kernel
def RX8 : String := "HeaderWays$Text"
def TX8 : u_T := fun k => match k with
  | 0 => ("HeaderWays$Text", "net", "LHeaderWays$Net;", true)
  | 1 => ("HeaderWays$Text", "letters", "[I", true)
  | 2 => ("HeaderWays$Text", "length", "I", false)
  | 3 => ("HeaderWays$Text", "clauses", "I", false)
  | 4 => ("HeaderWays$Text", "numbers", "[I", true)
  | 5 => ("HeaderWays$Text", "begin", "I", false)
  | 6 => ("HeaderWays$Text", "end", "I", false)
  | 7 => ("HeaderWays$Text", "nodes", "I", false)
  | _ => ("HeaderWays$Text", "pairs", "J", false)
def tyX8 : Nat → FieldType := fun k => match k with
  | 0 => .object "HeaderWays$Net"
  | 1 => .array .int
  | 2 => .int
  | 3 => .int
  | 4 => .array .int
  | 5 => .int
  | 6 => .int
  | 7 => .int
  | _ => .long
theorem nmX8 : ∀ a, a < 9 → ∀ b, b < 9 → a ≠ b → (TX8 a).2.1 ≠ (TX8 b).2.1 := by decide +kernel
theorem tyX8_ok : ∀ k, k < 9 → parseFieldDescriptor (TX8 k).2.2.1 = some (tyX8 k) := by decide +kernel
def RX9 : String := "HeaderWays"
def TX9 : u_T := fun k => match k with
  | 0 => ("HeaderWays", "net", "LHeaderWays$Net;", true)
  | 1 => ("HeaderWays", "text", "LHeaderWays$Text;", true)
  | 2 => ("HeaderWays", "past", "LHeaderWays$Past;", true)
  | 3 => ("HeaderWays", "routes", "LHeaderWays$Routes;", true)
  | 4 => ("HeaderWays", "rounds", "LHeaderWays$Rounds;", true)
  | 5 => ("HeaderWays", "list", "LHeaderWays$Segments;", true)
  | 6 => ("HeaderWays", "traced", "LHeaderWays$Row;", true)
  | 7 => ("HeaderWays", "briefs", "LHeaderWays$Briefs;", true)
  | _ => ("HeaderWays", "letters", "LHeaderWays$Letters;", true)
def tyX9 : Nat → FieldType := fun k => match k with
  | 0 => .object "HeaderWays$Net"
  | 1 => .object "HeaderWays$Text"
  | 2 => .object "HeaderWays$Past"
  | 3 => .object "HeaderWays$Routes"
  | 4 => .object "HeaderWays$Rounds"
  | 5 => .object "HeaderWays$Segments"
  | 6 => .object "HeaderWays$Row"
  | 7 => .object "HeaderWays$Briefs"
  | _ => .object "HeaderWays$Letters"
theorem nmX9 : ∀ a, a < 9 → ∀ b, b < 9 → a ≠ b → (TX9 a).2.1 ≠ (TX9 b).2.1 := by decide +kernel
theorem tyX9_ok : ∀ k, k < 9 → parseFieldDescriptor (TX9 k).2.2.1 = some (tyX9 k) := by decide +kernel
def RX10 : String := "HeaderWaysModel"
def TX10 : u_T := fun k => match k with
  | 0 => ("HeaderWaysModel", "n", "I", false)
  | 1 => ("HeaderWaysModel", "links", "I", false)
  | 2 => ("HeaderWaysModel", "low", "[I", true)
  | 3 => ("HeaderWaysModel", "high", "[I", true)
  | 4 => ("HeaderWaysModel", "goneOver", "[I", true)
  | 5 => ("HeaderWaysModel", "st", "[I", true)
  | 6 => ("HeaderWaysModel", "past", "[I", true)
  | 7 => ("HeaderWaysModel", "acts", "I", false)
  | 8 => ("HeaderWaysModel", "segments", "I", false)
  | 9 => ("HeaderWaysModel", "kindOf", "[I", true)
  | 10 => ("HeaderWaysModel", "whatOf", "[I", true)
  | 11 => ("HeaderWaysModel", "traced", "I", false)
  | 12 => ("HeaderWaysModel", "traceOf", "[I", true)
  | 13 => ("HeaderWaysModel", "isOn", "I", false)
  | 14 => ("HeaderWaysModel", "far", "[I", true)
  | 15 => ("HeaderWaysModel", "walked", "I", false)
  | 16 => ("HeaderWaysModel", "walk", "[I", true)
  | 17 => ("HeaderWaysModel", "by", "[I", true)
  | 18 => ("HeaderWaysModel", "fewest", "[I", true)
  | 19 => ("HeaderWaysModel", "shortMany", "I", false)
  | 20 => ("HeaderWaysModel", "shortKind", "[I", true)
  | 21 => ("HeaderWaysModel", "shortWhat", "[I", true)
  | 22 => ("HeaderWaysModel", "text", "[I", true)
  | 23 => ("HeaderWaysModel", "letters", "I", false)
  | 24 => ("HeaderWaysModel", "readAt", "I", false)
  | 25 => ("HeaderWaysModel", "tokenLong", "I", false)
  | 26 => ("HeaderWaysModel", "isFault", "Z", false)
  | 27 => ("HeaderWaysModel", "does", "Z", false)
  | 28 => ("HeaderWaysModel", "readN", "I", false)
  | 29 => ("HeaderWaysModel", "readLinks", "I", false)
  | 30 => ("HeaderWaysModel", "readLow", "[I", true)
  | 31 => ("HeaderWaysModel", "readHigh", "[I", true)
  | 32 => ("HeaderWaysModel", "goes", "[I", true)
  | 33 => ("HeaderWaysModel", "wouldGo", "[I", true)
  | 34 => ("HeaderWaysModel", "canGoOn", "[I", true)
  | 35 => ("HeaderWaysModel", "sent", "I", false)
  | 36 => ("HeaderWaysModel", "there", "I", false)
  | 37 => ("HeaderWaysModel", "mended", "I", false)
  | 38 => ("HeaderWaysModel", "lost", "I", false)
  | 39 => ("HeaderWaysModel", "isMended", "I", false)
  | 40 => ("HeaderWaysModel", "hops", "I", false)
  | 41 => ("HeaderWaysModel", "went", "[I", true)
  | 42 => ("HeaderWaysModel", "bears", "I", false)
  | 43 => ("HeaderWaysModel", "bearsKind", "[I", true)
  | _ => ("HeaderWaysModel", "bearsWhat", "[I", true)
def tyX10 : Nat → FieldType := fun k => match k with
  | 0 => .int
  | 1 => .int
  | 2 => .array .int
  | 3 => .array .int
  | 4 => .array .int
  | 5 => .array .int
  | 6 => .array .int
  | 7 => .int
  | 8 => .int
  | 9 => .array .int
  | 10 => .array .int
  | 11 => .int
  | 12 => .array .int
  | 13 => .int
  | 14 => .array .int
  | 15 => .int
  | 16 => .array .int
  | 17 => .array .int
  | 18 => .array .int
  | 19 => .int
  | 20 => .array .int
  | 21 => .array .int
  | 22 => .array .int
  | 23 => .int
  | 24 => .int
  | 25 => .int
  | 26 => .boolean
  | 27 => .boolean
  | 28 => .int
  | 29 => .int
  | 30 => .array .int
  | 31 => .array .int
  | 32 => .array .int
  | 33 => .array .int
  | 34 => .array .int
  | 35 => .int
  | 36 => .int
  | 37 => .int
  | 38 => .int
  | 39 => .int
  | 40 => .int
  | 41 => .array .int
  | 42 => .int
  | 43 => .array .int
  | _ => .array .int
theorem nmX10 : ∀ a, a < 45 → ∀ b, b < 45 → a ≠ b → (TX10 a).2.1 ≠ (TX10 b).2.1 := by decide +kernel
theorem tyX10_ok : ∀ k, k < 45 → parseFieldDescriptor (TX10 k).2.2.1 = some (tyX10 k) := by decide +kernel
def RJ6 : String := "java/lang/Integer"
def RJ13 : String := "java/lang/Long"
def RJ9 : String := "java/lang/Math"
def RJ0 : String := "java/lang/String"
def RJ1 : String := "java/lang/StringLatin1"
def RJ2 : String := "java/lang/StringUTF16"
def RJ7 : String := "java/util/Arrays"
def RJ3 : String := "jdk/internal/util/Preconditions"
def RL : String := "HeaderWaysLaw"
abbrev vwCl : List vw_C := [(RX0, TX0, 10), (RX1, TX1, 11), (RX2, TX2, 9), (RX3, TX3, 7), (RX4, TX4, 6), (RX5, TX5, 4), (RX6, TX6, 2), (RX7, TX7, 3), (RX8, TX8, 9), (RX9, TX9, 9), (RX10, TX10, 45)]
def x_R : Nat → String := fun k => match k with
  | 0 => RX0
  | 1 => RX1
  | 2 => RX2
  | 3 => RX3
  | 4 => RX4
  | 5 => RX5
  | 6 => RX6
  | 7 => RX7
  | 8 => RX8
  | 9 => RX9
  | _ => RX10
def x_T : Nat → u_T := fun k => match k with
  | 0 => TX0
  | 1 => TX1
  | 2 => TX2
  | 3 => TX3
  | 4 => TX4
  | 5 => TX5
  | 6 => TX6
  | 7 => TX7
  | 8 => TX8
  | 9 => TX9
  | _ => TX10
def x_ty : Nat → Nat → FieldType := fun k => match k with
  | 0 => tyX0
  | 1 => tyX1
  | 2 => tyX2
  | 3 => tyX3
  | 4 => tyX4
  | 5 => tyX5
  | 6 => tyX6
  | 7 => tyX7
  | 8 => tyX8
  | 9 => tyX9
  | _ => tyX10
def x_N : Nat → Nat := fun k => match k with
  | 0 => 10
  | 1 => 11
  | 2 => 9
  | 3 => 7
  | 4 => 6
  | 5 => 4
  | 6 => 2
  | 7 => 3
  | 8 => 9
  | 9 => 9
  | _ => 45
theorem x_cases {P : Nat → Prop} (h : ∀ k, k < 11 → P k) : ∀ k, k < 11 → P k := h
theorem x_cl : ∀ k, k < 11 → vwCl[k]? = some (x_R k, x_T k, x_N k) := by
  intro k hk
  rcases (show k = 0 ∨ k = 1 ∨ k = 2 ∨ k = 3 ∨ k = 4 ∨ k = 5 ∨ k = 6 ∨ k = 7 ∨ k = 8 ∨ k = 9 ∨ k = 10 by omega) with rfl | rfl | rfl | rfl | rfl | rfl | rfl | rfl | rfl | rfl | rfl <;> rfl
theorem x_N64 : ∀ k, k < 11 → x_N k ≤ 64 := by decide +kernel
theorem x_tyok : ∀ c, c < 11 → ∀ k, k < x_N c → parseFieldDescriptor (x_T c k).2.2.1 = some (x_ty c k) := by decide +kernel
theorem x_nm : ∀ c, c < 11 → ∀ a, a < x_N c → ∀ b, b < x_N c → a ≠ b → (x_T c a).2.1 ≠ (x_T c b).2.1 := by decide +kernel
theorem x_own0 : ∀ c, c < 11 → ∀ k, k < x_N c → (x_T c k).1 = x_R c := by decide +kernel
def x_lp0 : Nat → List Nat := fun k => match k with
  | 0 => [335, 337, 339, 341, 343, 345, 347, 349, 351, 353]
  | 1 => [380, 382, 384, 386, 388, 390, 392, 394, 396, 398, 400]
  | 2 => [136, 138, 140, 142, 144, 146, 148, 150, 152]
  | 3 => [206, 208, 210, 212, 214, 216, 218]
  | 4 => [276, 278, 280, 282, 284, 286]
  | 5 => [231, 233, 235, 237]
  | 6 => [263, 265]
  | 7 => [304, 306, 308]
  | 8 => [173, 175, 177, 179, 181, 183, 185, 187, 189]
  | 9 => [412, 414, 416, 418, 420, 422, 424, 426, 428]
  | _ => [1014, 1016, 1018, 1020, 1022, 1024, 1026, 1028, 1030, 1032, 1034, 1036, 1038, 1040, 1042, 1044, 1046, 1048, 1050, 1052, 1054, 1056, 1058, 1060, 1062, 1064, 1066, 1068, 1070, 1072, 1074, 1076, 1078, 1080, 1082, 1084, 1086, 1088, 1090, 1092, 1094, 1096, 1098, 1100, 1102]
theorem x_us0 : ∀ k, k < 10 → lw_tbl[(x_lp0 0).getD k 0]? = some (u_lay RX0 TX0 k) ∧ goodWord (u_lay RX0 TX0 k) = true := by decide +kernel
theorem x_us1 : ∀ k, k < 11 → lw_tbl[(x_lp0 1).getD k 0]? = some (u_lay RX1 TX1 k) ∧ goodWord (u_lay RX1 TX1 k) = true := by decide +kernel
theorem x_us2 : ∀ k, k < 9 → lw_tbl[(x_lp0 2).getD k 0]? = some (u_lay RX2 TX2 k) ∧ goodWord (u_lay RX2 TX2 k) = true := by decide +kernel
theorem x_us3 : ∀ k, k < 7 → lw_tbl[(x_lp0 3).getD k 0]? = some (u_lay RX3 TX3 k) ∧ goodWord (u_lay RX3 TX3 k) = true := by decide +kernel
theorem x_us4 : ∀ k, k < 6 → lw_tbl[(x_lp0 4).getD k 0]? = some (u_lay RX4 TX4 k) ∧ goodWord (u_lay RX4 TX4 k) = true := by decide +kernel
theorem x_us5 : ∀ k, k < 4 → lw_tbl[(x_lp0 5).getD k 0]? = some (u_lay RX5 TX5 k) ∧ goodWord (u_lay RX5 TX5 k) = true := by decide +kernel
theorem x_us6 : ∀ k, k < 2 → lw_tbl[(x_lp0 6).getD k 0]? = some (u_lay RX6 TX6 k) ∧ goodWord (u_lay RX6 TX6 k) = true := by decide +kernel
theorem x_us7 : ∀ k, k < 3 → lw_tbl[(x_lp0 7).getD k 0]? = some (u_lay RX7 TX7 k) ∧ goodWord (u_lay RX7 TX7 k) = true := by decide +kernel
theorem x_us8 : ∀ k, k < 9 → lw_tbl[(x_lp0 8).getD k 0]? = some (u_lay RX8 TX8 k) ∧ goodWord (u_lay RX8 TX8 k) = true := by decide +kernel
theorem x_us9 : ∀ k, k < 9 → lw_tbl[(x_lp0 9).getD k 0]? = some (u_lay RX9 TX9 k) ∧ goodWord (u_lay RX9 TX9 k) = true := by decide +kernel
theorem x_us10 : ∀ k, k < 45 → lw_tbl[(x_lp0 10).getD k 0]? = some (u_lay RX10 TX10 k) ∧ goodWord (u_lay RX10 TX10 k) = true := by decide +kernel
theorem x_usG {C : String} {U : u_T} {n : Nat} {f : Nat → Nat} (h : ∀ k, k < n → lw_tbl[f k]? = some (u_lay C U k) ∧ goodWord (u_lay C U k) = true) : ∀ w ∈ u_ws C U n, w ∈ x_GW := by
  intro w hw
  obtain ⟨k, hk, rfl⟩ := List.mem_map.mp hw
  exact x_in0 _ (h k (List.mem_range.mp hk)).1 (h k (List.mem_range.mp hk)).2
theorem x_uw : ∀ c, c < 11 → ∀ w ∈ u_ws (x_R c) (x_T c) (x_N c), w ∈ x_GW := by
  intro k hk
  rcases (show k = 0 ∨ k = 1 ∨ k = 2 ∨ k = 3 ∨ k = 4 ∨ k = 5 ∨ k = 6 ∨ k = 7 ∨ k = 8 ∨ k = 9 ∨ k = 10 by omega) with rfl | rfl | rfl | rfl | rfl | rfl | rfl | rfl | rfl | rfl | rfl
  · exact x_usG x_us0
  · exact x_usG x_us1
  · exact x_usG x_us2
  · exact x_usG x_us3
  · exact x_usG x_us4
  · exact x_usG x_us5
  · exact x_usG x_us6
  · exact x_usG x_us7
  · exact x_usG x_us8
  · exact x_usG x_us9
  · exact x_usG x_us10
theorem x_ins0 : Cond.instantiable RX0 10 ∈ x_GW ∧ Cond.initialized RX0 ∈ x_GW := ⟨x_in0 314 (by decide +kernel) (by decide +kernel), x_in0 77 (by decide +kernel) (by decide +kernel)⟩
theorem x_ins1 : Cond.instantiable RX1 11 ∈ x_GW ∧ Cond.initialized RX1 ∈ x_GW := ⟨x_in0 357 (by decide +kernel) (by decide +kernel), x_in0 78 (by decide +kernel) (by decide +kernel)⟩
theorem x_ins2 : Cond.instantiable RX2 9 ∈ x_GW ∧ Cond.initialized RX2 ∈ x_GW := ⟨x_in0 96 (by decide +kernel) (by decide +kernel), x_in0 69 (by decide +kernel) (by decide +kernel)⟩
theorem x_ins3 : Cond.instantiable RX3 7 ∈ x_GW ∧ Cond.initialized RX3 ∈ x_GW := ⟨x_in0 193 (by decide +kernel) (by decide +kernel), x_in0 71 (by decide +kernel) (by decide +kernel)⟩
theorem x_ins4 : Cond.instantiable RX4 6 ∈ x_GW ∧ Cond.initialized RX4 ∈ x_GW := ⟨x_in0 241 (by decide +kernel) (by decide +kernel), x_in0 73 (by decide +kernel) (by decide +kernel)⟩
theorem x_ins5 : Cond.instantiable RX5 4 ∈ x_GW ∧ Cond.initialized RX5 ∈ x_GW := ⟨x_in0 222 (by decide +kernel) (by decide +kernel), x_in0 72 (by decide +kernel) (by decide +kernel)⟩
theorem x_ins6 : Cond.instantiable RX6 2 ∈ x_GW ∧ Cond.initialized RX6 ∈ x_GW := ⟨x_in0 247 (by decide +kernel) (by decide +kernel), x_in0 74 (by decide +kernel) (by decide +kernel)⟩
theorem x_ins7 : Cond.instantiable RX7 3 ∈ x_GW ∧ Cond.initialized RX7 ∈ x_GW := ⟨x_in0 290 (by decide +kernel) (by decide +kernel), x_in0 76 (by decide +kernel) (by decide +kernel)⟩
theorem x_ins8 : Cond.instantiable RX8 9 ∈ x_GW ∧ Cond.initialized RX8 ∈ x_GW := ⟨x_in0 157 (by decide +kernel) (by decide +kernel), x_in0 70 (by decide +kernel) (by decide +kernel)⟩
theorem x_ins9 : Cond.instantiable RX9 9 ∈ x_GW ∧ Cond.initialized RX9 ∈ x_GW := ⟨x_in0 88 (by decide +kernel) (by decide +kernel), x_in0 68 (by decide +kernel) (by decide +kernel)⟩
theorem x_ins10 : Cond.instantiable RX10 45 ∈ x_GW ∧ Cond.initialized RX10 ∈ x_GW := ⟨x_in0 964 (by decide +kernel) (by decide +kernel), x_in0 79 (by decide +kernel) (by decide +kernel)⟩
theorem x_arrI : Cond.arrayClass .int ∈ x_GW := x_in0 155 (by decide +kernel) (by decide +kernel)
theorem x_arrZ : Cond.arrayClass .boolean ∈ x_GW := x_in0 268 (by decide +kernel) (by decide +kernel)
theorem x_obj : Cond.instanceMethod objectInit ∈ x_GW ∧ Cond.code objectInit ⟨#[0xb1]⟩ 1 none ∈ x_GW := ⟨x_in0 93 (by decide +kernel) (by decide +kernel), x_in0 94 (by decide +kernel) (by decide +kernel)⟩
