section
-- ===== PART A: goes FIRST, ahead of the names: the tables' words, and 'selects' of the private methods out of them =====
/-- a private method of a class that the tables say can be made, by its rows of tables_1 -/
def lw_okq (q : MethodName × Nat) : Prop := (q.1.cls ≠ "java/lang/invoke/MethodHandle" ∧ q.1.cls ≠ "java/lang/invoke/VarHandle") ∧ Cond.instantiable q.1.cls q.2 ∈ tables_1 ∧ Cond.privateMethod q.1 ∈ tables_1 ∧ Cond.instanceMethod q.1 ∈ tables_1
theorem lw_p0 : lw_okq (⟨"HeaderWays$Text", "readSign", "(C)Z"⟩, 9) := ⟨⟨by decide +kernel, by decide +kernel⟩, List.mem_of_getElem? (i := 90) (by decide +kernel), List.mem_of_getElem? (i := 396) (by decide +kernel), List.mem_of_getElem? (i := 397) (by decide +kernel)⟩
theorem lw_p1 : lw_okq (⟨"HeaderWays$Text", "readToken", "()V"⟩, 9) := ⟨⟨by decide +kernel, by decide +kernel⟩, List.mem_of_getElem? (i := 90) (by decide +kernel), List.mem_of_getElem? (i := 400) (by decide +kernel), List.mem_of_getElem? (i := 401) (by decide +kernel)⟩
theorem lw_p2 : lw_okq (⟨"HeaderWays$Text", "skipBlanks", "(I)I"⟩, 9) := ⟨⟨by decide +kernel, by decide +kernel⟩, List.mem_of_getElem? (i := 90) (by decide +kernel), List.mem_of_getElem? (i := 404) (by decide +kernel), List.mem_of_getElem? (i := 405) (by decide +kernel)⟩
theorem lw_p3 : lw_okq (⟨"HeaderWays$Text", "readClause", "(I)Z"⟩, 9) := ⟨⟨by decide +kernel, by decide +kernel⟩, List.mem_of_getElem? (i := 90) (by decide +kernel), List.mem_of_getElem? (i := 411) (by decide +kernel), List.mem_of_getElem? (i := 412) (by decide +kernel)⟩
theorem lw_p4 : lw_okq (⟨"HeaderWays$Text", "isWord", "(Ljava/lang/String;)Z"⟩, 9) := ⟨⟨by decide +kernel, by decide +kernel⟩, List.mem_of_getElem? (i := 90) (by decide +kernel), List.mem_of_getElem? (i := 416) (by decide +kernel), List.mem_of_getElem? (i := 417) (by decide +kernel)⟩
theorem lw_p5 : lw_okq (⟨"HeaderWays$Text", "readNodes", "(I)Z"⟩, 9) := ⟨⟨by decide +kernel, by decide +kernel⟩, List.mem_of_getElem? (i := 90) (by decide +kernel), List.mem_of_getElem? (i := 468) (by decide +kernel), List.mem_of_getElem? (i := 469) (by decide +kernel)⟩
theorem lw_p6 : lw_okq (⟨"HeaderWays$Text", "readNumber", "(II)I"⟩, 9) := ⟨⟨by decide +kernel, by decide +kernel⟩, List.mem_of_getElem? (i := 90) (by decide +kernel), List.mem_of_getElem? (i := 472) (by decide +kernel), List.mem_of_getElem? (i := 473) (by decide +kernel)⟩
theorem lw_p7 : lw_okq (⟨"HeaderWays$Text", "keep", "(IIIII)V"⟩, 9) := ⟨⟨by decide +kernel, by decide +kernel⟩, List.mem_of_getElem? (i := 90) (by decide +kernel), List.mem_of_getElem? (i := 476) (by decide +kernel), List.mem_of_getElem? (i := 477) (by decide +kernel)⟩
theorem lw_p8 : lw_okq (⟨"HeaderWays$Text", "readLink", "(I)Z"⟩, 9) := ⟨⟨by decide +kernel, by decide +kernel⟩, List.mem_of_getElem? (i := 90) (by decide +kernel), List.mem_of_getElem? (i := 481) (by decide +kernel), List.mem_of_getElem? (i := 482) (by decide +kernel)⟩
theorem lw_p9 : lw_okq (⟨"HeaderWays$Text", "isTooMany", "(J)Z"⟩, 9) := ⟨⟨by decide +kernel, by decide +kernel⟩, List.mem_of_getElem? (i := 90) (by decide +kernel), List.mem_of_getElem? (i := 486) (by decide +kernel), List.mem_of_getElem? (i := 487) (by decide +kernel)⟩
theorem lw_p10 : lw_okq (⟨"HeaderWays", "doClause", "(I)V"⟩, 9) := ⟨⟨by decide +kernel, by decide +kernel⟩, List.mem_of_getElem? (i := 21) (by decide +kernel), List.mem_of_getElem? (i := 501) (by decide +kernel), List.mem_of_getElem? (i := 502) (by decide +kernel)⟩
theorem lw_p11 : lw_okq (⟨"HeaderWays$Net", "addLink", "(II)I"⟩, 9) := ⟨⟨by decide +kernel, by decide +kernel⟩, List.mem_of_getElem? (i := 29) (by decide +kernel), List.mem_of_getElem? (i := 529) (by decide +kernel), List.mem_of_getElem? (i := 530) (by decide +kernel)⟩
theorem lw_p12 : lw_okq (⟨"HeaderWays", "turn", "(I)I"⟩, 9) := ⟨⟨by decide +kernel, by decide +kernel⟩, List.mem_of_getElem? (i := 21) (by decide +kernel), List.mem_of_getElem? (i := 554) (by decide +kernel), List.mem_of_getElem? (i := 555) (by decide +kernel)⟩
theorem lw_p13 : lw_okq (⟨"HeaderWays$Past", "keep", "(IIII)V"⟩, 7) := ⟨⟨by decide +kernel, by decide +kernel⟩, List.mem_of_getElem? (i := 126) (by decide +kernel), List.mem_of_getElem? (i := 562) (by decide +kernel), List.mem_of_getElem? (i := 563) (by decide +kernel)⟩
theorem lw_p14 : lw_okq (⟨"HeaderWays$Routes", "startFrom", "(I)V"⟩, 4) := ⟨⟨by decide +kernel, by decide +kernel⟩, List.mem_of_getElem? (i := 155) (by decide +kernel), List.mem_of_getElem? (i := 617) (by decide +kernel), List.mem_of_getElem? (i := 618) (by decide +kernel)⟩
theorem lw_p15 : lw_okq (⟨"HeaderWays$Routes", "shorten", "(III)V"⟩, 4) := ⟨⟨by decide +kernel, by decide +kernel⟩, List.mem_of_getElem? (i := 155) (by decide +kernel), List.mem_of_getElem? (i := 621) (by decide +kernel), List.mem_of_getElem? (i := 622) (by decide +kernel)⟩
def lw_privs_1 : List (MethodName × Nat) := [(⟨"HeaderWays$Text", "readSign", "(C)Z"⟩, 9), (⟨"HeaderWays$Text", "readToken", "()V"⟩, 9), (⟨"HeaderWays$Text", "skipBlanks", "(I)I"⟩, 9), (⟨"HeaderWays$Text", "readClause", "(I)Z"⟩, 9), (⟨"HeaderWays$Text", "isWord", "(Ljava/lang/String;)Z"⟩, 9), (⟨"HeaderWays$Text", "readNodes", "(I)Z"⟩, 9), (⟨"HeaderWays$Text", "readNumber", "(II)I"⟩, 9), (⟨"HeaderWays$Text", "keep", "(IIIII)V"⟩, 9), (⟨"HeaderWays$Text", "readLink", "(I)Z"⟩, 9), (⟨"HeaderWays$Text", "isTooMany", "(J)Z"⟩, 9), (⟨"HeaderWays", "doClause", "(I)V"⟩, 9), (⟨"HeaderWays$Net", "addLink", "(II)I"⟩, 9), (⟨"HeaderWays", "turn", "(I)I"⟩, 9), (⟨"HeaderWays$Past", "keep", "(IIII)V"⟩, 7), (⟨"HeaderWays$Routes", "startFrom", "(I)V"⟩, 4), (⟨"HeaderWays$Routes", "shorten", "(III)V"⟩, 4)]
theorem lw_r1 : ∀ q ∈ lw_privs_1, lw_okq q := List.forall_mem_cons.mpr ⟨lw_p0, List.forall_mem_cons.mpr ⟨lw_p1, List.forall_mem_cons.mpr ⟨lw_p2, List.forall_mem_cons.mpr ⟨lw_p3, List.forall_mem_cons.mpr ⟨lw_p4, List.forall_mem_cons.mpr ⟨lw_p5, List.forall_mem_cons.mpr ⟨lw_p6, List.forall_mem_cons.mpr ⟨lw_p7, List.forall_mem_cons.mpr ⟨lw_p8, List.forall_mem_cons.mpr ⟨lw_p9, List.forall_mem_cons.mpr ⟨lw_p10, List.forall_mem_cons.mpr ⟨lw_p11, List.forall_mem_cons.mpr ⟨lw_p12, List.forall_mem_cons.mpr ⟨lw_p13, List.forall_mem_cons.mpr ⟨lw_p14, List.forall_mem_cons.mpr ⟨lw_p15, fun _ h => absurd h List.not_mem_nil⟩⟩⟩⟩⟩⟩⟩⟩⟩⟩⟩⟩⟩⟩⟩⟩
theorem lw_p16 : lw_okq (⟨"HeaderWays$Routes", "leadOn", "(IIII)V"⟩, 4) := ⟨⟨by decide +kernel, by decide +kernel⟩, List.mem_of_getElem? (i := 155) (by decide +kernel), List.mem_of_getElem? (i := 625) (by decide +kernel), List.mem_of_getElem? (i := 626) (by decide +kernel)⟩
theorem lw_p17 : lw_okq (⟨"HeaderWays$Rounds", "goesRound", "(III)Z"⟩, 6) := ⟨⟨by decide +kernel, by decide +kernel⟩, List.mem_of_getElem? (i := 174) (by decide +kernel), List.mem_of_getElem? (i := 664) (by decide +kernel), List.mem_of_getElem? (i := 665) (by decide +kernel)⟩
theorem lw_p18 : lw_okq (⟨"HeaderWays$Rounds", "firstToLearn", "(II)I"⟩, 6) := ⟨⟨by decide +kernel, by decide +kernel⟩, List.mem_of_getElem? (i := 174) (by decide +kernel), List.mem_of_getElem? (i := 695) (by decide +kernel), List.mem_of_getElem? (i := 696) (by decide +kernel)⟩
theorem lw_p19 : lw_okq (⟨"HeaderWays$Briefs", "shorten", "(IZ)Z"⟩, 10) := ⟨⟨by decide +kernel, by decide +kernel⟩, List.mem_of_getElem? (i := 247) (by decide +kernel), List.mem_of_getElem? (i := 741) (by decide +kernel), List.mem_of_getElem? (i := 742) (by decide +kernel)⟩
theorem lw_p20 : lw_okq (⟨"HeaderWays$Briefs", "followedFrom", "(I)I"⟩, 10) := ⟨⟨by decide +kernel, by decide +kernel⟩, List.mem_of_getElem? (i := 247) (by decide +kernel), List.mem_of_getElem? (i := 746) (by decide +kernel), List.mem_of_getElem? (i := 747) (by decide +kernel)⟩
theorem lw_p21 : lw_okq (⟨"HeaderWays$Briefs", "linkIn", "(III)I"⟩, 10) := ⟨⟨by decide +kernel, by decide +kernel⟩, List.mem_of_getElem? (i := 247) (by decide +kernel), List.mem_of_getElem? (i := 751) (by decide +kernel), List.mem_of_getElem? (i := 752) (by decide +kernel)⟩
theorem lw_p22 : lw_okq (⟨"HeaderWays$Briefs", "chooseFirst", "(I)V"⟩, 10) := ⟨⟨by decide +kernel, by decide +kernel⟩, List.mem_of_getElem? (i := 247) (by decide +kernel), List.mem_of_getElem? (i := 756) (by decide +kernel), List.mem_of_getElem? (i := 757) (by decide +kernel)⟩
theorem lw_p23 : lw_okq (⟨"HeaderWays$Briefs", "lowestKind", "(II)I"⟩, 10) := ⟨⟨by decide +kernel, by decide +kernel⟩, List.mem_of_getElem? (i := 247) (by decide +kernel), List.mem_of_getElem? (i := 760) (by decide +kernel), List.mem_of_getElem? (i := 761) (by decide +kernel)⟩
theorem lw_p24 : lw_okq (⟨"HeaderWays$Briefs", "writeFound", "()V"⟩, 10) := ⟨⟨by decide +kernel, by decide +kernel⟩, List.mem_of_getElem? (i := 247) (by decide +kernel), List.mem_of_getElem? (i := 764) (by decide +kernel), List.mem_of_getElem? (i := 765) (by decide +kernel)⟩
theorem lw_p25 : lw_okq (⟨"HeaderWays$Letters", "takeOffReached", "(I)V"⟩, 11) := ⟨⟨by decide +kernel, by decide +kernel⟩, List.mem_of_getElem? (i := 290) (by decide +kernel), List.mem_of_getElem? (i := 831) (by decide +kernel), List.mem_of_getElem? (i := 832) (by decide +kernel)⟩
theorem lw_p26 : lw_okq (⟨"HeaderWays$Letters", "linkAhead", "(I)I"⟩, 11) := ⟨⟨by decide +kernel, by decide +kernel⟩, List.mem_of_getElem? (i := 290) (by decide +kernel), List.mem_of_getElem? (i := 847) (by decide +kernel), List.mem_of_getElem? (i := 848) (by decide +kernel)⟩
theorem lw_p27 : lw_okq (⟨"HeaderWays$Letters", "crossLink", "(II)I"⟩, 11) := ⟨⟨by decide +kernel, by decide +kernel⟩, List.mem_of_getElem? (i := 290) (by decide +kernel), List.mem_of_getElem? (i := 870) (by decide +kernel), List.mem_of_getElem? (i := 871) (by decide +kernel)⟩
theorem lw_p28 : lw_okq (⟨"HeaderWays$Letters", "mend", "(II)Z"⟩, 11) := ⟨⟨by decide +kernel, by decide +kernel⟩, List.mem_of_getElem? (i := 290) (by decide +kernel), List.mem_of_getElem? (i := 874) (by decide +kernel), List.mem_of_getElem? (i := 875) (by decide +kernel)⟩
theorem lw_p29 : lw_okq (⟨"HeaderWaysModel", "reads", "(Z)I"⟩, 45) := ⟨⟨by decide +kernel, by decide +kernel⟩, List.mem_of_getElem? (i := 897) (by decide +kernel), List.mem_of_getElem? (i := 1054) (by decide +kernel), List.mem_of_getElem? (i := 1055) (by decide +kernel)⟩
theorem lw_p30 : lw_okq (⟨"HeaderWaysModel", "clause", "()V"⟩, 45) := ⟨⟨by decide +kernel, by decide +kernel⟩, List.mem_of_getElem? (i := 897) (by decide +kernel), List.mem_of_getElem? (i := 1058) (by decide +kernel), List.mem_of_getElem? (i := 1059) (by decide +kernel)⟩
theorem lw_p31 : lw_okq (⟨"HeaderWaysModel", "looks", "()I"⟩, 45) := ⟨⟨by decide +kernel, by decide +kernel⟩, List.mem_of_getElem? (i := 897) (by decide +kernel), List.mem_of_getElem? (i := 1062) (by decide +kernel), List.mem_of_getElem? (i := 1063) (by decide +kernel)⟩
def lw_privs_2 : List (MethodName × Nat) := [(⟨"HeaderWays$Routes", "leadOn", "(IIII)V"⟩, 4), (⟨"HeaderWays$Rounds", "goesRound", "(III)Z"⟩, 6), (⟨"HeaderWays$Rounds", "firstToLearn", "(II)I"⟩, 6), (⟨"HeaderWays$Briefs", "shorten", "(IZ)Z"⟩, 10), (⟨"HeaderWays$Briefs", "followedFrom", "(I)I"⟩, 10), (⟨"HeaderWays$Briefs", "linkIn", "(III)I"⟩, 10), (⟨"HeaderWays$Briefs", "chooseFirst", "(I)V"⟩, 10), (⟨"HeaderWays$Briefs", "lowestKind", "(II)I"⟩, 10), (⟨"HeaderWays$Briefs", "writeFound", "()V"⟩, 10), (⟨"HeaderWays$Letters", "takeOffReached", "(I)V"⟩, 11), (⟨"HeaderWays$Letters", "linkAhead", "(I)I"⟩, 11), (⟨"HeaderWays$Letters", "crossLink", "(II)I"⟩, 11), (⟨"HeaderWays$Letters", "mend", "(II)Z"⟩, 11), (⟨"HeaderWaysModel", "reads", "(Z)I"⟩, 45), (⟨"HeaderWaysModel", "clause", "()V"⟩, 45), (⟨"HeaderWaysModel", "looks", "()I"⟩, 45)]
theorem lw_r2 : ∀ q ∈ lw_privs_2, lw_okq q := List.forall_mem_cons.mpr ⟨lw_p16, List.forall_mem_cons.mpr ⟨lw_p17, List.forall_mem_cons.mpr ⟨lw_p18, List.forall_mem_cons.mpr ⟨lw_p19, List.forall_mem_cons.mpr ⟨lw_p20, List.forall_mem_cons.mpr ⟨lw_p21, List.forall_mem_cons.mpr ⟨lw_p22, List.forall_mem_cons.mpr ⟨lw_p23, List.forall_mem_cons.mpr ⟨lw_p24, List.forall_mem_cons.mpr ⟨lw_p25, List.forall_mem_cons.mpr ⟨lw_p26, List.forall_mem_cons.mpr ⟨lw_p27, List.forall_mem_cons.mpr ⟨lw_p28, List.forall_mem_cons.mpr ⟨lw_p29, List.forall_mem_cons.mpr ⟨lw_p30, List.forall_mem_cons.mpr ⟨lw_p31, fun _ h => absurd h List.not_mem_nil⟩⟩⟩⟩⟩⟩⟩⟩⟩⟩⟩⟩⟩⟩⟩⟩
theorem lw_p32 : lw_okq (⟨"HeaderWaysModel", "isLetter", "(I)Z"⟩, 45) := ⟨⟨by decide +kernel, by decide +kernel⟩, List.mem_of_getElem? (i := 897) (by decide +kernel), List.mem_of_getElem? (i := 1066) (by decide +kernel), List.mem_of_getElem? (i := 1067) (by decide +kernel)⟩
theorem lw_p33 : lw_okq (⟨"HeaderWaysModel", "isFigure", "(I)Z"⟩, 45) := ⟨⟨by decide +kernel, by decide +kernel⟩, List.mem_of_getElem? (i := 897) (by decide +kernel), List.mem_of_getElem? (i := 1070) (by decide +kernel), List.mem_of_getElem? (i := 1071) (by decide +kernel)⟩
theorem lw_p34 : lw_okq (⟨"HeaderWaysModel", "isName", "(IIIII)Z"⟩, 45) := ⟨⟨by decide +kernel, by decide +kernel⟩, List.mem_of_getElem? (i := 897) (by decide +kernel), List.mem_of_getElem? (i := 1074) (by decide +kernel), List.mem_of_getElem? (i := 1075) (by decide +kernel)⟩
theorem lw_p35 : lw_okq (⟨"HeaderWaysModel", "takes", "(Z)V"⟩, 45) := ⟨⟨by decide +kernel, by decide +kernel⟩, List.mem_of_getElem? (i := 897) (by decide +kernel), List.mem_of_getElem? (i := 1078) (by decide +kernel), List.mem_of_getElem? (i := 1079) (by decide +kernel)⟩
theorem lw_p36 : lw_okq (⟨"HeaderWaysModel", "readsNodes", "()V"⟩, 45) := ⟨⟨by decide +kernel, by decide +kernel⟩, List.mem_of_getElem? (i := 897) (by decide +kernel), List.mem_of_getElem? (i := 1082) (by decide +kernel), List.mem_of_getElem? (i := 1083) (by decide +kernel)⟩
theorem lw_p37 : lw_okq (⟨"HeaderWaysModel", "figure", "(II)I"⟩, 45) := ⟨⟨by decide +kernel, by decide +kernel⟩, List.mem_of_getElem? (i := 897) (by decide +kernel), List.mem_of_getElem? (i := 1086) (by decide +kernel), List.mem_of_getElem? (i := 1087) (by decide +kernel)⟩
theorem lw_p38 : lw_okq (⟨"HeaderWaysModel", "readsLink", "()V"⟩, 45) := ⟨⟨by decide +kernel, by decide +kernel⟩, List.mem_of_getElem? (i := 897) (by decide +kernel), List.mem_of_getElem? (i := 1090) (by decide +kernel), List.mem_of_getElem? (i := 1091) (by decide +kernel)⟩
theorem lw_p39 : lw_okq (⟨"HeaderWaysModel", "readLinkOf", "(II)I"⟩, 45) := ⟨⟨by decide +kernel, by decide +kernel⟩, List.mem_of_getElem? (i := 897) (by decide +kernel), List.mem_of_getElem? (i := 1094) (by decide +kernel), List.mem_of_getElem? (i := 1095) (by decide +kernel)⟩
theorem lw_p40 : lw_okq (⟨"HeaderWaysModel", "isLink", "(I)Z"⟩, 45) := ⟨⟨by decide +kernel, by decide +kernel⟩, List.mem_of_getElem? (i := 897) (by decide +kernel), List.mem_of_getElem? (i := 1106) (by decide +kernel), List.mem_of_getElem? (i := 1107) (by decide +kernel)⟩
theorem lw_p41 : lw_okq (⟨"HeaderWaysModel", "becomesUp", "(II)I"⟩, 45) := ⟨⟨by decide +kernel, by decide +kernel⟩, List.mem_of_getElem? (i := 897) (by decide +kernel), List.mem_of_getElem? (i := 1114) (by decide +kernel), List.mem_of_getElem? (i := 1115) (by decide +kernel)⟩
theorem lw_p42 : lw_okq (⟨"HeaderWaysModel", "notes", "()V"⟩, 45) := ⟨⟨by decide +kernel, by decide +kernel⟩, List.mem_of_getElem? (i := 897) (by decide +kernel), List.mem_of_getElem? (i := 1118) (by decide +kernel), List.mem_of_getElem? (i := 1119) (by decide +kernel)⟩
theorem lw_p43 : lw_okq (⟨"HeaderWaysModel", "isNode", "(I)Z"⟩, 45) := ⟨⟨by decide +kernel, by decide +kernel⟩, List.mem_of_getElem? (i := 897) (by decide +kernel), List.mem_of_getElem? (i := 1137) (by decide +kernel), List.mem_of_getElem? (i := 1138) (by decide +kernel)⟩
theorem lw_p44 : lw_okq (⟨"HeaderWaysModel", "lays", "(II)V"⟩, 45) := ⟨⟨by decide +kernel, by decide +kernel⟩, List.mem_of_getElem? (i := 897) (by decide +kernel), List.mem_of_getElem? (i := 1153) (by decide +kernel), List.mem_of_getElem? (i := 1154) (by decide +kernel)⟩
theorem lw_p45 : lw_okq (⟨"HeaderWaysModel", "length", "(II)I"⟩, 45) := ⟨⟨by decide +kernel, by decide +kernel⟩, List.mem_of_getElem? (i := 897) (by decide +kernel), List.mem_of_getElem? (i := 1160) (by decide +kernel), List.mem_of_getElem? (i := 1161) (by decide +kernel)⟩
theorem lw_p46 : lw_okq (⟨"HeaderWaysModel", "nextOf", "(IIII)I"⟩, 45) := ⟨⟨by decide +kernel, by decide +kernel⟩, List.mem_of_getElem? (i := 897) (by decide +kernel), List.mem_of_getElem? (i := 1164) (by decide +kernel), List.mem_of_getElem? (i := 1165) (by decide +kernel)⟩
theorem lw_p47 : lw_okq (⟨"HeaderWaysModel", "linkOf", "(II)I"⟩, 45) := ⟨⟨by decide +kernel, by decide +kernel⟩, List.mem_of_getElem? (i := 897) (by decide +kernel), List.mem_of_getElem? (i := 1168) (by decide +kernel), List.mem_of_getElem? (i := 1169) (by decide +kernel)⟩
def lw_privs_3 : List (MethodName × Nat) := [(⟨"HeaderWaysModel", "isLetter", "(I)Z"⟩, 45), (⟨"HeaderWaysModel", "isFigure", "(I)Z"⟩, 45), (⟨"HeaderWaysModel", "isName", "(IIIII)Z"⟩, 45), (⟨"HeaderWaysModel", "takes", "(Z)V"⟩, 45), (⟨"HeaderWaysModel", "readsNodes", "()V"⟩, 45), (⟨"HeaderWaysModel", "figure", "(II)I"⟩, 45), (⟨"HeaderWaysModel", "readsLink", "()V"⟩, 45), (⟨"HeaderWaysModel", "readLinkOf", "(II)I"⟩, 45), (⟨"HeaderWaysModel", "isLink", "(I)Z"⟩, 45), (⟨"HeaderWaysModel", "becomesUp", "(II)I"⟩, 45), (⟨"HeaderWaysModel", "notes", "()V"⟩, 45), (⟨"HeaderWaysModel", "isNode", "(I)Z"⟩, 45), (⟨"HeaderWaysModel", "lays", "(II)V"⟩, 45), (⟨"HeaderWaysModel", "length", "(II)I"⟩, 45), (⟨"HeaderWaysModel", "nextOf", "(IIII)I"⟩, 45), (⟨"HeaderWaysModel", "linkOf", "(II)I"⟩, 45)]
theorem lw_r3 : ∀ q ∈ lw_privs_3, lw_okq q := List.forall_mem_cons.mpr ⟨lw_p32, List.forall_mem_cons.mpr ⟨lw_p33, List.forall_mem_cons.mpr ⟨lw_p34, List.forall_mem_cons.mpr ⟨lw_p35, List.forall_mem_cons.mpr ⟨lw_p36, List.forall_mem_cons.mpr ⟨lw_p37, List.forall_mem_cons.mpr ⟨lw_p38, List.forall_mem_cons.mpr ⟨lw_p39, List.forall_mem_cons.mpr ⟨lw_p40, List.forall_mem_cons.mpr ⟨lw_p41, List.forall_mem_cons.mpr ⟨lw_p42, List.forall_mem_cons.mpr ⟨lw_p43, List.forall_mem_cons.mpr ⟨lw_p44, List.forall_mem_cons.mpr ⟨lw_p45, List.forall_mem_cons.mpr ⟨lw_p46, List.forall_mem_cons.mpr ⟨lw_p47, fun _ h => absurd h List.not_mem_nil⟩⟩⟩⟩⟩⟩⟩⟩⟩⟩⟩⟩⟩⟩⟩⟩
theorem lw_p48 : lw_okq (⟨"HeaderWaysModel", "walks", "(IIII)Z"⟩, 45) := ⟨⟨by decide +kernel, by decide +kernel⟩, List.mem_of_getElem? (i := 897) (by decide +kernel), List.mem_of_getElem? (i := 1180) (by decide +kernel), List.mem_of_getElem? (i := 1181) (by decide +kernel)⟩
theorem lw_p49 : lw_okq (⟨"HeaderWaysModel", "isOver", "(I)Z"⟩, 45) := ⟨⟨by decide +kernel, by decide +kernel⟩, List.mem_of_getElem? (i := 897) (by decide +kernel), List.mem_of_getElem? (i := 1184) (by decide +kernel), List.mem_of_getElem? (i := 1185) (by decide +kernel)⟩
theorem lw_p50 : lw_okq (⟨"HeaderWaysModel", "laysGoes", "()V"⟩, 45) := ⟨⟨by decide +kernel, by decide +kernel⟩, List.mem_of_getElem? (i := 897) (by decide +kernel), List.mem_of_getElem? (i := 1192) (by decide +kernel), List.mem_of_getElem? (i := 1193) (by decide +kernel)⟩
theorem lw_p51 : lw_okq (⟨"HeaderWaysModel", "ringsOf", "(II)I"⟩, 45) := ⟨⟨by decide +kernel, by decide +kernel⟩, List.mem_of_getElem? (i := 897) (by decide +kernel), List.mem_of_getElem? (i := 1196) (by decide +kernel), List.mem_of_getElem? (i := 1197) (by decide +kernel)⟩
theorem lw_p52 : lw_okq (⟨"HeaderWaysModel", "isSafe", "(I)Z"⟩, 45) := ⟨⟨by decide +kernel, by decide +kernel⟩, List.mem_of_getElem? (i := 897) (by decide +kernel), List.mem_of_getElem? (i := 1204) (by decide +kernel), List.mem_of_getElem? (i := 1205) (by decide +kernel)⟩
theorem lw_p53 : lw_okq (⟨"HeaderWaysModel", "behind", "()I"⟩, 45) := ⟨⟨by decide +kernel, by decide +kernel⟩, List.mem_of_getElem? (i := 897) (by decide +kernel), List.mem_of_getElem? (i := 1212) (by decide +kernel), List.mem_of_getElem? (i := 1213) (by decide +kernel)⟩
theorem lw_p54 : lw_okq (⟨"HeaderWaysModel", "laysOrders", "(I)V"⟩, 45) := ⟨⟨by decide +kernel, by decide +kernel⟩, List.mem_of_getElem? (i := 897) (by decide +kernel), List.mem_of_getElem? (i := 1216) (by decide +kernel), List.mem_of_getElem? (i := 1217) (by decide +kernel)⟩
theorem lw_p55 : lw_okq (⟨"HeaderWaysModel", "repairs", "(III)Z"⟩, 45) := ⟨⟨by decide +kernel, by decide +kernel⟩, List.mem_of_getElem? (i := 897) (by decide +kernel), List.mem_of_getElem? (i := 1236) (by decide +kernel), List.mem_of_getElem? (i := 1237) (by decide +kernel)⟩
theorem lw_p56 : lw_okq (⟨"HeaderWaysModel", "shortens", "([IIII)Z"⟩, 45) := ⟨⟨by decide +kernel, by decide +kernel⟩, List.mem_of_getElem? (i := 897) (by decide +kernel), List.mem_of_getElem? (i := 1240) (by decide +kernel), List.mem_of_getElem? (i := 1241) (by decide +kernel)⟩
theorem lw_p57 : lw_okq (⟨"HeaderWaysModel", "laysBy", "([IIII)V"⟩, 45) := ⟨⟨by decide +kernel, by decide +kernel⟩, List.mem_of_getElem? (i := 897) (by decide +kernel), List.mem_of_getElem? (i := 1244) (by decide +kernel), List.mem_of_getElem? (i := 1245) (by decide +kernel)⟩
theorem lw_p58 : lw_okq (⟨"HeaderWaysModel", "leads", "([IIIII)Z"⟩, 45) := ⟨⟨by decide +kernel, by decide +kernel⟩, List.mem_of_getElem? (i := 897) (by decide +kernel), List.mem_of_getElem? (i := 1248) (by decide +kernel), List.mem_of_getElem? (i := 1249) (by decide +kernel)⟩
theorem lw_p59 : lw_okq (⟨"HeaderWaysModel", "shortAt", "(I)I"⟩, 45) := ⟨⟨by decide +kernel, by decide +kernel⟩, List.mem_of_getElem? (i := 897) (by decide +kernel), List.mem_of_getElem? (i := 1252) (by decide +kernel), List.mem_of_getElem? (i := 1253) (by decide +kernel)⟩
theorem lw_p60 : lw_okq (⟨"HeaderWaysModel", "briefs", "()Z"⟩, 45) := ⟨⟨by decide +kernel, by decide +kernel⟩, List.mem_of_getElem? (i := 897) (by decide +kernel), List.mem_of_getElem? (i := 1268) (by decide +kernel), List.mem_of_getElem? (i := 1269) (by decide +kernel)⟩
theorem lw_p61 : lw_okq (⟨"HeaderWaysModel", "bears", "(II)V"⟩, 45) := ⟨⟨by decide +kernel, by decide +kernel⟩, List.mem_of_getElem? (i := 897) (by decide +kernel), List.mem_of_getElem? (i := 1284) (by decide +kernel), List.mem_of_getElem? (i := 1285) (by decide +kernel)⟩
theorem lw_p62 : lw_okq (⟨"HeaderWaysModel", "goesFrom", "(I)I"⟩, 45) := ⟨⟨by decide +kernel, by decide +kernel⟩, List.mem_of_getElem? (i := 897) (by decide +kernel), List.mem_of_getElem? (i := 1288) (by decide +kernel), List.mem_of_getElem? (i := 1289) (by decide +kernel)⟩
theorem lw_p63 : lw_okq (⟨"HeaderWaysModel", "leavesOwn", "(I)V"⟩, 45) := ⟨⟨by decide +kernel, by decide +kernel⟩, List.mem_of_getElem? (i := 897) (by decide +kernel), List.mem_of_getElem? (i := 1292) (by decide +kernel), List.mem_of_getElem? (i := 1293) (by decide +kernel)⟩
def lw_privs_4 : List (MethodName × Nat) := [(⟨"HeaderWaysModel", "walks", "(IIII)Z"⟩, 45), (⟨"HeaderWaysModel", "isOver", "(I)Z"⟩, 45), (⟨"HeaderWaysModel", "laysGoes", "()V"⟩, 45), (⟨"HeaderWaysModel", "ringsOf", "(II)I"⟩, 45), (⟨"HeaderWaysModel", "isSafe", "(I)Z"⟩, 45), (⟨"HeaderWaysModel", "behind", "()I"⟩, 45), (⟨"HeaderWaysModel", "laysOrders", "(I)V"⟩, 45), (⟨"HeaderWaysModel", "repairs", "(III)Z"⟩, 45), (⟨"HeaderWaysModel", "shortens", "([IIII)Z"⟩, 45), (⟨"HeaderWaysModel", "laysBy", "([IIII)V"⟩, 45), (⟨"HeaderWaysModel", "leads", "([IIIII)Z"⟩, 45), (⟨"HeaderWaysModel", "shortAt", "(I)I"⟩, 45), (⟨"HeaderWaysModel", "briefs", "()Z"⟩, 45), (⟨"HeaderWaysModel", "bears", "(II)V"⟩, 45), (⟨"HeaderWaysModel", "goesFrom", "(I)I"⟩, 45), (⟨"HeaderWaysModel", "leavesOwn", "(I)V"⟩, 45)]
theorem lw_r4 : ∀ q ∈ lw_privs_4, lw_okq q := List.forall_mem_cons.mpr ⟨lw_p48, List.forall_mem_cons.mpr ⟨lw_p49, List.forall_mem_cons.mpr ⟨lw_p50, List.forall_mem_cons.mpr ⟨lw_p51, List.forall_mem_cons.mpr ⟨lw_p52, List.forall_mem_cons.mpr ⟨lw_p53, List.forall_mem_cons.mpr ⟨lw_p54, List.forall_mem_cons.mpr ⟨lw_p55, List.forall_mem_cons.mpr ⟨lw_p56, List.forall_mem_cons.mpr ⟨lw_p57, List.forall_mem_cons.mpr ⟨lw_p58, List.forall_mem_cons.mpr ⟨lw_p59, List.forall_mem_cons.mpr ⟨lw_p60, List.forall_mem_cons.mpr ⟨lw_p61, List.forall_mem_cons.mpr ⟨lw_p62, List.forall_mem_cons.mpr ⟨lw_p63, fun _ h => absurd h List.not_mem_nil⟩⟩⟩⟩⟩⟩⟩⟩⟩⟩⟩⟩⟩⟩⟩⟩
theorem lw_p64 : lw_okq (⟨"HeaderWaysModel", "linkFrom", "(I)I"⟩, 45) := ⟨⟨by decide +kernel, by decide +kernel⟩, List.mem_of_getElem? (i := 897) (by decide +kernel), List.mem_of_getElem? (i := 1296) (by decide +kernel), List.mem_of_getElem? (i := 1297) (by decide +kernel)⟩
theorem lw_p65 : lw_okq (⟨"HeaderWaysModel", "otherEnd", "(II)I"⟩, 45) := ⟨⟨by decide +kernel, by decide +kernel⟩, List.mem_of_getElem? (i := 897) (by decide +kernel), List.mem_of_getElem? (i := 1300) (by decide +kernel), List.mem_of_getElem? (i := 1301) (by decide +kernel)⟩
theorem lw_p66 : lw_okq (⟨"HeaderWaysModel", "mends", "(II)Z"⟩, 45) := ⟨⟨by decide +kernel, by decide +kernel⟩, List.mem_of_getElem? (i := 897) (by decide +kernel), List.mem_of_getElem? (i := 1304) (by decide +kernel), List.mem_of_getElem? (i := 1305) (by decide +kernel)⟩
def lw_privs_5 : List (MethodName × Nat) := [(⟨"HeaderWaysModel", "linkFrom", "(I)I"⟩, 45), (⟨"HeaderWaysModel", "otherEnd", "(II)I"⟩, 45), (⟨"HeaderWaysModel", "mends", "(II)Z"⟩, 45)]
theorem lw_r5 : ∀ q ∈ lw_privs_5, lw_okq q := List.forall_mem_cons.mpr ⟨lw_p64, List.forall_mem_cons.mpr ⟨lw_p65, List.forall_mem_cons.mpr ⟨lw_p66, fun _ h => absurd h List.not_mem_nil⟩⟩⟩
def lw_privs : List (MethodName × Nat) := lw_privs_1 ++ (lw_privs_2 ++ (lw_privs_3 ++ (lw_privs_4 ++ (lw_privs_5))))
def lw_tbl : List Cond := k2_sels lw_privs ++ tables_1
theorem lw_privs_ok : ∀ q ∈ lw_privs, lw_okq q := by
  show ∀ q ∈ lw_privs_1 ++ (lw_privs_2 ++ (lw_privs_3 ++ (lw_privs_4 ++ (lw_privs_5)))), lw_okq q
  exact List.forall_mem_append.mpr ⟨lw_r1, List.forall_mem_append.mpr ⟨lw_r2, List.forall_mem_append.mpr ⟨lw_r3, List.forall_mem_append.mpr ⟨lw_r4, lw_r5⟩⟩⟩⟩

theorem x_in0 {big : List Cond} {w : Cond} (i : Nat) (h : big[i]? = some w) (g : goodWord w = true) : w ∈ big.filter goodWord := List.mem_filter.mpr ⟨List.mem_of_getElem? h, g⟩
/-- the words that every method here is said over -/
def x_GW : List Cond := lw_tbl.filter goodWord
def RX0 : String := "HeaderWays$Briefs"
def TX0 : u_T := fun k => match k with
  | 0 => ("HeaderWays$Briefs", "net", "LHeaderWays$Net;", true)
  | 1 => ("HeaderWays$Briefs", "routes", "LHeaderWays$Routes;", true)
  | 2 => ("HeaderWays$Briefs", "way", "LHeaderWays$Row;", true)
  | 3 => ("HeaderWays$Briefs", "alongCost", "[I", true)
  | 4 => ("HeaderWays$Briefs", "alongDelay", "[I", true)
  | 5 => ("HeaderWays$Briefs", "linksOn", "[I", true)
  | 6 => ("HeaderWays$Briefs", "fewest", "[I", true)
  | 7 => ("HeaderWays$Briefs", "goals", "[I", true)
  | 8 => ("HeaderWays$Briefs", "kinds", "[I", true)
  | _ => ("HeaderWays$Briefs", "found", "LHeaderWays$Segments;", true)
def tyX0 : Nat → FieldType := fun k => match k with
  | 0 => .object "HeaderWays$Net"
  | 1 => .object "HeaderWays$Routes"
  | 2 => .object "HeaderWays$Row"
  | 3 => .array .int
  | 4 => .array .int
  | 5 => .array .int
  | 6 => .array .int
  | 7 => .array .int
  | 8 => .array .int
  | _ => .object "HeaderWays$Segments"
theorem nmX0 : ∀ a, a < 10 → ∀ b, b < 10 → a ≠ b → (TX0 a).2.1 ≠ (TX0 b).2.1 := by decide +kernel
theorem tyX0_ok : ∀ k, k < 10 → parseFieldDescriptor (TX0 k).2.2.1 = some (tyX0 k) := by decide +kernel
def RX1 : String := "HeaderWays$Letters"
def TX1 : u_T := fun k => match k with
  | 0 => ("HeaderWays$Letters", "net", "LHeaderWays$Net;", true)
  | 1 => ("HeaderWays$Letters", "routes", "LHeaderWays$Routes;", true)
  | 2 => ("HeaderWays$Letters", "briefs", "LHeaderWays$Briefs;", true)
  | 3 => ("HeaderWays$Letters", "borne", "LHeaderWays$Segments;", true)
  | 4 => ("HeaderWays$Letters", "passed", "LHeaderWays$Row;", true)
  | 5 => ("HeaderWays$Letters", "protection", "I", false)
  | 6 => ("HeaderWays$Letters", "sent", "I", false)
  | 7 => ("HeaderWays$Letters", "there", "I", false)
  | 8 => ("HeaderWays$Letters", "mended", "I", false)
  | 9 => ("HeaderWays$Letters", "lost", "I", false)
  | _ => ("HeaderWays$Letters", "lastMended", "Z", false)
def tyX1 : Nat → FieldType := fun k => match k with
  | 0 => .object "HeaderWays$Net"
  | 1 => .object "HeaderWays$Routes"
  | 2 => .object "HeaderWays$Briefs"
  | 3 => .object "HeaderWays$Segments"
  | 4 => .object "HeaderWays$Row"
  | 5 => .int
  | 6 => .int
  | 7 => .int
  | 8 => .int
  | 9 => .int
  | _ => .boolean
theorem nmX1 : ∀ a, a < 11 → ∀ b, b < 11 → a ≠ b → (TX1 a).2.1 ≠ (TX1 b).2.1 := by decide +kernel
theorem tyX1_ok : ∀ k, k < 11 → parseFieldDescriptor (TX1 k).2.2.1 = some (tyX1 k) := by decide +kernel
def RX2 : String := "HeaderWays$Net"
def TX2 : u_T := fun k => match k with
  | 0 => ("HeaderWays$Net", "nodes", "I", false)
  | 1 => ("HeaderWays$Net", "links", "I", false)
  | 2 => ("HeaderWays$Net", "up", "I", false)
  | 3 => ("HeaderWays$Net", "low", "[I", true)
  | 4 => ("HeaderWays$Net", "high", "[I", true)
  | 5 => ("HeaderWays$Net", "cost", "[I", true)
  | 6 => ("HeaderWays$Net", "delay", "[I", true)
  | 7 => ("HeaderWays$Net", "crossed", "[I", true)
  | _ => ("HeaderWays$Net", "seen", "[I", true)
def tyX2 : Nat → FieldType := fun k => match k with
  | 0 => .int
  | 1 => .int
  | 2 => .int
  | 3 => .array .int
  | 4 => .array .int
  | 5 => .array .int
  | 6 => .array .int
  | 7 => .array .int
  | _ => .array .int
theorem nmX2 : ∀ a, a < 9 → ∀ b, b < 9 → a ≠ b → (TX2 a).2.1 ≠ (TX2 b).2.1 := by decide +kernel
theorem tyX2_ok : ∀ k, k < 9 → parseFieldDescriptor (TX2 k).2.2.1 = some (tyX2 k) := by decide +kernel
def RX3 : String := "HeaderWays$Past"
def TX3 : u_T := fun k => match k with
  | 0 => ("HeaderWays$Past", "net", "LHeaderWays$Net;", true)
  | 1 => ("HeaderWays$Past", "changes", "[I", true)
  | 2 => ("HeaderWays$Past", "places", "[I", true)
  | 3 => ("HeaderWays$Past", "firsts", "[I", true)
  | 4 => ("HeaderWays$Past", "seconds", "[I", true)
  | 5 => ("HeaderWays$Past", "ahead", "I", false)
  | _ => ("HeaderWays$Past", "size", "I", false)
def tyX3 : Nat → FieldType := fun k => match k with
  | 0 => .object "HeaderWays$Net"
  | 1 => .array .int
  | 2 => .array .int
  | 3 => .array .int
  | 4 => .array .int
  | 5 => .int
  | _ => .int
theorem nmX3 : ∀ a, a < 7 → ∀ b, b < 7 → a ≠ b → (TX3 a).2.1 ≠ (TX3 b).2.1 := by decide +kernel
theorem tyX3_ok : ∀ k, k < 7 → parseFieldDescriptor (TX3 k).2.2.1 = some (tyX3 k) := by decide +kernel
def RX4 : String := "HeaderWays$Rounds"
def TX4 : u_T := fun k => match k with
  | 0 => ("HeaderWays$Rounds", "net", "LHeaderWays$Net;", true)
  | 1 => ("HeaderWays$Rounds", "routes", "LHeaderWays$Routes;", true)
  | 2 => ("HeaderWays$Rounds", "aheadSeen", "[I", true)
  | 3 => ("HeaderWays$Rounds", "aheadUp", "[I", true)
  | 4 => ("HeaderWays$Rounds", "closed", "[Z", true)
  | _ => ("HeaderWays$Rounds", "order", "LHeaderWays$Row;", true)
def tyX4 : Nat → FieldType := fun k => match k with
  | 0 => .object "HeaderWays$Net"
  | 1 => .object "HeaderWays$Routes"
  | 2 => .array .int
  | 3 => .array .int
  | 4 => .array .boolean
  | _ => .object "HeaderWays$Row"
theorem nmX4 : ∀ a, a < 6 → ∀ b, b < 6 → a ≠ b → (TX4 a).2.1 ≠ (TX4 b).2.1 := by decide +kernel
theorem tyX4_ok : ∀ k, k < 6 → parseFieldDescriptor (TX4 k).2.2.1 = some (tyX4 k) := by decide +kernel
def RX5 : String := "HeaderWays$Routes"
def TX5 : u_T := fun k => match k with
  | 0 => ("HeaderWays$Routes", "net", "LHeaderWays$Net;", true)
  | 1 => ("HeaderWays$Routes", "sums", "[I", true)
  | 2 => ("HeaderWays$Routes", "nodesAhead", "[I", true)
  | _ => ("HeaderWays$Routes", "linksAhead", "[I", true)
def tyX5 : Nat → FieldType := fun k => match k with
  | 0 => .object "HeaderWays$Net"
  | 1 => .array .int
  | 2 => .array .int
  | _ => .array .int
theorem nmX5 : ∀ a, a < 4 → ∀ b, b < 4 → a ≠ b → (TX5 a).2.1 ≠ (TX5 b).2.1 := by decide +kernel
theorem tyX5_ok : ∀ k, k < 4 → parseFieldDescriptor (TX5 k).2.2.1 = some (tyX5 k) := by decide +kernel
def RX6 : String := "HeaderWays$Row"
def TX6 : u_T := fun k => match k with
  | 0 => ("HeaderWays$Row", "nodes", "[I", true)
  | _ => ("HeaderWays$Row", "length", "I", false)
def tyX6 : Nat → FieldType := fun k => match k with
  | 0 => .array .int
  | _ => .int
theorem nmX6 : ∀ a, a < 2 → ∀ b, b < 2 → a ≠ b → (TX6 a).2.1 ≠ (TX6 b).2.1 := by decide +kernel
theorem tyX6_ok : ∀ k, k < 2 → parseFieldDescriptor (TX6 k).2.2.1 = some (tyX6 k) := by decide +kernel
def RX7 : String := "HeaderWays$Segments"
def TX7 : u_T := fun k => match k with
  | 0 => ("HeaderWays$Segments", "kinds", "[I", true)
  | 1 => ("HeaderWays$Segments", "whats", "[I", true)
  | _ => ("HeaderWays$Segments", "size", "I", false)
def tyX7 : Nat → FieldType := fun k => match k with
  | 0 => .array .int
  | 1 => .array .int
  | _ => .int
theorem nmX7 : ∀ a, a < 3 → ∀ b, b < 3 → a ≠ b → (TX7 a).2.1 ≠ (TX7 b).2.1 := by decide +kernel
theorem tyX7_ok : ∀ k, k < 3 → parseFieldDescriptor (TX7 k).2.2.1 = some (tyX7 k) := by decide +kernel
def RX8 : String := "HeaderWays$Text"
def TX8 : u_T := fun k => match k with
  | 0 => ("HeaderWays$Text", "net", "LHeaderWays$Net;", true)
  | 1 => ("HeaderWays$Text", "letters", "[I", true)
  | 2 => ("HeaderWays$Text", "length", "I", false)
  | 3 => ("HeaderWays$Text", "clauses", "I", false)
  | 4 => ("HeaderWays$Text", "numbers", "[I", true)
  | 5 => ("HeaderWays$Text", "begin", "I", false)
  | 6 => ("HeaderWays$Text", "end", "I", false)
  | 7 => ("HeaderWays$Text", "nodes", "I", false)
  | _ => ("HeaderWays$Text", "pairs", "J", false)
def tyX8 : Nat → FieldType := fun k => match k with
  | 0 => .object "HeaderWays$Net"
  | 1 => .array .int
  | 2 => .int
  | 3 => .int
  | 4 => .array .int
  | 5 => .int
  | 6 => .int
  | 7 => .int
  | _ => .long
theorem nmX8 : ∀ a, a < 9 → ∀ b, b < 9 → a ≠ b → (TX8 a).2.1 ≠ (TX8 b).2.1 := by decide +kernel
theorem tyX8_ok : ∀ k, k < 9 → parseFieldDescriptor (TX8 k).2.2.1 = some (tyX8 k) := by decide +kernel
def RX9 : String := "HeaderWays"
def TX9 : u_T := fun k => match k with
  | 0 => ("HeaderWays", "net", "LHeaderWays$Net;", true)
  | 1 => ("HeaderWays", "text", "LHeaderWays$Text;", true)
  | 2 => ("HeaderWays", "past", "LHeaderWays$Past;", true)
  | 3 => ("HeaderWays", "routes", "LHeaderWays$Routes;", true)
  | 4 => ("HeaderWays", "rounds", "LHeaderWays$Rounds;", true)
  | 5 => ("HeaderWays", "list", "LHeaderWays$Segments;", true)
  | 6 => ("HeaderWays", "traced", "LHeaderWays$Row;", true)
  | 7 => ("HeaderWays", "briefs", "LHeaderWays$Briefs;", true)
  | _ => ("HeaderWays", "letters", "LHeaderWays$Letters;", true)
def tyX9 : Nat → FieldType := fun k => match k with
  | 0 => .object "HeaderWays$Net"
  | 1 => .object "HeaderWays$Text"
  | 2 => .object "HeaderWays$Past"
  | 3 => .object "HeaderWays$Routes"
  | 4 => .object "HeaderWays$Rounds"
  | 5 => .object "HeaderWays$Segments"
  | 6 => .object "HeaderWays$Row"
  | 7 => .object "HeaderWays$Briefs"
  | _ => .object "HeaderWays$Letters"
theorem nmX9 : ∀ a, a < 9 → ∀ b, b < 9 → a ≠ b → (TX9 a).2.1 ≠ (TX9 b).2.1 := by decide +kernel
theorem tyX9_ok : ∀ k, k < 9 → parseFieldDescriptor (TX9 k).2.2.1 = some (tyX9 k) := by decide +kernel
def RX10 : String := "HeaderWaysModel"
def TX10 : u_T := fun k => match k with
  | 0 => ("HeaderWaysModel", "n", "I", false)
  | 1 => ("HeaderWaysModel", "links", "I", false)
  | 2 => ("HeaderWaysModel", "low", "[I", true)
  | 3 => ("HeaderWaysModel", "high", "[I", true)
  | 4 => ("HeaderWaysModel", "goneOver", "[I", true)
  | 5 => ("HeaderWaysModel", "st", "[I", true)
  | 6 => ("HeaderWaysModel", "past", "[I", true)
  | 7 => ("HeaderWaysModel", "acts", "I", false)
  | 8 => ("HeaderWaysModel", "segments", "I", false)
  | 9 => ("HeaderWaysModel", "kindOf", "[I", true)
  | 10 => ("HeaderWaysModel", "whatOf", "[I", true)
  | 11 => ("HeaderWaysModel", "traced", "I", false)
  | 12 => ("HeaderWaysModel", "traceOf", "[I", true)
  | 13 => ("HeaderWaysModel", "isOn", "I", false)
  | 14 => ("HeaderWaysModel", "far", "[I", true)
  | 15 => ("HeaderWaysModel", "walked", "I", false)
  | 16 => ("HeaderWaysModel", "walk", "[I", true)
  | 17 => ("HeaderWaysModel", "by", "[I", true)
  | 18 => ("HeaderWaysModel", "fewest", "[I", true)
  | 19 => ("HeaderWaysModel", "shortMany", "I", false)
  | 20 => ("HeaderWaysModel", "shortKind", "[I", true)
  | 21 => ("HeaderWaysModel", "shortWhat", "[I", true)
  | 22 => ("HeaderWaysModel", "text", "[I", true)
  | 23 => ("HeaderWaysModel", "letters", "I", false)
  | 24 => ("HeaderWaysModel", "readAt", "I", false)
  | 25 => ("HeaderWaysModel", "tokenLong", "I", false)
  | 26 => ("HeaderWaysModel", "isFault", "Z", false)
  | 27 => ("HeaderWaysModel", "does", "Z", false)
  | 28 => ("HeaderWaysModel", "readN", "I", false)
  | 29 => ("HeaderWaysModel", "readLinks", "I", false)
  | 30 => ("HeaderWaysModel", "readLow", "[I", true)
  | 31 => ("HeaderWaysModel", "readHigh", "[I", true)
  | 32 => ("HeaderWaysModel", "goes", "[I", true)
  | 33 => ("HeaderWaysModel", "wouldGo", "[I", true)
  | 34 => ("HeaderWaysModel", "canGoOn", "[I", true)
  | 35 => ("HeaderWaysModel", "sent", "I", false)
  | 36 => ("HeaderWaysModel", "there", "I", false)
  | 37 => ("HeaderWaysModel", "mended", "I", false)
  | 38 => ("HeaderWaysModel", "lost", "I", false)
  | 39 => ("HeaderWaysModel", "isMended", "I", false)
  | 40 => ("HeaderWaysModel", "hops", "I", false)
  | 41 => ("HeaderWaysModel", "went", "[I", true)
  | 42 => ("HeaderWaysModel", "bears", "I", false)
  | 43 => ("HeaderWaysModel", "bearsKind", "[I", true)
  | _ => ("HeaderWaysModel", "bearsWhat", "[I", true)
def tyX10 : Nat → FieldType := fun k => match k with
  | 0 => .int
  | 1 => .int
  | 2 => .array .int
  | 3 => .array .int
  | 4 => .array .int
  | 5 => .array .int
  | 6 => .array .int
  | 7 => .int
  | 8 => .int
  | 9 => .array .int
  | 10 => .array .int
  | 11 => .int
  | 12 => .array .int
  | 13 => .int
  | 14 => .array .int
  | 15 => .int
  | 16 => .array .int
  | 17 => .array .int
  | 18 => .array .int
  | 19 => .int
  | 20 => .array .int
  | 21 => .array .int
  | 22 => .array .int
  | 23 => .int
  | 24 => .int
  | 25 => .int
  | 26 => .boolean
  | 27 => .boolean
  | 28 => .int
  | 29 => .int
  | 30 => .array .int
  | 31 => .array .int
  | 32 => .array .int
  | 33 => .array .int
  | 34 => .array .int
  | 35 => .int
  | 36 => .int
  | 37 => .int
  | 38 => .int
  | 39 => .int
  | 40 => .int
  | 41 => .array .int
  | 42 => .int
  | 43 => .array .int
  | _ => .array .int
theorem nmX10 : ∀ a, a < 45 → ∀ b, b < 45 → a ≠ b → (TX10 a).2.1 ≠ (TX10 b).2.1 := by decide +kernel
theorem tyX10_ok : ∀ k, k < 45 → parseFieldDescriptor (TX10 k).2.2.1 = some (tyX10 k) := by decide +kernel
def RJ6 : String := "java/lang/Integer"
def RJ13 : String := "java/lang/Long"
def RJ9 : String := "java/lang/Math"
def RJ0 : String := "java/lang/String"
def RJ1 : String := "java/lang/StringLatin1"
def RJ2 : String := "java/lang/StringUTF16"
def RJ7 : String := "java/util/Arrays"
def RJ3 : String := "jdk/internal/util/Preconditions"
def RL : String := "HeaderWaysLaw"
abbrev vwCl : List vw_C := [(RX0, TX0, 10), (RX1, TX1, 11), (RX2, TX2, 9), (RX3, TX3, 7), (RX4, TX4, 6), (RX5, TX5, 4), (RX6, TX6, 2), (RX7, TX7, 3), (RX8, TX8, 9), (RX9, TX9, 9), (RX10, TX10, 45)]
def x_R : Nat → String := fun k => match k with
  | 0 => RX0
  | 1 => RX1
  | 2 => RX2
  | 3 => RX3
  | 4 => RX4
  | 5 => RX5
  | 6 => RX6
  | 7 => RX7
  | 8 => RX8
  | 9 => RX9
  | _ => RX10
def x_T : Nat → u_T := fun k => match k with
  | 0 => TX0
  | 1 => TX1
  | 2 => TX2
  | 3 => TX3
  | 4 => TX4
  | 5 => TX5
  | 6 => TX6
  | 7 => TX7
  | 8 => TX8
  | 9 => TX9
  | _ => TX10
def x_ty : Nat → Nat → FieldType := fun k => match k with
  | 0 => tyX0
  | 1 => tyX1
  | 2 => tyX2
  | 3 => tyX3
  | 4 => tyX4
  | 5 => tyX5
  | 6 => tyX6
  | 7 => tyX7
  | 8 => tyX8
  | 9 => tyX9
  | _ => tyX10
def x_N : Nat → Nat := fun k => match k with
  | 0 => 10
  | 1 => 11
  | 2 => 9
  | 3 => 7
  | 4 => 6
  | 5 => 4
  | 6 => 2
  | 7 => 3
  | 8 => 9
  | 9 => 9
  | _ => 45
theorem x_cases {P : Nat → Prop} (h : ∀ k, k < 11 → P k) : ∀ k, k < 11 → P k := h
theorem x_cl : ∀ k, k < 11 → vwCl[k]? = some (x_R k, x_T k, x_N k) := by
  intro k hk
  rcases (show k = 0 ∨ k = 1 ∨ k = 2 ∨ k = 3 ∨ k = 4 ∨ k = 5 ∨ k = 6 ∨ k = 7 ∨ k = 8 ∨ k = 9 ∨ k = 10 by omega) with rfl | rfl | rfl | rfl | rfl | rfl | rfl | rfl | rfl | rfl | rfl <;> rfl
theorem x_N64 : ∀ k, k < 11 → x_N k ≤ 64 := by decide +kernel
theorem x_tyok : ∀ c, c < 11 → ∀ k, k < x_N c → parseFieldDescriptor (x_T c k).2.2.1 = some (x_ty c k) := by decide +kernel
theorem x_nm : ∀ c, c < 11 → ∀ a, a < x_N c → ∀ b, b < x_N c → a ≠ b → (x_T c a).2.1 ≠ (x_T c b).2.1 := by decide +kernel
theorem x_own0 : ∀ c, c < 11 → ∀ k, k < x_N c → (x_T c k).1 = x_R c := by decide +kernel
def x_lp0 : Nat → List Nat := fun k => match k with
  | 0 => [335, 337, 339, 341, 343, 345, 347, 349, 351, 353]
  | 1 => [380, 382, 384, 386, 388, 390, 392, 394, 396, 398, 400]
  | 2 => [136, 138, 140, 142, 144, 146, 148, 150, 152]
  | 3 => [206, 208, 210, 212, 214, 216, 218]
  | 4 => [276, 278, 280, 282, 284, 286]
  | 5 => [231, 233, 235, 237]
  | 6 => [263, 265]
  | 7 => [304, 306, 308]
  | 8 => [173, 175, 177, 179, 181, 183, 185, 187, 189]
  | 9 => [412, 414, 416, 418, 420, 422, 424, 426, 428]
  | _ => [1014, 1016, 1018, 1020, 1022, 1024, 1026, 1028, 1030, 1032, 1034, 1036, 1038, 1040, 1042, 1044, 1046, 1048, 1050, 1052, 1054, 1056, 1058, 1060, 1062, 1064, 1066, 1068, 1070, 1072, 1074, 1076, 1078, 1080, 1082, 1084, 1086, 1088, 1090, 1092, 1094, 1096, 1098, 1100, 1102]
theorem x_us0 : ∀ k, k < 10 → lw_tbl[(x_lp0 0).getD k 0]? = some (u_lay RX0 TX0 k) ∧ goodWord (u_lay RX0 TX0 k) = true := by decide +kernel
theorem x_us1 : ∀ k, k < 11 → lw_tbl[(x_lp0 1).getD k 0]? = some (u_lay RX1 TX1 k) ∧ goodWord (u_lay RX1 TX1 k) = true := by decide +kernel
theorem x_us2 : ∀ k, k < 9 → lw_tbl[(x_lp0 2).getD k 0]? = some (u_lay RX2 TX2 k) ∧ goodWord (u_lay RX2 TX2 k) = true := by decide +kernel
theorem x_us3 : ∀ k, k < 7 → lw_tbl[(x_lp0 3).getD k 0]? = some (u_lay RX3 TX3 k) ∧ goodWord (u_lay RX3 TX3 k) = true := by decide +kernel
theorem x_us4 : ∀ k, k < 6 → lw_tbl[(x_lp0 4).getD k 0]? = some (u_lay RX4 TX4 k) ∧ goodWord (u_lay RX4 TX4 k) = true := by decide +kernel
theorem x_us5 : ∀ k, k < 4 → lw_tbl[(x_lp0 5).getD k 0]? = some (u_lay RX5 TX5 k) ∧ goodWord (u_lay RX5 TX5 k) = true := by decide +kernel
theorem x_us6 : ∀ k, k < 2 → lw_tbl[(x_lp0 6).getD k 0]? = some (u_lay RX6 TX6 k) ∧ goodWord (u_lay RX6 TX6 k) = true := by decide +kernel
theorem x_us7 : ∀ k, k < 3 → lw_tbl[(x_lp0 7).getD k 0]? = some (u_lay RX7 TX7 k) ∧ goodWord (u_lay RX7 TX7 k) = true := by decide +kernel
theorem x_us8 : ∀ k, k < 9 → lw_tbl[(x_lp0 8).getD k 0]? = some (u_lay RX8 TX8 k) ∧ goodWord (u_lay RX8 TX8 k) = true := by decide +kernel
theorem x_us9 : ∀ k, k < 9 → lw_tbl[(x_lp0 9).getD k 0]? = some (u_lay RX9 TX9 k) ∧ goodWord (u_lay RX9 TX9 k) = true := by decide +kernel
theorem x_us10 : ∀ k, k < 45 → lw_tbl[(x_lp0 10).getD k 0]? = some (u_lay RX10 TX10 k) ∧ goodWord (u_lay RX10 TX10 k) = true := by decide +kernel
theorem x_usG {C : String} {U : u_T} {n : Nat} {f : Nat → Nat} (h : ∀ k, k < n → lw_tbl[f k]? = some (u_lay C U k) ∧ goodWord (u_lay C U k) = true) : ∀ w ∈ u_ws C U n, w ∈ x_GW := by
  intro w hw
  obtain ⟨k, hk, rfl⟩ := List.mem_map.mp hw
  exact x_in0 _ (h k (List.mem_range.mp hk)).1 (h k (List.mem_range.mp hk)).2
theorem x_uw : ∀ c, c < 11 → ∀ w ∈ u_ws (x_R c) (x_T c) (x_N c), w ∈ x_GW := by
  intro k hk
  rcases (show k = 0 ∨ k = 1 ∨ k = 2 ∨ k = 3 ∨ k = 4 ∨ k = 5 ∨ k = 6 ∨ k = 7 ∨ k = 8 ∨ k = 9 ∨ k = 10 by omega) with rfl | rfl | rfl | rfl | rfl | rfl | rfl | rfl | rfl | rfl | rfl
  · exact x_usG x_us0
  · exact x_usG x_us1
  · exact x_usG x_us2
  · exact x_usG x_us3
  · exact x_usG x_us4
  · exact x_usG x_us5
  · exact x_usG x_us6
  · exact x_usG x_us7
  · exact x_usG x_us8
  · exact x_usG x_us9
  · exact x_usG x_us10
theorem x_ins0 : Cond.instantiable RX0 10 ∈ x_GW ∧ Cond.initialized RX0 ∈ x_GW := ⟨x_in0 314 (by decide +kernel) (by decide +kernel), x_in0 77 (by decide +kernel) (by decide +kernel)⟩
theorem x_ins1 : Cond.instantiable RX1 11 ∈ x_GW ∧ Cond.initialized RX1 ∈ x_GW := ⟨x_in0 357 (by decide +kernel) (by decide +kernel), x_in0 78 (by decide +kernel) (by decide +kernel)⟩
theorem x_ins2 : Cond.instantiable RX2 9 ∈ x_GW ∧ Cond.initialized RX2 ∈ x_GW := ⟨x_in0 96 (by decide +kernel) (by decide +kernel), x_in0 69 (by decide +kernel) (by decide +kernel)⟩
theorem x_ins3 : Cond.instantiable RX3 7 ∈ x_GW ∧ Cond.initialized RX3 ∈ x_GW := ⟨x_in0 193 (by decide +kernel) (by decide +kernel), x_in0 71 (by decide +kernel) (by decide +kernel)⟩
theorem x_ins4 : Cond.instantiable RX4 6 ∈ x_GW ∧ Cond.initialized RX4 ∈ x_GW := ⟨x_in0 241 (by decide +kernel) (by decide +kernel), x_in0 73 (by decide +kernel) (by decide +kernel)⟩
theorem x_ins5 : Cond.instantiable RX5 4 ∈ x_GW ∧ Cond.initialized RX5 ∈ x_GW := ⟨x_in0 222 (by decide +kernel) (by decide +kernel), x_in0 72 (by decide +kernel) (by decide +kernel)⟩
theorem x_ins6 : Cond.instantiable RX6 2 ∈ x_GW ∧ Cond.initialized RX6 ∈ x_GW := ⟨x_in0 247 (by decide +kernel) (by decide +kernel), x_in0 74 (by decide +kernel) (by decide +kernel)⟩
theorem x_ins7 : Cond.instantiable RX7 3 ∈ x_GW ∧ Cond.initialized RX7 ∈ x_GW := ⟨x_in0 290 (by decide +kernel) (by decide +kernel), x_in0 76 (by decide +kernel) (by decide +kernel)⟩
theorem x_ins8 : Cond.instantiable RX8 9 ∈ x_GW ∧ Cond.initialized RX8 ∈ x_GW := ⟨x_in0 157 (by decide +kernel) (by decide +kernel), x_in0 70 (by decide +kernel) (by decide +kernel)⟩
theorem x_ins9 : Cond.instantiable RX9 9 ∈ x_GW ∧ Cond.initialized RX9 ∈ x_GW := ⟨x_in0 88 (by decide +kernel) (by decide +kernel), x_in0 68 (by decide +kernel) (by decide +kernel)⟩
theorem x_ins10 : Cond.instantiable RX10 45 ∈ x_GW ∧ Cond.initialized RX10 ∈ x_GW := ⟨x_in0 964 (by decide +kernel) (by decide +kernel), x_in0 79 (by decide +kernel) (by decide +kernel)⟩
theorem x_arrI : Cond.arrayClass .int ∈ x_GW := x_in0 155 (by decide +kernel) (by decide +kernel)
theorem x_arrZ : Cond.arrayClass .boolean ∈ x_GW := x_in0 268 (by decide +kernel) (by decide +kernel)
theorem x_obj : Cond.instanceMethod objectInit ∈ x_GW ∧ Cond.code objectInit ⟨#[0xb1]⟩ 1 none ∈ x_GW := ⟨x_in0 93 (by decide +kernel) (by decide +kernel), x_in0 94 (by decide +kernel) (by decide +kernel)⟩
end
section
/-! ===== THE PURE MACHINE. A world is a list of shapes (0, c: an object of class c; 1, n: an int array; 2, n: a boolean array); what is in it: ints by region and place, longs and references by region. The region of object k's field j is 64 * k + j (place 0), that of array k is 64 * k. A reference is a number: below 1000000 a place in the list of shapes, from there on something that lay there before (texts, the script). ===== -/
abbrev x_M : Type := List (Nat × Nat) × (Nat → Nat → Int32) × (Nat → Int64) × (Nat → Option Nat)
/-- a method: its class, name, code, locals, answer; the room that it asks: frames, words of locals, cells, slots -/
abbrev x_Mth : Type := String × MethodName × ByteArray × Nat × Option FieldType × Nat × Nat × Nat × Nat
abbrev x_own (m : x_Mth) : String := m.1
abbrev x_y (m : x_Mth) : MethodName := m.2.1
abbrev x_code (m : x_Mth) : ByteArray := m.2.2.1
abbrev x_maxL (m : x_Mth) : Nat := m.2.2.2.1
abbrev x_ret (m : x_Mth) : Option FieldType := m.2.2.2.2.1
abbrev x_fr (m : x_Mth) : Nat := m.2.2.2.2.2.1
abbrev x_lo (m : x_Mth) : Nat := m.2.2.2.2.2.2.1
abbrev x_mc (m : x_Mth) : Nat := m.2.2.2.2.2.2.2.1
abbrev x_ms (m : x_Mth) : Nat := m.2.2.2.2.2.2.2.2
def x_room (m : x_Mth) : Room := { frames := x_fr m, cells := x_mc m, slots := x_ms m, locals := x_lo m }
def x_ad (al ae : Nat → Nat) : Nat → Nat := fun k => if k < 1000000 then al k else ae k
def x_cv (ad : Nat → Nat) : Value → Value
  | .ref k => .ref (ad k)
  | v => v
theorem x_cv_cat (ad : Nat → Nat) (v : Value) : (x_cv ad v).category = v.category := by cases v <;> rfl
def x_lp (ad : Nat → Nat) (ls : List (Nat × Value)) : List (Nat × Value) := ls.map fun q => (q.1, x_cv ad q.2)
/-- a field's value, by its type -/
def x_fa (ty : FieldType) (K : (Nat → Nat → Int32) × (Nat → Int64) × (Nat → Option Nat)) (r : Nat) : Value := match ty with
  | .long => .long (K.2.1 r)
  | .object _ => (match K.2.2 r with | none => .null | some k => .ref k)
  | .array _ => (match K.2.2 r with | none => .null | some k => .ref k)
  | _ => .int (K.1 r 0)
def x_ent (cI cZ : ClassId) (ad : Nat → Nat) (K : (Nat → Nat → Int32) × (Nat → Int64) × (Nat → Option Nat)) (k : Nat) (q : Nat × Nat) : va_E := match q.1 with
  | 0 => .inr (q.2, (List.range (x_N q.2)).map fun j => x_cv ad (x_fa (x_ty q.2 j) K (64 * k + j)))
  | 1 => .inl (cI, q.2, .inl (K.1 (64 * k)))
  | _ => .inl (cZ, q.2, .inl (K.1 (64 * k)))
def x_ws (cI cZ : ClassId) (ad : Nat → Nat) (M : x_M) : va_W := M.1.mapIdx fun k q => (ad k, x_ent cI cZ ad M.2 k q)
theorem x_ws_get {cI cZ : ClassId} {ad : Nat → Nat} {M : x_M} {k : Nat} {q : Nat × Nat} (h : M.1[k]? = some q) : (x_ws cI cZ ad M)[k]? = some (ad k, x_ent cI cZ ad M.2 k q) := by
  simp [x_ws, List.getElem?_mapIdx, h]
/-- what every world keeps: few shapes of known classes; references lead to shapes; nothing lies beyond -/
def x_Ok (M : x_M) : Prop := M.1.length < 1000000 ∧ (∀ r k, M.2.2.2 r = some k → k < M.1.length) ∧ (∀ r, 64 * M.1.length ≤ r → M.2.1 r = (fun _ => 0) ∧ M.2.2.1 r = 0 ∧ M.2.2.2 r = none) ∧ ∀ k c : Nat, M.1[k]? = some (0, c) → c < 11
def x_Rep (D : va_G) (cI cZ : ClassId) (A : Nat → Prop) (ad : Nat → Nat) (M : x_M) (H0 H : Heap) (locs : List Loc) : Prop :=
  va_P D vwCl (x_ws cI cZ ad M) H ∧ va_D A (x_ws cI cZ ad M) ∧ va_S A H0 H locs ∧ x_Ok M
/-- what lay there before: the two texts (1000000, 1000001), their bytes (1000010, 1000011), a static -/
def x_Ext (ae : Nat → Nat) (A : Nat → Prop) (U : State) (H : Heap) : Prop :=
  vk_R RX8 68 "nodes" (ae 1000000) U ∧ vk_R RX8 76 "link" (ae 1000001) U ∧ vk_S 2 [5, 4] [[110, 111, 100, 101, 115], [108, 105, 110, 107]] (fun i => ae (1000000 + i)) (fun i => ae (1000010 + i)) A U H ∧ va_Z "java/lang/String" "COMPACT_STRINGS" "Z" (.int 1) A U H ∧ va_Nw (.methodLinkNest "HeaderWays" 9 ⟨"HeaderWays$Net", "<init>", "()V"⟩ "HeaderWays") U ∧
  (va_Z "jdk/internal/util/Preconditions" "SIOOBE_FORMATTER" "Ljava/util/function/BiFunction;" .null A U H ∨ va_Z "jdk/internal/util/Preconditions" "SIOOBE_FORMATTER" "Ljava/util/function/BiFunction;" (.ref (ae 1000030)) A U H)
theorem x_Ext.kept {ae : Nat → Nat} {A : Nat → Prop} {U : State} {H H1 : Heap} (h : x_Ext ae A U H) (hq : ∀ a : Nat, a < H.size → ¬ A a → H1[a]? = H[a]?) : x_Ext ae A U H1 :=
  ⟨h.1, h.2.1, h.2.2.1.kept hq, h.2.2.2.1.kept hq, h.2.2.2.2.1, h.2.2.2.2.2.elim (fun z => Or.inl (z.kept hq)) (fun z => Or.inr (z.kept hq))⟩
theorem x_Ext.narrow {ae : Nat → Nat} {A B : Nat → Prop} {U : State} {H : Heap} (h : x_Ext ae A U H) (hAB : ∀ q, B q → A q) : x_Ext ae B U H :=
  ⟨h.1, h.2.1, h.2.2.1.narrow hAB, h.2.2.2.1.narrow hAB, h.2.2.2.2.1, h.2.2.2.2.2.elim (fun z => Or.inl (z.narrow hAB)) (fun z => Or.inr (z.narrow hAB))⟩
theorem x_Ext.warm {ae : Nat → Nat} {A : Nat → Prop} {s U : State} {H : Heap} (h : x_Ext ae A s H) (hW : s.WarmedH U.vm) : x_Ext ae A U H :=
  ⟨h.1.warm hW, h.2.1.warm hW, h.2.2.1.moved hW.alike, h.2.2.2.1.moved hW.alike, va_Nw.warmM hW h.2.2.2.2.1, h.2.2.2.2.2.elim (fun z => Or.inl (z.moved hW.alike)) (fun z => Or.inr (z.moved hW.alike))⟩
theorem x_Ext.same {ae : Nat → Nat} {A : Nat → Prop} {s U : State} {H : Heap} (h : x_Ext ae A s H) (hv : U.vm = s.vm) : x_Ext ae A U H := by
  have ha : s.vm.Alike U.vm := by rw [hv]; exact Vm.Alike.refl _
  exact ⟨h.1.same hv, h.2.1.same hv, h.2.2.1.moved ha, h.2.2.2.1.moved ha, va_Nw.same rfl hv.symm h.2.2.2.2.1, h.2.2.2.2.2.elim (fun z => Or.inl (z.moved ha)) (fun z => Or.inr (z.moved ha))⟩
/-- what holds all through a method: the machine, its code, the words, the classes, what lay there before; a script, where it is the law (1000020) -/
def x_Ctx (scr : Option (Nat × (Nat → Int32))) (m : x_Mth) (p : Program) (s : State) (mi : MethodId) (args : Array Value) (meth : Method) (c : Code) (D : va_G) (cI cZ : ClassId) (A : Nat → Prop) (ae : Nat → Nat) : Prop :=
  p.tables.exec = Jvm.exec ∧ c.code = x_code m ∧ c.maxLocals = x_maxL m ∧ meth.sig.returnType = x_ret m ∧ meth.locks = false ∧ s.vm.findClass (x_own m) = some mi.cls ∧ meth.name = (x_y m).name ∧
  (∀ w ∈ x_GW, w.before args s = true) ∧ va_K D vwCl [(cI, .int), (cZ, .boolean)] s ∧ (∀ q, s.heap.size ≤ q → A q) ∧ x_Ext ae A s s.heap ∧ (∀ L xs, scr = some (L, xs) → va_X (ae 1000020) L xs s s.heap ∧ ae 1000020 < s.heap.size ∧ ¬ A (ae 1000020))
/-- the instruction at the end, for an answer -/
def x_retI (cc : ByteArray) (pc : Nat) (ret : Option FieldType) : Option Value → Prop
  | none => decode cc pc = .ok (.return_, 1) ∧ ret = none
  | some (.int v) => decode cc pc = .ok (.ireturn, 1) ∧ ∃ ty, ret = some ty ∧ narrow ty (.int v) = .int v
  | some (.long _) => decode cc pc = .ok (.lreturn, 1) ∧ ret = some .long
  | _ => False
/-- from a place of the method, with locals, stack and world, it comes to an end with Q of the answer and the world -/
def X (scr : Option (Nat × (Nat → Int32))) (m : x_Mth) (u : Nat × Nat) (pc : Nat) (ls : List (Nat × Value)) (st : List Value) (M : x_M) (Q : Option Value → x_M → Prop) : Prop :=
  ∀ (p : Program) (l : Launch) (e : Env) (s : State) (mi : MethodId) (args : Array Value) (below : List Frame) (meth : Method) (c : Code) (D : va_G) (cI cZ : ClassId) (A : Nat → Prop) (ae al : Nat → Nat) (H : Heap) (locs : List Loc) (lx : Array Slot) (Z : State → Prop),
    x_Ctx scr m p s mi args meth c D cI cZ A ae → x_Rep D cI cZ A (x_ad al ae) M s.heap H locs → lv_has lx (x_maxL m) (x_lp (x_ad al ae) ls) →
    (∀ (r : Option Value) (M' : x_M) (al' : Nat → Nat) (H' : Heap) (locs' : List Loc) (lx' : Array Slot) (pc' uc us : Nat), Q r M' → x_Rep D cI cZ A (x_ad al' ae) M' s.heap H' locs' → (∀ k, k < M.1.length ∨ M'.1.length ≤ k → al' k = al k) → M.1.length ≤ M'.1.length → M'.1.length + u.1 ≤ M.1.length + x_mc m →
      x_retI (x_code m) pc' (x_ret m) r → uc ≤ x_mc m → us ≤ x_ms m → W p l e (x_room m) s mi args below meth c H' locs' uc us Z (F0 mi pc' lx' ((r.map (x_cv (x_ad al' ae))).toList))) →
    u.1 ≤ x_mc m → u.2 ≤ x_ms m →
    W p l e (x_room m) s mi args below meth c H locs u.1 u.2 Z (F0 mi pc lx (st.map (x_cv (x_ad al ae))))
theorem x_mono {scr : Option (Nat × (Nat → Int32))} {m : x_Mth} {u : Nat × Nat} {pc : Nat} {ls : List (Nat × Value)} {st : List Value} {M : x_M} {Q Q' : Option Value → x_M → Prop} (h : X scr m u pc ls st M Q) (hq : ∀ r M', Q r M' → Q' r M') : X scr m u pc ls st M Q' := by
  intro p l e s mi args below meth c D cI cZ A ae al H locs lx Z C R hl hret h1 h2
  exact h p l e s mi args below meth c D cI cZ A ae al H locs lx Z C R hl (fun r M' al' H' locs' lx' pc' uc us q => hret r M' al' H' locs' lx' pc' uc us (hq r M' q)) h1 h2
/-- fewer locals are enough -/
theorem x_sub {scr : Option (Nat × (Nat → Int32))} {m : x_Mth} {u : Nat × Nat} {pc : Nat} {ls ls' : List (Nat × Value)} {st : List Value} {M : x_M} {Q : Option Value → x_M → Prop} (ks : List Nat) (hk : lv_pick ls ks = ls') (h : X scr m u pc ls' st M Q) : X scr m u pc ls st M Q := by
  intro p l e s mi args below meth c D cI cZ A ae al H locs lx Z C R hl hret h1 h2
  refine h p l e s mi args below meth c D cI cZ A ae al H locs lx Z C R (lv_sub hl ks ?_) hret h1 h2
  subst hk
  simp only [lv_pick, x_lp, List.map_filterMap, List.getElem?_map]
/-- an instruction that touches neither world nor locals -/
theorem x_W {scr : Option (Nat × (Nat → Int32))} {m : x_Mth} {u : Nat × Nat} {pc pc' : Nat} {ls : List (Nat × Value)} {st st' : List Value} {M : x_M} {Q : Option Value → x_M → Prop}
    (hw : ∀ (p : Program) (l : Launch) (e : Env) (s : State) (mi : MethodId) (args : Array Value) (below : List Frame) (meth : Method) (c : Code) (H : Heap) (locs : List Loc) (lx : Array Slot) (Z : State → Prop) (ad : Nat → Nat), p.tables.exec = Jvm.exec → c.code = x_code m → lv_has lx (x_maxL m) (x_lp ad ls) → s.vm.findClass (x_own m) = some mi.cls → (∀ w ∈ x_GW, w.before args s = true) →
      W p l e (x_room m) s mi args below meth c H locs u.1 u.2 Z (F0 mi pc' lx (st'.map (x_cv ad))) → W p l e (x_room m) s mi args below meth c H locs u.1 u.2 Z (F0 mi pc lx (st.map (x_cv ad))))
    (K : X scr m u pc' ls st' M Q) : X scr m u pc ls st M Q := by
  intro p l e s mi args below meth c D cI cZ A ae al H locs lx Z C R hl hret h1 h2
  exact hw p l e s mi args below meth c H locs lx Z (x_ad al ae) C.1 C.2.1 hl C.2.2.2.2.2.1 C.2.2.2.2.2.2.2.1 (K p l e s mi args below meth c D cI cZ A ae al H locs lx Z C R hl hret h1 h2)
end
section
/-! ===== single instructions over stack and locals ===== -/
theorem x_iadd {scr : Option (Nat × (Nat → Int32))} {m : x_Mth} {u : Nat × Nat} {pc : Nat} {ls : List (Nat × Value)} {st : List Value} {M : x_M} {Q : Option Value → x_M → Prop} {x y : Int32} (hd : decode (x_code m) pc = .ok (.iadd, 1))  (K : X scr m u (pc + 1) ls (.int (x + y) :: st) M Q) : X scr m u pc ls (.int y :: .int x :: st) M Q :=
  x_W (fun p l e s mi args below meth c H locs lx Z ad hx hb hl ho ht k => lv_iadd hx hb hd k) K
theorem x_isub {scr : Option (Nat × (Nat → Int32))} {m : x_Mth} {u : Nat × Nat} {pc : Nat} {ls : List (Nat × Value)} {st : List Value} {M : x_M} {Q : Option Value → x_M → Prop} {x y : Int32} (hd : decode (x_code m) pc = .ok (.isub, 1))  (K : X scr m u (pc + 1) ls (.int (x - y) :: st) M Q) : X scr m u pc ls (.int y :: .int x :: st) M Q :=
  x_W (fun p l e s mi args below meth c H locs lx Z ad hx hb hl ho ht k => lv_isub hx hb hd k) K
theorem x_imul {scr : Option (Nat × (Nat → Int32))} {m : x_Mth} {u : Nat × Nat} {pc : Nat} {ls : List (Nat × Value)} {st : List Value} {M : x_M} {Q : Option Value → x_M → Prop} {x y : Int32} (hd : decode (x_code m) pc = .ok (.imul, 1))  (K : X scr m u (pc + 1) ls (.int (x * y) :: st) M Q) : X scr m u pc ls (.int y :: .int x :: st) M Q :=
  x_W (fun p l e s mi args below meth c H locs lx Z ad hx hb hl ho ht k => lv_imul hx hb hd k) K
theorem x_iand {scr : Option (Nat × (Nat → Int32))} {m : x_Mth} {u : Nat × Nat} {pc : Nat} {ls : List (Nat × Value)} {st : List Value} {M : x_M} {Q : Option Value → x_M → Prop} {x y : Int32} (hd : decode (x_code m) pc = .ok (.iand, 1))  (K : X scr m u (pc + 1) ls (.int (x &&& y) :: st) M Q) : X scr m u pc ls (.int y :: .int x :: st) M Q :=
  x_W (fun p l e s mi args below meth c H locs lx Z ad hx hb hl ho ht k => lv_iand hx hb hd k) K
theorem x_ior {scr : Option (Nat × (Nat → Int32))} {m : x_Mth} {u : Nat × Nat} {pc : Nat} {ls : List (Nat × Value)} {st : List Value} {M : x_M} {Q : Option Value → x_M → Prop} {x y : Int32} (hd : decode (x_code m) pc = .ok (.ior, 1))  (K : X scr m u (pc + 1) ls (.int (x ||| y) :: st) M Q) : X scr m u pc ls (.int y :: .int x :: st) M Q :=
  x_W (fun p l e s mi args below meth c H locs lx Z ad hx hb hl ho ht k => lv_ior hx hb hd k) K
theorem x_ixor {scr : Option (Nat × (Nat → Int32))} {m : x_Mth} {u : Nat × Nat} {pc : Nat} {ls : List (Nat × Value)} {st : List Value} {M : x_M} {Q : Option Value → x_M → Prop} {x y : Int32} (hd : decode (x_code m) pc = .ok (.ixor, 1))  (K : X scr m u (pc + 1) ls (.int (x ^^^ y) :: st) M Q) : X scr m u pc ls (.int y :: .int x :: st) M Q :=
  x_W (fun p l e s mi args below meth c H locs lx Z ad hx hb hl ho ht k => lv_ixor hx hb hd k) K
theorem x_ishl {scr : Option (Nat × (Nat → Int32))} {m : x_Mth} {u : Nat × Nat} {pc : Nat} {ls : List (Nat × Value)} {st : List Value} {M : x_M} {Q : Option Value → x_M → Prop} {x y : Int32} (hd : decode (x_code m) pc = .ok (.ishl, 1))  (K : X scr m u (pc + 1) ls (.int (x <<< (y &&& 31)) :: st) M Q) : X scr m u pc ls (.int y :: .int x :: st) M Q :=
  x_W (fun p l e s mi args below meth c H locs lx Z ad hx hb hl ho ht k => lv_ishl hx hb hd k) K
theorem x_ishr {scr : Option (Nat × (Nat → Int32))} {m : x_Mth} {u : Nat × Nat} {pc : Nat} {ls : List (Nat × Value)} {st : List Value} {M : x_M} {Q : Option Value → x_M → Prop} {x y : Int32} (hd : decode (x_code m) pc = .ok (.ishr, 1))  (K : X scr m u (pc + 1) ls (.int (x >>> (y &&& 31)) :: st) M Q) : X scr m u pc ls (.int y :: .int x :: st) M Q :=
  x_W (fun p l e s mi args below meth c H locs lx Z ad hx hb hl ho ht k => lv_ishr hx hb hd k) K
theorem x_idiv {scr : Option (Nat × (Nat → Int32))} {m : x_Mth} {u : Nat × Nat} {pc : Nat} {ls : List (Nat × Value)} {st : List Value} {M : x_M} {Q : Option Value → x_M → Prop} {x y : Int32} (hd : decode (x_code m) pc = .ok (.idiv, 1)) (hn : ¬ y = 0) (K : X scr m u (pc + 1) ls (.int (x / y) :: st) M Q) : X scr m u pc ls (.int y :: .int x :: st) M Q :=
  x_W (fun p l e s mi args below meth c H locs lx Z ad hx hb hl ho ht k => lv_idiv hx hb hd hn k) K
theorem x_irem {scr : Option (Nat × (Nat → Int32))} {m : x_Mth} {u : Nat × Nat} {pc : Nat} {ls : List (Nat × Value)} {st : List Value} {M : x_M} {Q : Option Value → x_M → Prop} {x y : Int32} (hd : decode (x_code m) pc = .ok (.irem, 1)) (hn : ¬ y = 0) (K : X scr m u (pc + 1) ls (.int (x - x / y * y) :: st) M Q) : X scr m u pc ls (.int y :: .int x :: st) M Q :=
  x_W (fun p l e s mi args below meth c H locs lx Z ad hx hb hl ho ht k => lv_irem hx hb hd hn k) K
theorem x_iushr {scr : Option (Nat × (Nat → Int32))} {m : x_Mth} {u : Nat × Nat} {pc : Nat} {ls : List (Nat × Value)} {st : List Value} {M : x_M} {Q : Option Value → x_M → Prop} {x y : Int32} (hd : decode (x_code m) pc = .ok (.iushr, 1))  (K : X scr m u (pc + 1) ls (.int ((x.toUInt32 >>> (y.toUInt32 &&& Int32.toUInt32 31)).toInt32) :: st) M Q) : X scr m u pc ls (.int y :: .int x :: st) M Q :=
  x_W (fun p l e s mi args below meth c H locs lx Z ad hx hb hl ho ht k => lv_iushr hx hb hd rfl k) K
theorem x_ladd {scr : Option (Nat × (Nat → Int32))} {m : x_Mth} {u : Nat × Nat} {pc : Nat} {ls : List (Nat × Value)} {st : List Value} {M : x_M} {Q : Option Value → x_M → Prop} {x y : Int64} (hd : decode (x_code m) pc = .ok (.ladd, 1))  (K : X scr m u (pc + 1) ls (.long (x + y) :: st) M Q) : X scr m u pc ls (.long y :: .long x :: st) M Q :=
  x_W (fun p l e s mi args below meth c H locs lx Z ad hx hb hl ho ht k => lv_ladd hx hb hd k) K
theorem x_lsub {scr : Option (Nat × (Nat → Int32))} {m : x_Mth} {u : Nat × Nat} {pc : Nat} {ls : List (Nat × Value)} {st : List Value} {M : x_M} {Q : Option Value → x_M → Prop} {x y : Int64} (hd : decode (x_code m) pc = .ok (.lsub, 1))  (K : X scr m u (pc + 1) ls (.long (x - y) :: st) M Q) : X scr m u pc ls (.long y :: .long x :: st) M Q :=
  x_W (fun p l e s mi args below meth c H locs lx Z ad hx hb hl ho ht k => lv_lsub hx hb hd k) K
theorem x_land {scr : Option (Nat × (Nat → Int32))} {m : x_Mth} {u : Nat × Nat} {pc : Nat} {ls : List (Nat × Value)} {st : List Value} {M : x_M} {Q : Option Value → x_M → Prop} {x y : Int64} (hd : decode (x_code m) pc = .ok (.land, 1))  (K : X scr m u (pc + 1) ls (.long (x &&& y) :: st) M Q) : X scr m u pc ls (.long y :: .long x :: st) M Q :=
  x_W (fun p l e s mi args below meth c H locs lx Z ad hx hb hl ho ht k => lv_land hx hb hd k) K
theorem x_lor {scr : Option (Nat × (Nat → Int32))} {m : x_Mth} {u : Nat × Nat} {pc : Nat} {ls : List (Nat × Value)} {st : List Value} {M : x_M} {Q : Option Value → x_M → Prop} {x y : Int64} (hd : decode (x_code m) pc = .ok (.lor, 1))  (K : X scr m u (pc + 1) ls (.long (x ||| y) :: st) M Q) : X scr m u pc ls (.long y :: .long x :: st) M Q :=
  x_W (fun p l e s mi args below meth c H locs lx Z ad hx hb hl ho ht k => lv_lor hx hb hd k) K
theorem x_lushr {scr : Option (Nat × (Nat → Int32))} {m : x_Mth} {u : Nat × Nat} {pc : Nat} {ls : List (Nat × Value)} {st : List Value} {M : x_M} {Q : Option Value → x_M → Prop} {x : Int64} {y : Int32} (hd : decode (x_code m) pc = .ok (.lushr, 1))  (K : X scr m u (pc + 1) ls (.long ((x.toUInt64 >>> (y.toInt64.toUInt64 &&& Int64.toUInt64 63)).toInt64) :: st) M Q) : X scr m u pc ls (.int y :: .long x :: st) M Q :=
  x_W (fun p l e s mi args below meth c H locs lx Z ad hx hb hl ho ht k => lv_lushr hx hb hd rfl k) K
theorem x_lshl {scr : Option (Nat × (Nat → Int32))} {m : x_Mth} {u : Nat × Nat} {pc : Nat} {ls : List (Nat × Value)} {st : List Value} {M : x_M} {Q : Option Value → x_M → Prop} {x : Int64} {y : Int32} (hd : decode (x_code m) pc = .ok (.lshl, 1))  (K : X scr m u (pc + 1) ls (.long (x <<< (y.toInt64 &&& 63)) :: st) M Q) : X scr m u pc ls (.int y :: .long x :: st) M Q :=
  x_W (fun p l e s mi args below meth c H locs lx Z ad hx hb hl ho ht k => lv_lshl hx hb hd rfl k) K
theorem x_lcmp {scr : Option (Nat × (Nat → Int32))} {m : x_Mth} {u : Nat × Nat} {pc : Nat} {ls : List (Nat × Value)} {st : List Value} {M : x_M} {Q : Option Value → x_M → Prop} {x y : Int64} (hd : decode (x_code m) pc = .ok (.lcmp, 1))  (K : X scr m u (pc + 1) ls (.int (lg_cmp x y) :: st) M Q) : X scr m u pc ls (.long y :: .long x :: st) M Q :=
  x_W (fun p l e s mi args below meth c H locs lx Z ad hx hb hl ho ht k => W.lcmp hx hb hd k) K
theorem x_l2i {scr : Option (Nat × (Nat → Int32))} {m : x_Mth} {u : Nat × Nat} {pc : Nat} {ls : List (Nat × Value)} {st : List Value} {M : x_M} {Q : Option Value → x_M → Prop} {x : Int64} (hd : decode (x_code m) pc = .ok (.l2i, 1))  (K : X scr m u (pc + 1) ls (.int x.toInt32 :: st) M Q) : X scr m u pc ls (.long x :: st) M Q :=
  x_W (fun p l e s mi args below meth c H locs lx Z ad hx hb hl ho ht k => lv_l2i hx hb hd rfl k) K
theorem x_i2c {scr : Option (Nat × (Nat → Int32))} {m : x_Mth} {u : Nat × Nat} {pc : Nat} {ls : List (Nat × Value)} {st : List Value} {M : x_M} {Q : Option Value → x_M → Prop} {x : Int32} (hd : decode (x_code m) pc = .ok (.i2c, 1))  (K : X scr m u (pc + 1) ls (.int (x.toUInt32 % 65536).toInt32 :: st) M Q) : X scr m u pc ls (.int x :: st) M Q :=
  x_W (fun p l e s mi args below meth c H locs lx Z ad hx hb hl ho ht k => lv_i2c hx hb hd rfl k) K
theorem x_iconst {scr : Option (Nat × (Nat → Int32))} {m : x_Mth} {u : Nat × Nat} {pc : Nat} {ls : List (Nat × Value)} {st : List Value} {M : x_M} {Q : Option Value → x_M → Prop} {n : Int} {v : Int32} (hd : decode (x_code m) pc = .ok (.iconst n, 1)) (hv : Int32.ofInt n = v) (K : X scr m u (pc + 1) ls (.int v :: st) M Q) : X scr m u pc ls (st) M Q :=
  x_W (fun p l e s mi args below meth c H locs lx Z ad hx hb hl ho ht k => lv_iconst hx hb hd hv k) K
theorem x_bipush {scr : Option (Nat × (Nat → Int32))} {m : x_Mth} {u : Nat × Nat} {pc : Nat} {ls : List (Nat × Value)} {st : List Value} {M : x_M} {Q : Option Value → x_M → Prop} {n : Int} {v : Int32} (hd : decode (x_code m) pc = .ok (.bipush n, 2)) (hv : (Int8.ofInt n).toInt32 = v) (K : X scr m u (pc + 2) ls (.int v :: st) M Q) : X scr m u pc ls (st) M Q :=
  x_W (fun p l e s mi args below meth c H locs lx Z ad hx hb hl ho ht k => lv_bipush hx hb hd hv k) K
theorem x_sipush {scr : Option (Nat × (Nat → Int32))} {m : x_Mth} {u : Nat × Nat} {pc : Nat} {ls : List (Nat × Value)} {st : List Value} {M : x_M} {Q : Option Value → x_M → Prop} {n : Int} {v : Int32} (hd : decode (x_code m) pc = .ok (.sipush n, 3)) (hv : (Int16.ofInt n).toInt32 = v) (K : X scr m u (pc + 3) ls (.int v :: st) M Q) : X scr m u pc ls (st) M Q :=
  x_W (fun p l e s mi args below meth c H locs lx Z ad hx hb hl ho ht k => lv_sipush hx hb hd hv k) K
theorem x_lconst {scr : Option (Nat × (Nat → Int32))} {m : x_Mth} {u : Nat × Nat} {pc : Nat} {ls : List (Nat × Value)} {st : List Value} {M : x_M} {Q : Option Value → x_M → Prop} {n : Fin 2} {v : Int64} (hd : decode (x_code m) pc = .ok (.lconst n, 1)) (hv : Int64.ofNat (n : Nat) = v) (K : X scr m u (pc + 1) ls (.long v :: st) M Q) : X scr m u pc ls (st) M Q :=
  x_W (fun p l e s mi args below meth c H locs lx Z ad hx hb hl ho ht k => lv_lconst hx hb hd hv k) K
theorem x_ldcw {scr : Option (Nat × (Nat → Int32))} {m : x_Mth} {u : Nat × Nat} {pc : Nat} {ls : List (Nat × Value)} {st : List Value} {M : x_M} {Q : Option Value → x_M → Prop} {idx : Nat} {v : Int32} (hd : decode (x_code m) pc = .ok (.ldc_w idx, 3)) (hw : Cond.constant (x_own m) idx v ∈ x_GW) (K : X scr m u (pc + 3) ls (.int v :: st) M Q) : X scr m u pc ls (st) M Q :=
  x_W (fun p l e s mi args below meth c H locs lx Z ad hx hb hl ho ht k => lv_ldcw hx hb ho (ht _ hw) hd k) K
theorem x_ldc2 {scr : Option (Nat × (Nat → Int32))} {m : x_Mth} {u : Nat × Nat} {pc : Nat} {ls : List (Nat × Value)} {st : List Value} {M : x_M} {Q : Option Value → x_M → Prop} {idx : Nat} {v : Int64} (hd : decode (x_code m) pc = .ok (.ldc2_w idx, 3)) (hw : Cond.constantLong (x_own m) idx v ∈ x_GW) (K : X scr m u (pc + 3) ls (.long v :: st) M Q) : X scr m u pc ls (st) M Q :=
  x_W (fun p l e s mi args below meth c H locs lx Z ad hx hb hl ho ht k => lv_ldc2 hx hb ho (ht _ hw) hd k) K
theorem x_iload_n {scr : Option (Nat × (Nat → Int32))} {m : x_Mth} {u : Nat × Nat} {pc : Nat} {ls : List (Nat × Value)} {st : List Value} {M : x_M} {Q : Option Value → x_M → Prop} {k : Fin 4} {i : Nat} {x : Int32} (q : Nat) (hd : decode (x_code m) pc = .ok (.iload_n k, 1)) (hi : (k : Nat) = i) (hq : ls[q]? = some (i, .int x)) (K : X scr m u (pc + 1) ls (.int x :: st) M Q) : X scr m u pc ls (st) M Q :=
  x_W (fun p l e s mi args below meth c H locs lx Z ad hx hb hl ho ht k => lv_iload_n hx hb hd hi (lv_at hl q (by simp [x_lp, hq, x_cv])) k) K
theorem x_lload_n {scr : Option (Nat × (Nat → Int32))} {m : x_Mth} {u : Nat × Nat} {pc : Nat} {ls : List (Nat × Value)} {st : List Value} {M : x_M} {Q : Option Value → x_M → Prop} {k : Fin 4} {i : Nat} {x : Int64} (q : Nat) (hd : decode (x_code m) pc = .ok (.lload_n k, 1)) (hi : (k : Nat) = i) (hq : ls[q]? = some (i, .long x)) (K : X scr m u (pc + 1) ls (.long x :: st) M Q) : X scr m u pc ls (st) M Q :=
  x_W (fun p l e s mi args below meth c H locs lx Z ad hx hb hl ho ht k => lv_lload_n hx hb hd hi (lv_at hl q (by simp [x_lp, hq, x_cv])) k) K
theorem x_aload_n {scr : Option (Nat × (Nat → Int32))} {m : x_Mth} {u : Nat × Nat} {pc : Nat} {ls : List (Nat × Value)} {st : List Value} {M : x_M} {Q : Option Value → x_M → Prop} {k : Fin 4} {i : Nat} {x : Nat} (q : Nat) (hd : decode (x_code m) pc = .ok (.aload_n k, 1)) (hi : (k : Nat) = i) (hq : ls[q]? = some (i, .ref x)) (K : X scr m u (pc + 1) ls (.ref x :: st) M Q) : X scr m u pc ls (st) M Q :=
  x_W (fun p l e s mi args below meth c H locs lx Z ad hx hb hl ho ht k => lv_aload_n hx hb hd hi (lv_at hl q (by simp [x_lp, hq, x_cv])) k) K
theorem x_iload {scr : Option (Nat × (Nat → Int32))} {m : x_Mth} {u : Nat × Nat} {pc : Nat} {ls : List (Nat × Value)} {st : List Value} {M : x_M} {Q : Option Value → x_M → Prop} {i : Nat} {x : Int32} (q : Nat) (hd : decode (x_code m) pc = .ok (.iload i, 2)) (hq : ls[q]? = some (i, .int x)) (K : X scr m u (pc + 2) ls (.int x :: st) M Q) : X scr m u pc ls (st) M Q :=
  x_W (fun p l e s mi args below meth c H locs lx Z ad hx hb hl ho ht k => lv_iload hx hb hd (lv_at hl q (by simp [x_lp, hq, x_cv])) k) K
theorem x_lload {scr : Option (Nat × (Nat → Int32))} {m : x_Mth} {u : Nat × Nat} {pc : Nat} {ls : List (Nat × Value)} {st : List Value} {M : x_M} {Q : Option Value → x_M → Prop} {i : Nat} {x : Int64} (q : Nat) (hd : decode (x_code m) pc = .ok (.lload i, 2)) (hq : ls[q]? = some (i, .long x)) (K : X scr m u (pc + 2) ls (.long x :: st) M Q) : X scr m u pc ls (st) M Q :=
  x_W (fun p l e s mi args below meth c H locs lx Z ad hx hb hl ho ht k => lv_lload hx hb hd (lv_at hl q (by simp [x_lp, hq, x_cv])) k) K
theorem x_aload {scr : Option (Nat × (Nat → Int32))} {m : x_Mth} {u : Nat × Nat} {pc : Nat} {ls : List (Nat × Value)} {st : List Value} {M : x_M} {Q : Option Value → x_M → Prop} {i : Nat} {x : Nat} (q : Nat) (hd : decode (x_code m) pc = .ok (.aload i, 2)) (hq : ls[q]? = some (i, .ref x)) (K : X scr m u (pc + 2) ls (.ref x :: st) M Q) : X scr m u pc ls (st) M Q :=
  x_W (fun p l e s mi args below meth c H locs lx Z ad hx hb hl ho ht k => lv_aload hx hb hd (lv_at hl q (by simp [x_lp, hq, x_cv])) k) K
theorem x_lvat {ls : List (Nat × Value)} {ad : Nat → Nat} {q i : Nat} {v : Value} (h : ls[q]? = some (i, v)) : (x_lp ad ls)[q]? = some (i, x_cv ad v) := by simp [x_lp, h]
theorem x_dup {scr : Option (Nat × (Nat → Int32))} {m : x_Mth} {u : Nat × Nat} {pc : Nat} {ls : List (Nat × Value)} {st : List Value} {M : x_M} {Q : Option Value → x_M → Prop} {v : Value} (hd : decode (x_code m) pc = .ok (.dup, 1)) (hv : v.category = 1) (K : X scr m u (pc + 1) ls (v :: v :: st) M Q) : X scr m u pc ls (v :: st) M Q :=
  x_W (fun p l e s mi args below meth c H locs lx Z ad hx hb hl ho ht k => lv_dup hx hb hd (by rw [x_cv_cat]; exact hv) k) K
theorem x_dup2 {scr : Option (Nat × (Nat → Int32))} {m : x_Mth} {u : Nat × Nat} {pc : Nat} {ls : List (Nat × Value)} {st : List Value} {M : x_M} {Q : Option Value → x_M → Prop} {v w : Value} (hd : decode (x_code m) pc = .ok (.dup2, 1)) (hv : v.category = 1) (hw : w.category = 1) (K : X scr m u (pc + 1) ls (v :: w :: v :: w :: st) M Q) : X scr m u pc ls (v :: w :: st) M Q :=
  x_W (fun p l e s mi args below meth c H locs lx Z ad hx hb hl ho ht k => lv_dup2_11 hx hb hd (by rw [x_cv_cat]; exact hv) (by rw [x_cv_cat]; exact hw) k) K
theorem x_pop {scr : Option (Nat × (Nat → Int32))} {m : x_Mth} {u : Nat × Nat} {pc : Nat} {ls : List (Nat × Value)} {st : List Value} {M : x_M} {Q : Option Value → x_M → Prop} {v : Value} (hd : decode (x_code m) pc = .ok (.pop, 1)) (hv : v.category = 1) (K : X scr m u (pc + 1) ls (st) M Q) : X scr m u pc ls (v :: st) M Q :=
  x_W (fun p l e s mi args below meth c H locs lx Z ad hx hb hl ho ht k => lv_pop hx hb hd (by rw [x_cv_cat]; exact hv) k) K
theorem x_icmp_eq {scr : Option (Nat × (Nat → Int32))} {m : x_Mth} {u : Nat × Nat} {pc : Nat} {ls : List (Nat × Value)} {st : List Value} {M : x_M} {Q : Option Value → x_M → Prop} {x y : Int32} {off : Int} (tgt : Nat) (hd : decode (x_code m) pc = .ok (.if_icmp .eq off, 3)) (ht : (pc : Int) + off = (tgt : Int)) (K1 : (x = y) → X scr m u tgt ls st M Q) (K2 : ¬ (x = y) → X scr m u (pc + 3) ls st M Q) : X scr m u pc ls (.int y :: .int x :: st) M Q := by
  intro p l e s mi args below meth c D cI cZ A ae al H locs lx Z C R hl hret h1 h2
  exact lv_icmp_eq C.1 C.2.1 hd ht (fun h => K1 h p l e s mi args below meth c D cI cZ A ae al H locs lx Z C R hl hret h1 h2) (fun h => K2 h p l e s mi args below meth c D cI cZ A ae al H locs lx Z C R hl hret h1 h2)
theorem x_icmp_ne {scr : Option (Nat × (Nat → Int32))} {m : x_Mth} {u : Nat × Nat} {pc : Nat} {ls : List (Nat × Value)} {st : List Value} {M : x_M} {Q : Option Value → x_M → Prop} {x y : Int32} {off : Int} (tgt : Nat) (hd : decode (x_code m) pc = .ok (.if_icmp .ne off, 3)) (ht : (pc : Int) + off = (tgt : Int)) (K1 : (¬ x = y) → X scr m u tgt ls st M Q) (K2 : (x = y) → X scr m u (pc + 3) ls st M Q) : X scr m u pc ls (.int y :: .int x :: st) M Q := by
  intro p l e s mi args below meth c D cI cZ A ae al H locs lx Z C R hl hret h1 h2
  exact lv_icmp_ne C.1 C.2.1 hd ht (fun h => K1 h p l e s mi args below meth c D cI cZ A ae al H locs lx Z C R hl hret h1 h2) (fun h => K2 h p l e s mi args below meth c D cI cZ A ae al H locs lx Z C R hl hret h1 h2)
theorem x_icmp_lt {scr : Option (Nat × (Nat → Int32))} {m : x_Mth} {u : Nat × Nat} {pc : Nat} {ls : List (Nat × Value)} {st : List Value} {M : x_M} {Q : Option Value → x_M → Prop} {x y : Int32} {off : Int} (tgt : Nat) (hd : decode (x_code m) pc = .ok (.if_icmp .lt off, 3)) (ht : (pc : Int) + off = (tgt : Int)) (K1 : (x < y) → X scr m u tgt ls st M Q) (K2 : ¬ (x < y) → X scr m u (pc + 3) ls st M Q) : X scr m u pc ls (.int y :: .int x :: st) M Q := by
  intro p l e s mi args below meth c D cI cZ A ae al H locs lx Z C R hl hret h1 h2
  exact lv_icmp_lt C.1 C.2.1 hd ht (fun h => K1 h p l e s mi args below meth c D cI cZ A ae al H locs lx Z C R hl hret h1 h2) (fun h => K2 h p l e s mi args below meth c D cI cZ A ae al H locs lx Z C R hl hret h1 h2)
theorem x_icmp_ge {scr : Option (Nat × (Nat → Int32))} {m : x_Mth} {u : Nat × Nat} {pc : Nat} {ls : List (Nat × Value)} {st : List Value} {M : x_M} {Q : Option Value → x_M → Prop} {x y : Int32} {off : Int} (tgt : Nat) (hd : decode (x_code m) pc = .ok (.if_icmp .ge off, 3)) (ht : (pc : Int) + off = (tgt : Int)) (K1 : (y ≤ x) → X scr m u tgt ls st M Q) (K2 : ¬ (y ≤ x) → X scr m u (pc + 3) ls st M Q) : X scr m u pc ls (.int y :: .int x :: st) M Q := by
  intro p l e s mi args below meth c D cI cZ A ae al H locs lx Z C R hl hret h1 h2
  exact lv_icmp_ge C.1 C.2.1 hd ht (fun h => K1 h p l e s mi args below meth c D cI cZ A ae al H locs lx Z C R hl hret h1 h2) (fun h => K2 h p l e s mi args below meth c D cI cZ A ae al H locs lx Z C R hl hret h1 h2)
theorem x_icmp_gt {scr : Option (Nat × (Nat → Int32))} {m : x_Mth} {u : Nat × Nat} {pc : Nat} {ls : List (Nat × Value)} {st : List Value} {M : x_M} {Q : Option Value → x_M → Prop} {x y : Int32} {off : Int} (tgt : Nat) (hd : decode (x_code m) pc = .ok (.if_icmp .gt off, 3)) (ht : (pc : Int) + off = (tgt : Int)) (K1 : (y < x) → X scr m u tgt ls st M Q) (K2 : ¬ (y < x) → X scr m u (pc + 3) ls st M Q) : X scr m u pc ls (.int y :: .int x :: st) M Q := by
  intro p l e s mi args below meth c D cI cZ A ae al H locs lx Z C R hl hret h1 h2
  exact lv_icmp_gt C.1 C.2.1 hd ht (fun h => K1 h p l e s mi args below meth c D cI cZ A ae al H locs lx Z C R hl hret h1 h2) (fun h => K2 h p l e s mi args below meth c D cI cZ A ae al H locs lx Z C R hl hret h1 h2)
theorem x_icmp_le {scr : Option (Nat × (Nat → Int32))} {m : x_Mth} {u : Nat × Nat} {pc : Nat} {ls : List (Nat × Value)} {st : List Value} {M : x_M} {Q : Option Value → x_M → Prop} {x y : Int32} {off : Int} (tgt : Nat) (hd : decode (x_code m) pc = .ok (.if_icmp .le off, 3)) (ht : (pc : Int) + off = (tgt : Int)) (K1 : (x ≤ y) → X scr m u tgt ls st M Q) (K2 : ¬ (x ≤ y) → X scr m u (pc + 3) ls st M Q) : X scr m u pc ls (.int y :: .int x :: st) M Q := by
  intro p l e s mi args below meth c D cI cZ A ae al H locs lx Z C R hl hret h1 h2
  exact lv_icmp_le C.1 C.2.1 hd ht (fun h => K1 h p l e s mi args below meth c D cI cZ A ae al H locs lx Z C R hl hret h1 h2) (fun h => K2 h p l e s mi args below meth c D cI cZ A ae al H locs lx Z C R hl hret h1 h2)
theorem x_if_eq {scr : Option (Nat × (Nat → Int32))} {m : x_Mth} {u : Nat × Nat} {pc : Nat} {ls : List (Nat × Value)} {st : List Value} {M : x_M} {Q : Option Value → x_M → Prop} {x : Int32} {off : Int} (tgt : Nat) (hd : decode (x_code m) pc = .ok (.ifCond .eq off, 3)) (ht : (pc : Int) + off = (tgt : Int)) (K1 : (x = 0) → X scr m u tgt ls st M Q) (K2 : ¬ (x = 0) → X scr m u (pc + 3) ls st M Q) : X scr m u pc ls (.int x :: st) M Q := by
  intro p l e s mi args below meth c D cI cZ A ae al H locs lx Z C R hl hret h1 h2
  exact lv_if_eq C.1 C.2.1 hd ht (fun h => K1 h p l e s mi args below meth c D cI cZ A ae al H locs lx Z C R hl hret h1 h2) (fun h => K2 h p l e s mi args below meth c D cI cZ A ae al H locs lx Z C R hl hret h1 h2)
theorem x_if_ne {scr : Option (Nat × (Nat → Int32))} {m : x_Mth} {u : Nat × Nat} {pc : Nat} {ls : List (Nat × Value)} {st : List Value} {M : x_M} {Q : Option Value → x_M → Prop} {x : Int32} {off : Int} (tgt : Nat) (hd : decode (x_code m) pc = .ok (.ifCond .ne off, 3)) (ht : (pc : Int) + off = (tgt : Int)) (K1 : (¬ x = 0) → X scr m u tgt ls st M Q) (K2 : (x = 0) → X scr m u (pc + 3) ls st M Q) : X scr m u pc ls (.int x :: st) M Q := by
  intro p l e s mi args below meth c D cI cZ A ae al H locs lx Z C R hl hret h1 h2
  exact lv_if_ne C.1 C.2.1 hd ht (fun h => K1 h p l e s mi args below meth c D cI cZ A ae al H locs lx Z C R hl hret h1 h2) (fun h => K2 h p l e s mi args below meth c D cI cZ A ae al H locs lx Z C R hl hret h1 h2)
theorem x_if_lt {scr : Option (Nat × (Nat → Int32))} {m : x_Mth} {u : Nat × Nat} {pc : Nat} {ls : List (Nat × Value)} {st : List Value} {M : x_M} {Q : Option Value → x_M → Prop} {x : Int32} {off : Int} (tgt : Nat) (hd : decode (x_code m) pc = .ok (.ifCond .lt off, 3)) (ht : (pc : Int) + off = (tgt : Int)) (K1 : (x < 0) → X scr m u tgt ls st M Q) (K2 : ¬ (x < 0) → X scr m u (pc + 3) ls st M Q) : X scr m u pc ls (.int x :: st) M Q := by
  intro p l e s mi args below meth c D cI cZ A ae al H locs lx Z C R hl hret h1 h2
  exact lv_if_lt C.1 C.2.1 hd ht (fun h => K1 h p l e s mi args below meth c D cI cZ A ae al H locs lx Z C R hl hret h1 h2) (fun h => K2 h p l e s mi args below meth c D cI cZ A ae al H locs lx Z C R hl hret h1 h2)
theorem x_if_ge {scr : Option (Nat × (Nat → Int32))} {m : x_Mth} {u : Nat × Nat} {pc : Nat} {ls : List (Nat × Value)} {st : List Value} {M : x_M} {Q : Option Value → x_M → Prop} {x : Int32} {off : Int} (tgt : Nat) (hd : decode (x_code m) pc = .ok (.ifCond .ge off, 3)) (ht : (pc : Int) + off = (tgt : Int)) (K1 : (0 ≤ x) → X scr m u tgt ls st M Q) (K2 : ¬ (0 ≤ x) → X scr m u (pc + 3) ls st M Q) : X scr m u pc ls (.int x :: st) M Q := by
  intro p l e s mi args below meth c D cI cZ A ae al H locs lx Z C R hl hret h1 h2
  exact lv_if_ge C.1 C.2.1 hd ht (fun h => K1 h p l e s mi args below meth c D cI cZ A ae al H locs lx Z C R hl hret h1 h2) (fun h => K2 h p l e s mi args below meth c D cI cZ A ae al H locs lx Z C R hl hret h1 h2)
theorem x_if_gt {scr : Option (Nat × (Nat → Int32))} {m : x_Mth} {u : Nat × Nat} {pc : Nat} {ls : List (Nat × Value)} {st : List Value} {M : x_M} {Q : Option Value → x_M → Prop} {x : Int32} {off : Int} (tgt : Nat) (hd : decode (x_code m) pc = .ok (.ifCond .gt off, 3)) (ht : (pc : Int) + off = (tgt : Int)) (K1 : (0 < x) → X scr m u tgt ls st M Q) (K2 : ¬ (0 < x) → X scr m u (pc + 3) ls st M Q) : X scr m u pc ls (.int x :: st) M Q := by
  intro p l e s mi args below meth c D cI cZ A ae al H locs lx Z C R hl hret h1 h2
  exact lv_if_gt C.1 C.2.1 hd ht (fun h => K1 h p l e s mi args below meth c D cI cZ A ae al H locs lx Z C R hl hret h1 h2) (fun h => K2 h p l e s mi args below meth c D cI cZ A ae al H locs lx Z C R hl hret h1 h2)
theorem x_if_le {scr : Option (Nat × (Nat → Int32))} {m : x_Mth} {u : Nat × Nat} {pc : Nat} {ls : List (Nat × Value)} {st : List Value} {M : x_M} {Q : Option Value → x_M → Prop} {x : Int32} {off : Int} (tgt : Nat) (hd : decode (x_code m) pc = .ok (.ifCond .le off, 3)) (ht : (pc : Int) + off = (tgt : Int)) (K1 : (x ≤ 0) → X scr m u tgt ls st M Q) (K2 : ¬ (x ≤ 0) → X scr m u (pc + 3) ls st M Q) : X scr m u pc ls (.int x :: st) M Q := by
  intro p l e s mi args below meth c D cI cZ A ae al H locs lx Z C R hl hret h1 h2
  exact lv_if_le C.1 C.2.1 hd ht (fun h => K1 h p l e s mi args below meth c D cI cZ A ae al H locs lx Z C R hl hret h1 h2) (fun h => K2 h p l e s mi args below meth c D cI cZ A ae al H locs lx Z C R hl hret h1 h2)
theorem x_goto {scr : Option (Nat × (Nat → Int32))} {m : x_Mth} {u : Nat × Nat} {pc : Nat} {ls : List (Nat × Value)} {st : List Value} {M : x_M} {Q : Option Value → x_M → Prop} {off : Int} (tgt : Nat) (hd : decode (x_code m) pc = .ok (.goto off, 3)) (ht : (pc : Int) + off = (tgt : Int)) (K : X scr m u tgt ls st M Q) : X scr m u pc ls st M Q :=
  x_W (fun p l e s mi args below meth c H locs lx Z ad hx hb hl ho h k => lv_goto hx hb hd ht k) K
theorem x_swIn {scr : Option (Nat × (Nat → Int32))} {m : x_Mth} {u : Nat × Nat} {pc : Nat} {ls : List (Nat × Value)} {st : List Value} {M : x_M} {Q : Option Value → x_M → Prop} {dflt lo hi : Int} {offs : Array Int} {len : Nat} {x : Int32} {off : Int} (tgt : Nat) (hd : decode (x_code m) pc = .ok (.tableswitch dflt lo hi offs, len)) (h1 : ¬ x.toInt < lo) (h2 : ¬ hi < x.toInt) (ho : offs[(x.toInt - lo).toNat]? = some off) (ht : (pc : Int) + off = (tgt : Int)) (K : X scr m u tgt ls st M Q) : X scr m u pc ls (.int x :: st) M Q :=
  x_W (fun p l e s mi args below meth c H locs lx Z ad hx hb hl _ h k => lv_tableIn hx hb hd h1 h2 ho ht k) K
theorem x_swOut {scr : Option (Nat × (Nat → Int32))} {m : x_Mth} {u : Nat × Nat} {pc : Nat} {ls : List (Nat × Value)} {st : List Value} {M : x_M} {Q : Option Value → x_M → Prop} {dflt lo hi : Int} {offs : Array Int} {len : Nat} {x : Int32} (tgt : Nat) (hd : decode (x_code m) pc = .ok (.tableswitch dflt lo hi offs, len)) (h : x.toInt < lo ∨ hi < x.toInt) (ht : (pc : Int) + dflt = (tgt : Int)) (K : X scr m u tgt ls st M Q) : X scr m u pc ls (.int x :: st) M Q :=
  x_W (fun p l e s mi args below meth c H locs lx Z ad hx hb hl _ _ k => lv_tableOut hx hb hd h ht k) K
/-- a local of one word is stored: the list stays in order, a long that loses a half is dropped -/
def x_st1 (ls : List (Nat × Value)) (i : Nat) (v : Value) : List (Nat × Value) := (ls.filter fun q => decide (q.1 < i) && !(q.1 + 1 == i && q.2.category == 2)) ++ (i, v) :: ls.filter fun q => decide (i < q.1)
def x_st2 (ls : List (Nat × Value)) (i : Nat) (v : Value) : List (Nat × Value) := (ls.filter fun q => decide (q.1 < i) && !(q.1 + 1 == i && q.2.category == 2)) ++ (i, v) :: ls.filter fun q => decide (i + 1 < q.1)
theorem x_lv_of {ls : Array Slot} {n : Nat} {l l' : List (Nat × Value)} (h : lv_has ls n l) (hs : ∀ q ∈ l', q ∈ l) : lv_has ls n l' := ⟨h.1, h.2.1, fun q hq => h.2.2 q (hs q hq)⟩
theorem x_st1_of {lx : Array Slot} {n : Nat} {ls : List (Nat × Value)} {i : Nat} {v : Value} {ad : Nat → Nat} (h : lv_has lx n ((i, x_cv ad v) :: (x_lp ad ls).filter (fun q => !(q.1 == i) && !(q.1 + 1 == i && q.2.category == 2)))) : lv_has lx n (x_lp ad (x_st1 ls i v)) := by
  refine x_lv_of h fun q hq => ?_
  simp only [x_lp, x_st1, List.map_append, List.map_cons, List.mem_append, List.mem_cons, List.mem_map, List.mem_filter] at hq ⊢
  rcases hq with ⟨a, ⟨h1, h2⟩, rfl⟩ | rfl | ⟨a, ⟨h1, h2⟩, rfl⟩
  · refine Or.inr ⟨⟨a, h1, rfl⟩, ?_⟩
    simp only [Bool.and_eq_true, decide_eq_true_eq] at h2
    simp only [x_cv_cat, Bool.and_eq_true]
    refine ⟨?_, h2.2⟩
    have : a.1 ≠ i := by omega
    simpa using this
  · exact Or.inl rfl
  · refine Or.inr ⟨⟨a, h1, rfl⟩, ?_⟩
    have h3 : i < a.1 := by simpa using h2
    have e1 : a.1 ≠ i := by omega
    have e2 : a.1 + 1 ≠ i := by omega
    simp [e1, e2]
theorem x_st2_of {lx : Array Slot} {n : Nat} {ls : List (Nat × Value)} {i : Nat} {v : Value} {ad : Nat → Nat} (h : lv_has lx n ((i, x_cv ad v) :: (x_lp ad ls).filter (fun q => !(q.1 == i) && (!(q.1 == i + 1) && !(q.1 + 1 == i && q.2.category == 2))))) : lv_has lx n (x_lp ad (x_st2 ls i v)) := by
  refine x_lv_of h fun q hq => ?_
  simp only [x_lp, x_st2, List.map_append, List.map_cons, List.mem_append, List.mem_cons, List.mem_map, List.mem_filter] at hq ⊢
  rcases hq with ⟨a, ⟨h1, h2⟩, rfl⟩ | rfl | ⟨a, ⟨h1, h2⟩, rfl⟩
  · refine Or.inr ⟨⟨a, h1, rfl⟩, ?_⟩
    simp only [Bool.and_eq_true, decide_eq_true_eq] at h2
    simp only [x_cv_cat, Bool.and_eq_true]
    have e1 : a.1 ≠ i := by omega
    have e2 : a.1 ≠ i + 1 := by omega
    exact ⟨by simpa using e1, by simpa using e2, h2.2⟩
  · exact Or.inl rfl
  · refine Or.inr ⟨⟨a, h1, rfl⟩, ?_⟩
    have h3 : i + 1 < a.1 := by simpa using h2
    have e1 : a.1 ≠ i := by omega
    have e2 : a.1 + 1 ≠ i := by omega
    have e3 : a.1 ≠ i + 1 := by omega
    simp [e1, e2, e3]
theorem x_istore_n {scr : Option (Nat × (Nat → Int32))} {m : x_Mth} {u : Nat × Nat} {pc : Nat} {ls : List (Nat × Value)} {st : List Value} {M : x_M} {Q : Option Value → x_M → Prop} {k : Fin 4} {i : Nat} {x : Int32} (ls' : List (Nat × Value)) (hd : decode (x_code m) pc = .ok (.istore_n k, 1)) (hi : (k : Nat) = i) (hn : i < x_maxL m) (hs : x_st1 ls i (.int x) = ls') (K : X scr m u (pc + 1) ls' st M Q) : X scr m u pc ls (.int x :: st) M Q := by
  subst hs
  intro p l e s mi args below meth c D cI cZ A ae al H locs lx Z C R hl hret h1 h2
  exact lv_istore_n C.1 C.2.1 hd hi hl hn rfl (fun lx hl => K p l e s mi args below meth c D cI cZ A ae al H locs lx Z C R (x_st1_of (v := .int x) hl) hret h1 h2)
theorem x_astore_n {scr : Option (Nat × (Nat → Int32))} {m : x_Mth} {u : Nat × Nat} {pc : Nat} {ls : List (Nat × Value)} {st : List Value} {M : x_M} {Q : Option Value → x_M → Prop} {k : Fin 4} {i : Nat} {x : Nat} (ls' : List (Nat × Value)) (hd : decode (x_code m) pc = .ok (.astore_n k, 1)) (hi : (k : Nat) = i) (hn : i < x_maxL m) (hs : x_st1 ls i (.ref x) = ls') (K : X scr m u (pc + 1) ls' st M Q) : X scr m u pc ls (.ref x :: st) M Q := by
  subst hs
  intro p l e s mi args below meth c D cI cZ A ae al H locs lx Z C R hl hret h1 h2
  exact lv_astore_n C.1 C.2.1 hd hi hl hn rfl (fun lx hl => K p l e s mi args below meth c D cI cZ A ae al H locs lx Z C R (x_st1_of (v := .ref x) hl) hret h1 h2)
theorem x_lstore_n {scr : Option (Nat × (Nat → Int32))} {m : x_Mth} {u : Nat × Nat} {pc : Nat} {ls : List (Nat × Value)} {st : List Value} {M : x_M} {Q : Option Value → x_M → Prop} {k : Fin 4} {i : Nat} {x : Int64} (ls' : List (Nat × Value)) (hd : decode (x_code m) pc = .ok (.lstore_n k, 1)) (hi : (k : Nat) = i) (hn : i + 1 < x_maxL m) (hs : x_st2 ls i (.long x) = ls') (K : X scr m u (pc + 1) ls' st M Q) : X scr m u pc ls (.long x :: st) M Q := by
  subst hs
  intro p l e s mi args below meth c D cI cZ A ae al H locs lx Z C R hl hret h1 h2
  exact lv_lstore_n C.1 C.2.1 hd hi hl hn rfl (fun lx hl => K p l e s mi args below meth c D cI cZ A ae al H locs lx Z C R (x_st2_of (v := .long x) hl) hret h1 h2)
theorem x_istore {scr : Option (Nat × (Nat → Int32))} {m : x_Mth} {u : Nat × Nat} {pc : Nat} {ls : List (Nat × Value)} {st : List Value} {M : x_M} {Q : Option Value → x_M → Prop} {i : Nat} {x : Int32} (ls' : List (Nat × Value)) (hd : decode (x_code m) pc = .ok (.istore i, 2)) (hn : i < x_maxL m) (hs : x_st1 ls i (.int x) = ls') (K : X scr m u (pc + 2) ls' st M Q) : X scr m u pc ls (.int x :: st) M Q := by
  subst hs
  intro p l e s mi args below meth c D cI cZ A ae al H locs lx Z C R hl hret h1 h2
  exact lv_istore C.1 C.2.1 hd hl hn rfl (fun lx hl => K p l e s mi args below meth c D cI cZ A ae al H locs lx Z C R (x_st1_of (v := .int x) hl) hret h1 h2)
theorem x_astore {scr : Option (Nat × (Nat → Int32))} {m : x_Mth} {u : Nat × Nat} {pc : Nat} {ls : List (Nat × Value)} {st : List Value} {M : x_M} {Q : Option Value → x_M → Prop} {i : Nat} {x : Nat} (ls' : List (Nat × Value)) (hd : decode (x_code m) pc = .ok (.astore i, 2)) (hn : i < x_maxL m) (hs : x_st1 ls i (.ref x) = ls') (K : X scr m u (pc + 2) ls' st M Q) : X scr m u pc ls (.ref x :: st) M Q := by
  subst hs
  intro p l e s mi args below meth c D cI cZ A ae al H locs lx Z C R hl hret h1 h2
  exact lv_astore C.1 C.2.1 hd hl hn rfl (fun lx hl => K p l e s mi args below meth c D cI cZ A ae al H locs lx Z C R (x_st1_of (v := .ref x) hl) hret h1 h2)
theorem x_lstore {scr : Option (Nat × (Nat → Int32))} {m : x_Mth} {u : Nat × Nat} {pc : Nat} {ls : List (Nat × Value)} {st : List Value} {M : x_M} {Q : Option Value → x_M → Prop} {i : Nat} {x : Int64} (ls' : List (Nat × Value)) (hd : decode (x_code m) pc = .ok (.lstore i, 2)) (hn : i + 1 < x_maxL m) (hs : x_st2 ls i (.long x) = ls') (K : X scr m u (pc + 2) ls' st M Q) : X scr m u pc ls (.long x :: st) M Q := by
  subst hs
  intro p l e s mi args below meth c D cI cZ A ae al H locs lx Z C R hl hret h1 h2
  exact lv_lstore C.1 C.2.1 hd hl hn rfl (fun lx hl => K p l e s mi args below meth c D cI cZ A ae al H locs lx Z C R (x_st2_of (v := .long x) hl) hret h1 h2)
theorem x_iinc {scr : Option (Nat × (Nat → Int32))} {m : x_Mth} {u : Nat × Nat} {pc : Nat} {ls : List (Nat × Value)} {st : List Value} {M : x_M} {Q : Option Value → x_M → Prop} {i : Nat} {n : Int} {x : Int32} (q : Nat) (v : Int32) (ls' : List (Nat × Value)) (hd : decode (x_code m) pc = .ok (.iinc i n, 3)) (hq : ls[q]? = some (i, .int x)) (hv : x + Int32.ofInt n = v) (hn : i < x_maxL m) (hs : x_st1 ls i (.int v) = ls') (K : X scr m u (pc + 3) ls' st M Q) : X scr m u pc ls st M Q := by
  subst hs
  intro p l e s mi args below meth c D cI cZ A ae al H locs lx Z C R hl hret h1 h2
  exact lv_iinc C.1 C.2.1 hd hl (x_lvat hq) hv hn rfl (fun lx hl => K p l e s mi args below meth c D cI cZ A ae al H locs lx Z C R (x_st1_of (v := .int v) hl) hret h1 h2)
/-- the ends -/
theorem x_end {scr : Option (Nat × (Nat → Int32))} {m : x_Mth} {u : Nat × Nat} {pc : Nat} {ls : List (Nat × Value)} {st : List Value} {M : x_M} {Q : Option Value → x_M → Prop}  (hd : decode (x_code m) pc = .ok (.return_, 1)) (hr : x_ret m = none) (K : Q (none) M) : X scr m u pc ls ([]) M Q := by
  intro p l e s mi args below meth c D cI cZ A ae al H locs lx Z C R hl hret h1 h2
  exact hret _ M al H locs lx pc u.1 u.2 K R (fun _ _ => rfl) (Nat.le_refl _) (by omega) ⟨hd, hr⟩ h1 h2
theorem x_iret {scr : Option (Nat × (Nat → Int32))} {m : x_Mth} {u : Nat × Nat} {pc : Nat} {ls : List (Nat × Value)} {st : List Value} {M : x_M} {Q : Option Value → x_M → Prop} {v : Int32} (hd : decode (x_code m) pc = .ok (.ireturn, 1)) {ty : FieldType} (hr : x_ret m = some ty) (hn : narrow ty (.int v) = .int v) (K : Q (some (.int v)) M) : X scr m u pc ls ([.int v]) M Q := by
  intro p l e s mi args below meth c D cI cZ A ae al H locs lx Z C R hl hret h1 h2
  exact hret _ M al H locs lx pc u.1 u.2 K R (fun _ _ => rfl) (Nat.le_refl _) (by omega) ⟨hd, ty, hr, hn⟩ h1 h2
theorem x_lret {scr : Option (Nat × (Nat → Int32))} {m : x_Mth} {u : Nat × Nat} {pc : Nat} {ls : List (Nat × Value)} {st : List Value} {M : x_M} {Q : Option Value → x_M → Prop} {v : Int64} (hd : decode (x_code m) pc = .ok (.lreturn, 1)) (hr : x_ret m = some .long) (K : Q (some (.long v)) M) : X scr m u pc ls ([.long v]) M Q := by
  intro p l e s mi args below meth c D cI cZ A ae al H locs lx Z C R hl hret h1 h2
  exact hret _ M al H locs lx pc u.1 u.2 K R (fun _ _ => rfl) (Nat.le_refl _) (by omega) ⟨hd, hr⟩ h1 h2
end
section
/-! ===== fields, arrays, new cells ===== -/
def x_up (I : Nat → Nat → Int32) (r i : Nat) (v : Int32) : Nat → Nat → Int32 := fun r' => if r' = r then upd (I r) i v else I r'
def x_upL (L : Nat → Int64) (r : Nat) (v : Int64) : Nat → Int64 := fun r' => if r' = r then v else L r'
def x_upR (R : Nat → Option Nat) (r : Nat) (v : Option Nat) : Nat → Option Nat := fun r' => if r' = r then v else R r'
/-- a field, as an entry of the class's pool tells it -/
def x_FL (own : String) (idx ci j : Nat) : Prop := ci < 11 ∧ j < x_N ci ∧ Cond.fieldLink own idx (x_R ci) (x_T ci j).2.1 (x_T ci j).2.2.1 ∈ x_GW
theorem x_getf {scr : Option (Nat × (Nat → Int32))} {m : x_Mth} {u : Nat × Nat} {pc : Nat} {ls : List (Nat × Value)} {st : List Value} {M : x_M} {Q : Option Value → x_M → Prop} {idx : Nat} (ci j : Nat) {o : Nat} (v : Value) (hd : decode (x_code m) pc = .ok (.getfield idx, 3)) (hf : x_FL (x_own m) idx ci j) (ho : M.1[o]? = some (0, ci)) (hv : x_fa (x_ty ci j) M.2 (64 * o + j) = v)
    (K : X scr m u (pc + 3) ls (v :: st) M Q) : X scr m u pc ls (.ref o :: st) M Q := by
  intro p l e s mi args below meth c D cI cZ A ae al H locs lx Z C R hl hret h1 h2
  obtain ⟨hx, hb, hml, hr, hlk, hown, hnm, hts, hK, hA, hE, hsc⟩ := id C
  obtain ⟨hci, hj, hw⟩ := hf
  subst hv
  refine va_get (C := x_R ci) (T := x_T ci) (N := x_N ci) (ci := ci) (own := x_own m) (ref := x_R ci) hx hb hts (x_uw ci hci) hown hK R.1 o (x_ws_get ho) (x_cl ci hci) j hj (hts _ hw) (fun x h => by rw [x_own0 ci hci j hj] at h; exact h) (v := x_cv (x_ad al ae) (x_fa (x_ty ci j) M.2 (64 * o + j))) ?_ hd (K p l e s mi args below meth c D cI cZ A ae al H locs lx Z C R hl hret h1 h2)
  simp [List.getElem?_map, List.getElem?_range hj]
theorem x_fa_congr {ty : FieldType} {K K' : (Nat → Nat → Int32) × (Nat → Int64) × (Nat → Option Nat)} {r : Nat} (h : K'.1 r = K.1 r ∧ K'.2.1 r = K.2.1 r ∧ K'.2.2 r = K.2.2 r) : x_fa ty K' r = x_fa ty K r := by
  obtain ⟨a, b, c⟩ := h
  cases ty <;> simp only [x_fa, a, b, c]
theorem x_ent_congr {cI cZ : ClassId} {ad : Nat → Nat} {K K' : (Nat → Nat → Int32) × (Nat → Int64) × (Nat → Option Nat)} {i : Nat} {q : Nat × Nat} (hq : q.1 = 0 → q.2 < 11) (h : ∀ r, 64 * i ≤ r → r < 64 * i + 64 → K'.1 r = K.1 r ∧ K'.2.1 r = K.2.1 r ∧ K'.2.2 r = K.2.2 r) : x_ent cI cZ ad K' i q = x_ent cI cZ ad K i q := by
  obtain ⟨a, b⟩ := q
  match a with
  | 0 =>
    have hb := x_N64 b (hq rfl)
    simp only [x_ent]
    congr 2
    apply List.map_congr_left
    intro j hj
    have hj' := List.mem_range.mp hj
    rw [x_fa_congr (h (64 * i + j) (by omega) (by omega))]
  | 1 => simp only [x_ent, (h (64 * i) (Nat.le_refl _) (by omega)).1]
  | n + 2 => simp only [x_ent, (h (64 * i) (Nat.le_refl _) (by omega)).1]
theorem x_ws_set {cI cZ : ClassId} {ad : Nat → Nat} {M : x_M} {K' : (Nat → Nat → Int32) × (Nat → Int64) × (Nat → Option Nat)} {o : Nat} {q : Nat × Nat} {en : va_E} (hok : x_Ok M) (ho : M.1[o]? = some q) (hs : ∀ r, (r < 64 * o ∨ 64 * o + 64 ≤ r) → K'.1 r = M.2.1 r ∧ K'.2.1 r = M.2.2.1 r ∧ K'.2.2 r = M.2.2.2 r) (he : x_ent cI cZ ad K' o q = en) : (x_ws cI cZ ad M).set o (ad o, en) = x_ws cI cZ ad (M.1, K') := by
  apply List.ext_getElem?
  intro i
  have hlt : o < (x_ws cI cZ ad M).length := by simp [x_ws]; exact (List.getElem?_eq_some_iff.mp ho).1
  by_cases h : o = i
  · subst h
    rw [List.getElem?_set_self hlt, x_ws_get (M := (M.1, K')) ho, he]
  · rw [List.getElem?_set_ne h]
    simp only [x_ws, List.getElem?_mapIdx]
    cases hi : M.1[i]? with
    | none => rfl
    | some q' =>
      simp only [Option.map_some]
      rw [x_ent_congr (K := M.2) (K' := K') (i := i) (q := q') (fun h0 => hok.2.2.2 i q'.2 (by rw [hi, ← h0])) (fun r h1 h2 => hs r (by omega))]
theorem x_ent_put {cI cZ : ClassId} {ad : Nat → Nat} {K K' : (Nat → Nat → Int32) × (Nat → Int64) × (Nat → Option Nat)} {o ci j : Nat} {v : Value} (hj : j < x_N ci) (hs : ∀ r, r ≠ 64 * o + j → K'.1 r = K.1 r ∧ K'.2.1 r = K.2.1 r ∧ K'.2.2 r = K.2.2 r) (hv : x_fa (x_ty ci j) K' (64 * o + j) = v) :
    x_ent cI cZ ad K' o (0, ci) = .inr (ci, ((List.range (x_N ci)).map fun j => x_cv ad (x_fa (x_ty ci j) K (64 * o + j))).set j (x_cv ad v)) := by
  simp only [x_ent]
  congr 2
  apply List.ext_getElem?
  intro i
  by_cases h : j = i
  · subst h
    rw [List.getElem?_set_self (by simpa using hj)]
    simp [List.getElem?_map, List.getElem?_range hj, hv]
  · rw [List.getElem?_set_ne h]
    simp only [List.getElem?_map]
    cases hi : (List.range (x_N ci))[i]? with
    | none => rfl
    | some w =>
      have hw : w = i := by
        obtain ⟨_, hw⟩ := List.getElem?_eq_some_iff.mp hi
        simpa using hw.symm
      subst hw
      simp only [Option.map_some]
      rw [x_fa_congr (hs (64 * o + w) (by omega))]
theorem x_putG {scr : Option (Nat × (Nat → Int32))} {m : x_Mth} {u : Nat × Nat} {pc : Nat} {ls : List (Nat × Value)} {st : List Value} {M : x_M} {Q : Option Value → x_M → Prop} {idx : Nat} (ci j : Nat) {o : Nat} {v : Value} (K' : (Nat → Nat → Int32) × (Nat → Int64) × (Nat → Option Nat)) (hd : decode (x_code m) pc = .ok (.putfield idx, 3)) (hf : x_FL (x_own m) idx ci j) (ho : M.1[o]? = some (0, ci))
    (hfin : (x_T ci j).2.2.2 = false ∨ ((x_y m).name = "<init>" ∧ x_R ci = x_own m)) (hn : ∀ ad, narrow (x_ty ci j) (x_cv ad v) = x_cv ad v) (hfit : ∀ ad, fits (x_ty ci j) (x_cv ad v) = true)
    (hs : ∀ r, r ≠ 64 * o + j → K'.1 r = M.2.1 r ∧ K'.2.1 r = M.2.2.1 r ∧ K'.2.2 r = M.2.2.2 r) (hv : x_fa (x_ty ci j) K' (64 * o + j) = v) (hok : x_Ok M → x_Ok (M.1, K'))
    (K : X scr m u (pc + 3) ls st (M.1, K') Q) : X scr m u pc ls (v :: .ref o :: st) M Q := by
  intro p l e s mi args below meth c D cI cZ A ae al H locs lx Z C R hl hret h1 h2
  obtain ⟨hx, hb, hml, hr, hlk, hown, hnm, hts, hK, hA, hE, hsc⟩ := id C
  obtain ⟨hci, hj, hw⟩ := hf
  obtain ⟨hP, hD, hS, hM⟩ := R
  have hN := x_N64 ci hci
  have e1 := x_ws_set (cI := cI) (cZ := cZ) (ad := x_ad al ae) (K' := K') hM ho (fun r hr => hs r (by omega)) (x_ent_put (cI := cI) (cZ := cZ) (ad := x_ad al ae) (K := M.2) hj hs hv)
  have kk : ∀ (H1 : Heap) (locs1 : List Loc), va_P D vwCl ((x_ws cI cZ (x_ad al ae) M).set o (x_ad al ae o, .inr (ci, ((List.range (x_N ci)).map fun j => x_cv (x_ad al ae) (x_fa (x_ty ci j) M.2 (64 * o + j))).set j (x_cv (x_ad al ae) v)))) H1 → va_D A ((x_ws cI cZ (x_ad al ae) M).set o (x_ad al ae o, .inr (ci, ((List.range (x_N ci)).map fun j => x_cv (x_ad al ae) (x_fa (x_ty ci j) M.2 (64 * o + j))).set j (x_cv (x_ad al ae) v)))) → va_S A s.heap H1 locs1 → W p l e (x_room m) s mi args below meth c H1 locs1 u.1 u.2 Z (F0 mi (pc + 3) lx (st.map (x_cv (x_ad al ae)))) := by
    intro H1 locs1 p1 d1 s1
    rw [e1] at p1 d1
    exact K p l e s mi args below meth c D cI cZ A ae al H1 locs1 lx Z C ⟨p1, d1, s1, hok hM⟩ hl hret h1 h2
  cases hff : (x_T ci j).2.2.2 with
  | false => exact va_put (C := x_R ci) (T := x_T ci) (N := x_N ci) (ci := ci) (own := x_own m) (ref := x_R ci) hx hb hts (x_uw ci hci) (x_ty ci) (x_tyok ci hci) (x_nm ci hci) hown hK hP hD hS o (x_ws_get ho) (x_cl ci hci) j hj (hts _ hw) (fun x h => by rw [x_own0 ci hci j hj] at h; exact h) hff (x_tyok ci hci j hj) (hn _) (hfit _) (by simpa using hj) hd kk
  | true =>
    rcases hfin with q | ⟨q1, q2⟩
    · rw [q] at hff; cases hff
    · exact va_putF (C := x_R ci) (T := x_T ci) (N := x_N ci) (ci := ci) (own := x_own m) (ref := x_R ci) hx hb hts (x_uw ci hci) (x_ty ci) (x_tyok ci hci) (x_nm ci hci) hown hK hP hD hS o (x_ws_get ho) (x_cl ci hci) j hj (hts _ hw) (fun x h => by rw [x_own0 ci hci j hj] at h; exact h) hff (hnm.trans q1) ((x_own0 ci hci j hj).trans q2) (x_tyok ci hci j hj) (hn _) (hfit _) (by simpa using hj) hd kk
theorem x_lt_of {M : x_M} {o : Nat} {q : Nat × Nat} (ho : M.1[o]? = some q) : o < M.1.length := (List.getElem?_eq_some_iff.mp ho).1
theorem x_Ok_i {M : x_M} {r i : Nat} {v : Int32} (h : x_Ok M) (hr : r < 64 * M.1.length) : x_Ok (M.1, x_up M.2.1 r i v, M.2.2) := by
  refine ⟨h.1, h.2.1, fun r' hr' => ⟨?_, (h.2.2.1 r' hr').2⟩, h.2.2.2⟩
  have : r' ≠ r := by have h0 : 64 * M.1.length ≤ r' := hr'; omega
  simp only [x_up, if_neg this]
  exact (h.2.2.1 r' hr').1
/-- putfield of an int -/
theorem x_puti {scr : Option (Nat × (Nat → Int32))} {m : x_Mth} {u : Nat × Nat} {pc : Nat} {ls : List (Nat × Value)} {st : List Value} {M : x_M} {Q : Option Value → x_M → Prop} {idx : Nat} (ci j : Nat) {o : Nat} {v : Int32} (hd : decode (x_code m) pc = .ok (.putfield idx, 3)) (hf : x_FL (x_own m) idx ci j) (ho : M.1[o]? = some (0, ci)) (hty : x_ty ci j = .int)
    (hfin : (x_T ci j).2.2.2 = false ∨ ((x_y m).name = "<init>" ∧ x_R ci = x_own m)) (K : X scr m u (pc + 3) ls st (M.1, x_up M.2.1 (64 * o + j) 0 v, M.2.2) Q) : X scr m u pc ls (.int v :: .ref o :: st) M Q := by
  have hN := x_N64 ci hf.1
  have hj := hf.2.1
  have hlt := x_lt_of ho
  refine x_putG ci j (x_up M.2.1 (64 * o + j) 0 v, M.2.2) hd hf ho hfin (fun ad => by rw [hty]; rfl) (fun ad => by rw [hty]; rfl) (fun r hr => ⟨by simp only [x_up, if_neg hr], rfl, rfl⟩) ?_ (fun h => x_Ok_i h (by omega)) K
  rw [hty]
  simp [x_fa, x_up, upd]
/-- putfield of a boolean -/
theorem x_putz {scr : Option (Nat × (Nat → Int32))} {m : x_Mth} {u : Nat × Nat} {pc : Nat} {ls : List (Nat × Value)} {st : List Value} {M : x_M} {Q : Option Value → x_M → Prop} {idx : Nat} (ci j : Nat) {o : Nat} {v : Int32} (hd : decode (x_code m) pc = .ok (.putfield idx, 3)) (hf : x_FL (x_own m) idx ci j) (ho : M.1[o]? = some (0, ci)) (hty : x_ty ci j = .boolean) (h01 : v = 0 ∨ v = 1)
    (hfin : (x_T ci j).2.2.2 = false ∨ ((x_y m).name = "<init>" ∧ x_R ci = x_own m)) (K : X scr m u (pc + 3) ls st (M.1, x_up M.2.1 (64 * o + j) 0 v, M.2.2) Q) : X scr m u pc ls (.int v :: .ref o :: st) M Q := by
  have hN := x_N64 ci hf.1
  have hj := hf.2.1
  have hlt := x_lt_of ho
  refine x_putG ci j (x_up M.2.1 (64 * o + j) 0 v, M.2.2) hd hf ho hfin (fun ad => by rw [hty]; rcases h01 with rfl | rfl <;> rfl) (fun ad => by rw [hty]; rcases h01 with rfl | rfl <;> rfl) (fun r hr => ⟨by simp only [x_up, if_neg hr], rfl, rfl⟩) ?_ (fun h => x_Ok_i h (by omega)) K
  rw [hty]
  simp [x_fa, x_up, upd]
/-- putfield of a long -/
theorem x_putl {scr : Option (Nat × (Nat → Int32))} {m : x_Mth} {u : Nat × Nat} {pc : Nat} {ls : List (Nat × Value)} {st : List Value} {M : x_M} {Q : Option Value → x_M → Prop} {idx : Nat} (ci j : Nat) {o : Nat} {v : Int64} (hd : decode (x_code m) pc = .ok (.putfield idx, 3)) (hf : x_FL (x_own m) idx ci j) (ho : M.1[o]? = some (0, ci)) (hty : x_ty ci j = .long)
    (hfin : (x_T ci j).2.2.2 = false ∨ ((x_y m).name = "<init>" ∧ x_R ci = x_own m)) (K : X scr m u (pc + 3) ls st (M.1, M.2.1, x_upL M.2.2.1 (64 * o + j) v, M.2.2.2) Q) : X scr m u pc ls (.long v :: .ref o :: st) M Q := by
  have hN := x_N64 ci hf.1
  have hj := hf.2.1
  have hlt := x_lt_of ho
  refine x_putG ci j (M.2.1, x_upL M.2.2.1 (64 * o + j) v, M.2.2.2) hd hf ho hfin (fun ad => by rw [hty]; rfl) (fun ad => by rw [hty]; rfl) (fun r hr => ⟨rfl, by simp only [x_upL, if_neg hr], rfl⟩) ?_ (fun h => ⟨h.1, h.2.1, fun r hr => ⟨(h.2.2.1 r hr).1, ?_, (h.2.2.1 r hr).2.2⟩, h.2.2.2⟩) K
  · rw [hty]
    simp [x_fa, x_upL]
  · have : r ≠ 64 * o + j := by have h0 : 64 * M.1.length ≤ r := hr; omega
    simp only [x_upL, if_neg this]
    exact (h.2.2.1 r hr).2.1
/-- putfield of a reference -/
theorem x_putr {scr : Option (Nat × (Nat → Int32))} {m : x_Mth} {u : Nat × Nat} {pc : Nat} {ls : List (Nat × Value)} {st : List Value} {M : x_M} {Q : Option Value → x_M → Prop} {idx : Nat} (ci j : Nat) {o k : Nat} (hd : decode (x_code m) pc = .ok (.putfield idx, 3)) (hf : x_FL (x_own m) idx ci j) (ho : M.1[o]? = some (0, ci)) (hty : (∃ C, x_ty ci j = .object C) ∨ ∃ t, x_ty ci j = .array t) (hk : k < M.1.length)
    (hfin : (x_T ci j).2.2.2 = false ∨ ((x_y m).name = "<init>" ∧ x_R ci = x_own m)) (K : X scr m u (pc + 3) ls st (M.1, M.2.1, M.2.2.1, x_upR M.2.2.2 (64 * o + j) (some k)) Q) : X scr m u pc ls (.ref k :: .ref o :: st) M Q := by
  have hN := x_N64 ci hf.1
  have hj := hf.2.1
  have hlt := x_lt_of ho
  refine x_putG ci j (M.2.1, M.2.2.1, x_upR M.2.2.2 (64 * o + j) (some k)) hd hf ho hfin (fun ad => by rcases hty with ⟨_, h⟩ | ⟨_, h⟩ <;> rw [h] <;> rfl) (fun ad => by rcases hty with ⟨_, h⟩ | ⟨_, h⟩ <;> rw [h] <;> rfl) (fun r hr => ⟨rfl, rfl, by simp only [x_upR, if_neg hr]⟩) ?_ (fun h => ⟨h.1, fun r k' h' => ?_, fun r hr => ⟨(h.2.2.1 r hr).1, (h.2.2.1 r hr).2.1, ?_⟩, h.2.2.2⟩) K
  · rcases hty with ⟨_, h⟩ | ⟨_, h⟩ <;> rw [h] <;> simp [x_fa, x_upR]
  · by_cases hr : r = 64 * o + j
    · subst hr
      simp [x_upR] at h'
      subst h'
      exact hk
    · simp only [x_upR, if_neg hr] at h'
      exact h.2.1 r k' h'
  · have : r ≠ 64 * o + j := by have h0 : 64 * M.1.length ≤ r := hr; omega
    simp only [x_upR, if_neg this]
    exact (h.2.2.1 r hr).2.2
theorem x_iald {scr : Option (Nat × (Nat → Int32))} {m : x_Mth} {u : Nat × Nat} {pc : Nat} {ls : List (Nat × Value)} {st : List Value} {M : x_M} {Q : Option Value → x_M → Prop} {o n : Nat} {i : Int32} (hd : decode (x_code m) pc = .ok (.iaload, 1)) (ho : M.1[o]? = some (1, n)) (hin : vp_in i n) (K : X scr m u (pc + 1) ls (.int (M.2.1 (64 * o) i.toNatClampNeg) :: st) M Q) : X scr m u pc ls (.int i :: .ref o :: st) M Q := by
  intro p l e s mi args below meth c D cI cZ A ae al H locs lx Z C R hl hret h1 h2
  exact va_iald C.1 C.2.1 C.2.2.2.2.2.2.2.2.1 R.1 o 0 (x_ws_get ho) rfl hin hd (K p l e s mi args below meth c D cI cZ A ae al H locs lx Z C R hl hret h1 h2)
theorem x_zald {scr : Option (Nat × (Nat → Int32))} {m : x_Mth} {u : Nat × Nat} {pc : Nat} {ls : List (Nat × Value)} {st : List Value} {M : x_M} {Q : Option Value → x_M → Prop} {o n : Nat} {i : Int32} (hd : decode (x_code m) pc = .ok (.baload, 1)) (ho : M.1[o]? = some (2, n)) (hin : vp_in i n) (K : X scr m u (pc + 1) ls (.int (M.2.1 (64 * o) i.toNatClampNeg) :: st) M Q) : X scr m u pc ls (.int i :: .ref o :: st) M Q := by
  intro p l e s mi args below meth c D cI cZ A ae al H locs lx Z C R hl hret h1 h2
  exact va_zald C.1 C.2.1 C.2.2.2.2.2.2.2.2.1 R.1 o 1 (x_ws_get ho) rfl hin hd (K p l e s mi args below meth c D cI cZ A ae al H locs lx Z C R hl hret h1 h2)
theorem x_alen {scr : Option (Nat × (Nat → Int32))} {m : x_Mth} {u : Nat × Nat} {pc : Nat} {ls : List (Nat × Value)} {st : List Value} {M : x_M} {Q : Option Value → x_M → Prop} {o n : Nat} {t : Nat} (v : Int32) (hd : decode (x_code m) pc = .ok (.arraylength, 1)) (ho : M.1[o]? = some (t + 1, n)) (hv : Int32.ofNat n = v) (K : X scr m u (pc + 1) ls (.int v :: st) M Q) : X scr m u pc ls (.ref o :: st) M Q := by
  intro p l e s mi args below meth c D cI cZ A ae al H locs lx Z C R hl hret h1 h2
  cases t with
  | zero => exact va_alen C.1 C.2.1 C.2.2.2.2.2.2.2.2.1 R.1 o 0 (x_ws_get ho) rfl hv hd (K p l e s mi args below meth c D cI cZ A ae al H locs lx Z C R hl hret h1 h2)
  | succ t => exact va_alen C.1 C.2.1 C.2.2.2.2.2.2.2.2.1 R.1 o 1 (x_ws_get ho) rfl hv hd (K p l e s mi args below meth c D cI cZ A ae al H locs lx Z C R hl hret h1 h2)
theorem x_ws_setA {cI cZ : ClassId} {ad : Nat → Nat} {M : x_M} {o t n i : Nat} {x : Int32} (hok : x_Ok M) (ho : M.1[o]? = some (t + 1, n)) :
    (x_ws cI cZ ad M).set o (ad o, x_ent cI cZ ad (x_up M.2.1 (64 * o) i x, M.2.2) o (t + 1, n)) = x_ws cI cZ ad (M.1, x_up M.2.1 (64 * o) i x, M.2.2) :=
  x_ws_set hok ho (fun r hr => ⟨by simp only [x_up, if_neg (show r ≠ 64 * o by omega)], rfl, rfl⟩) rfl
theorem x_iast {scr : Option (Nat × (Nat → Int32))} {m : x_Mth} {u : Nat × Nat} {pc : Nat} {ls : List (Nat × Value)} {st : List Value} {M : x_M} {Q : Option Value → x_M → Prop} {o n : Nat} {i x : Int32} (hd : decode (x_code m) pc = .ok (.iastore, 1)) (ho : M.1[o]? = some (1, n)) (hin : vp_in i n) (K : X scr m u (pc + 1) ls st (M.1, x_up M.2.1 (64 * o) i.toNatClampNeg x, M.2.2) Q) : X scr m u pc ls (.int x :: .int i :: .ref o :: st) M Q := by
  intro p l e s mi args below meth c D cI cZ A ae al H locs lx Z C R hl hret h1 h2
  obtain ⟨hP, hD, hS, hM⟩ := R
  have e1 := x_ws_setA (cI := cI) (cZ := cZ) (ad := x_ad al ae) (i := i.toNatClampNeg) (x := x) hM ho
  have e2 : x_ent cI cZ (x_ad al ae) (x_up M.2.1 (64 * o) i.toNatClampNeg x, M.2.2) o (0 + 1, n) = .inl (cI, n, .inl (upd (M.2.1 (64 * o)) i.toNatClampNeg x)) := by simp [x_ent, x_up]
  rw [e2] at e1
  refine va_iast C.1 C.2.1 C.2.2.2.2.2.2.2.2.1 hP hD hS o 0 (x_ws_get ho) rfl hin hd (fun H1 locs1 p1 d1 s1 => ?_)
  have hlt := x_lt_of ho
  exact K p l e s mi args below meth c D cI cZ A ae al H1 locs1 lx Z C ⟨e1 ▸ p1, e1 ▸ d1, s1, x_Ok_i hM (by omega)⟩ hl hret h1 h2
theorem x_nar01 {x : Int32} (h : x = 0 ∨ x = 1) : vp_nar .boolean x = x := by rcases h with rfl | rfl <;> rfl
theorem x_zast {scr : Option (Nat × (Nat → Int32))} {m : x_Mth} {u : Nat × Nat} {pc : Nat} {ls : List (Nat × Value)} {st : List Value} {M : x_M} {Q : Option Value → x_M → Prop} {o n : Nat} {i x : Int32} (hd : decode (x_code m) pc = .ok (.bastore, 1)) (ho : M.1[o]? = some (2, n)) (hin : vp_in i n) (h01 : x = 0 ∨ x = 1) (K : X scr m u (pc + 1) ls st (M.1, x_up M.2.1 (64 * o) i.toNatClampNeg x, M.2.2) Q) : X scr m u pc ls (.int x :: .int i :: .ref o :: st) M Q := by
  intro p l e s mi args below meth c D cI cZ A ae al H locs lx Z C R hl hret h1 h2
  obtain ⟨hP, hD, hS, hM⟩ := R
  have e1 := x_ws_setA (cI := cI) (cZ := cZ) (ad := x_ad al ae) (i := i.toNatClampNeg) (x := x) hM ho
  have e2 : x_ent cI cZ (x_ad al ae) (x_up M.2.1 (64 * o) i.toNatClampNeg x, M.2.2) o (1 + 1, n) = .inl (cZ, n, .inl (upd (M.2.1 (64 * o)) i.toNatClampNeg (vp_nar .boolean x))) := by rw [x_nar01 h01]; simp [x_ent, x_up]
  rw [e2] at e1
  refine va_zast C.1 C.2.1 C.2.2.2.2.2.2.2.2.1 hP hD hS o 1 (x_ws_get ho) rfl hin hd (fun H1 locs1 p1 d1 s1 => ?_)
  have hlt := x_lt_of ho
  exact K p l e s mi args below meth c D cI cZ A ae al H1 locs1 lx Z C ⟨e1 ▸ p1, e1 ▸ d1, s1, x_Ok_i hM (by omega)⟩ hl hret h1 h2
end
section
/-! ===== new cells and calls ===== -/
def x_ne (n : Nat) : Value → Bool
  | .ref k => !(k == n)
  | _ => true
def x_rlt (n : Nat) : Value → Bool
  | .ref k => decide (k < n) || decide (1000000 ≤ k)
  | _ => true
theorem x_cv_up {al ae : Nat → Nat} {n q : Nat} {v : Value} (h : x_ne n v = true) : x_cv (x_ad (va_up al n q) ae) v = x_cv (x_ad al ae) v := by
  cases v with
  | ref k =>
    have hk : k ≠ n := by simpa [x_ne] using h
    simp [x_cv, x_ad, va_up, hk]
  | _ => rfl
theorem x_ent_ad {cI cZ : ClassId} {ad ad' : Nat → Nat} {M : x_M} {k : Nat} {q : Nat × Nat} (h : ∀ r j, M.2.2.2 r = some j → ad' j = ad j) : x_ent cI cZ ad' M.2 k q = x_ent cI cZ ad M.2 k q := by
  obtain ⟨a, b⟩ := q
  match a with
  | 0 =>
    simp only [x_ent]
    congr 2
    apply List.map_congr_left
    intro j _
    cases hty : x_ty b j <;> simp only [x_fa] <;> try rfl
    all_goals
      cases hR : M.2.2.2 (64 * k + j) with
      | none => rfl
      | some z => simp [x_cv, h _ _ hR]
  | 1 => rfl
  | n + 2 => rfl
theorem x_ws_push {cI cZ : ClassId} {al ae : Nat → Nat} {M : x_M} {q : Nat × Nat} {z : Nat} (hM : x_Ok M) : x_ws cI cZ (x_ad (va_up al M.1.length z) ae) (M.1 ++ [q], M.2) = x_ws cI cZ (x_ad al ae) M ++ [(z, x_ent cI cZ (x_ad (va_up al M.1.length z) ae) M.2 M.1.length q)] := by
  have hl := hM.1
  apply List.ext_getElem?
  intro i
  have e0 : (x_ws cI cZ (x_ad al ae) M).length = M.1.length := by simp [x_ws]
  by_cases h : i < M.1.length
  · rw [List.getElem?_append_left (by omega)]
    simp only [x_ws, List.getElem?_mapIdx]
    rw [List.getElem?_append_left h]
    cases hi : M.1[i]? with
    | none => rfl
    | some w =>
      have hi2 : i ≠ M.1.length := by omega
      simp only [Option.map_some]
      rw [x_ent_ad (ad := x_ad al ae) (M := M) (fun r j hr => by have := hM.2.1 r j hr; simp [x_ad, va_up, show j ≠ M.1.length by omega])]
      simp [x_ad, va_up, hi2]
  · rw [List.getElem?_append_right (by omega)]
    simp only [x_ws, List.getElem?_mapIdx, List.length_mapIdx]
    rw [List.getElem?_append_right (by omega)]
    by_cases h2 : i = M.1.length
    · subst h2
      simp [x_ad, va_up, hl]
    · have e1 : ¬ (i - M.1.length) < 1 := by omega
      rw [List.getElem?_eq_none (by simp; omega), List.getElem?_eq_none (by simp; omega)]
      rfl
theorem x_Ok_push {M : x_M} {q : Nat × Nat} (h : x_Ok M) (hl : M.1.length + 1 < 1000000) (hq : q.1 = 0 → q.2 < 11) : x_Ok (M.1 ++ [q], M.2) := by
  refine ⟨by simpa using hl, fun r k hr => ?_, fun r hr => h.2.2.1 r ?_, fun k c hk => ?_⟩
  · have := h.2.1 r k hr
    simp; omega
  · simp at hr; omega
  · by_cases hlt : k < M.1.length
    · rw [List.getElem?_append_left hlt] at hk
      exact h.2.2.2 k c hk
    · rw [List.getElem?_append_right (by omega)] at hk
      have hz := (List.getElem?_eq_some_iff.mp hk).1
      have : k - M.1.length = 0 := by simp at hz; omega
      rw [this] at hk
      simp at hk
      subst hk
      exact hq rfl
theorem x_map_up {al ae : Nat → Nat} {n q : Nat} {st : List Value} (h : st.all (x_ne n) = true) : st.map (x_cv (x_ad (va_up al n q) ae)) = st.map (x_cv (x_ad al ae)) :=
  List.map_congr_left fun v hv => x_cv_up (List.all_eq_true.mp h v hv)
theorem x_lp_up {al ae : Nat → Nat} {n q : Nat} {ls : List (Nat × Value)} (h : (ls.map (·.2)).all (x_ne n) = true) : x_lp (x_ad (va_up al n q) ae) ls = x_lp (x_ad al ae) ls :=
  List.map_congr_left fun v hv => by rw [x_cv_up (List.all_eq_true.mp h v.2 (List.mem_map_of_mem hv))]
def x_okty : FieldType → Bool
  | .float => false
  | .double => false
  | _ => true
theorem x_tyk : ∀ c, c < 11 → ∀ k, k < x_N c → x_okty (x_ty c k) = true := by decide +kernel
theorem x_new {scr : Option (Nat × (Nat → Int32))} {m : x_Mth} {u : Nat × Nat} {pc : Nat} {ls : List (Nat × Value)} {st : List Value} {M : x_M} {Q : Option Value → x_M → Prop} {idx : Nat} (ci : Nat) (n : Nat) (hd : decode (x_code m) pc = .ok (.new idx, 3)) (hci : ci < 11) (hw : Cond.classLink (x_own m) idx (x_R ci) ∈ x_GW) (hi : Cond.instantiable (x_R ci) (x_N ci) ∈ x_GW ∧ Cond.initialized (x_R ci) ∈ x_GW)
    (hn : M.1.length = n) (hc : u.1 + 1 ≤ x_mc m) (hs : u.2 + x_N ci ≤ x_ms m) (hlen : n + 1 < 1000000) (hst : st.all (x_ne n) = true) (hls : (ls.map (·.2)).all (x_ne n) = true)
    (K : X scr m (u.1 + 1, u.2 + x_N ci) (pc + 3) ls (.ref n :: st) (M.1 ++ [(0, ci)], M.2) Q) : X scr m u pc ls st M Q := by
  subst hn
  intro p l e s mi args below meth c D cI cZ A ae al H locs lx Z C R hl hret h1 h2
  obtain ⟨hx, hb, hml, hr, hlk, hown, hnm, hts, hK, hA, hE, hsc⟩ := id C
  obtain ⟨hP, hD, hS, hM⟩ := R
  refine va_new (C := x_R ci) (T := x_T ci) (N := x_N ci) (ci := ci) (own := x_own m) (fs := (List.range (x_N ci)).map fun j => x_fa (x_ty ci j) M.2 (64 * M.1.length + j)) hx hb hts (x_uw ci hci) (x_ty ci) (x_tyok ci hci) hown (hts _ hw) (hts _ hi.1) (hts _ hi.2) hK hP hD hS hA (x_cl ci hci) ?_ hc hs hd (fun q H1 p1 d1 s1 => ?_)
  · intro j hj
    have hN := x_N64 ci hci
    obtain ⟨a1, a2, a3⟩ := hM.2.2.1 (64 * M.1.length + j) (by omega)
    have ho := x_tyk ci hci j hj
    simp only [vp_V, List.getD_eq_getElem?_getD, List.getElem?_map, List.getElem?_range hj, Option.map_some, Option.getD_some]
    cases hty : x_ty ci j <;> rw [hty] at ho <;> simp [x_okty] at ho <;> simp [x_fa, a1, a2, a3, defaultValue]
  · have e1 := x_ws_push (cI := cI) (cZ := cZ) (al := al) (ae := ae) (q := (0, ci)) (z := q) hM
    have e2 : x_ent cI cZ (x_ad (va_up al M.1.length q) ae) M.2 M.1.length (0, ci) = .inr (ci, (List.range (x_N ci)).map fun j => x_fa (x_ty ci j) M.2 (64 * M.1.length + j)) := by
      simp only [x_ent]
      congr 2
      apply List.map_congr_left
      intro j hj
      have hj' := List.mem_range.mp hj
      obtain ⟨a1, a2, a3⟩ := hM.2.2.1 (64 * M.1.length + j) (by omega)
      cases hty : x_ty ci j <;> simp [x_fa, a3, x_cv]
    rw [e2] at e1
    rw [← e1] at p1 d1
    have e3 := x_map_up (al := al) (ae := ae) (q := q) hst
    have e4 := x_lp_up (al := al) (ae := ae) (q := q) hls
    have kk := K p l e s mi args below meth c D cI cZ A ae (va_up al M.1.length q) H1 locs lx Z C ⟨p1, d1, s1, x_Ok_push hM hlen (fun _ => hci)⟩ (by rw [e4]; exact hl) (fun r M' al' H' locs' lx' pc' uc us hq hR hal hle hle2 => hret r M' al' H' locs' lx' pc' uc us hq hR (fun k hk => by
      have hle' : M.1.length + 1 ≤ M'.1.length := by simpa using hle
      rw [hal k (by simp; omega)]
      simp only [va_up]
      rw [if_neg (by omega)]) (by simp at hle; omega) (by simp at hle2; omega)) hc hs
    simp only [List.map_cons, e3] at kk
    simpa [x_cv, x_ad, va_up, hM.1] using kk
theorem x_newa {scr : Option (Nat × (Nat → Int32))} {m : x_Mth} {u : Nat × Nat} {pc : Nat} {ls : List (Nat × Value)} {st : List Value} {M : x_M} {Q : Option Value → x_M → Prop} {atype : ArrayType} (t : Nat) (ht : (t = 1 ∧ atype = .int) ∨ (t = 2 ∧ atype = .boolean)) {z : Int32} (N n : Nat) (hd : decode (x_code m) pc = .ok (.newarray atype, 2))
    (hn : M.1.length = n) (hz : ¬ z < 0) (hN : z.toNatClampNeg = N) (hb2 : N * 4 ≤ 536870912) (hc : u.1 + 1 ≤ x_mc m) (hs : u.2 + N ≤ x_ms m) (hlen : n + 1 < 1000000) (hst : st.all (x_ne n) = true) (hls : (ls.map (·.2)).all (x_ne n) = true)
    (K : X scr m (u.1 + 1, u.2 + N) (pc + 2) ls (.ref n :: st) (M.1 ++ [(t, N)], M.2) Q) : X scr m u pc ls (.int z :: st) M Q := by
  subst hn
  intro p l e s mi args below meth c D cI cZ A ae al H locs lx Z C R hl hret h1 h2
  obtain ⟨hx, hb, hml, hr, hlk, hown, hnm, hts, hK, hA, hE, hsc⟩ := id C
  obtain ⟨hP, hD, hS, hM⟩ := R
  have a1 := (hM.2.2.1 (64 * M.1.length) (Nat.le_refl _)).1
  have key : ∀ (ty : FieldType) (cT : ClassId), newarray.typeOf atype = ty → (Cond.arrayClass (newarray.typeOf atype)).before args s = true → defaultValue ty = .int 0 → N * componentBytes ty ≤ 536870912 → (∃ i : Nat, ([(cI, .int), (cZ, .boolean)] : List (ClassId × FieldType))[i]? = some (cT, ty)) → (∀ cA, va_RA s cA ty → va_RA s cT ty → cA = cT) → x_ent cI cZ (x_ad al ae) M.2 M.1.length (t, N) = .inl (cT, N, .inl (fun _ => 0)) → (∀ ad, x_ent cI cZ ad M.2 M.1.length (t, N) = .inl (cT, N, .inl (fun _ => 0))) → t ≠ 0 →
      W p l e (x_room m) s mi args below meth c H locs u.1 u.2 Z (F0 mi pc lx ((Value.int z :: st).map (x_cv (x_ad al ae)))) := by
    intro ty cT hty harr hdef hbt hmem hinj he0 he ht0
    refine va_newa (a0 := (N, .inl (fun _ => 0))) hx hb harr hty hK hP hD hS hA (fun cA => by rw [vp_cell_i, hdef]) hz hN hbt hc hs hd (fun q cA H1 k1 p1 d1 s1 => ?_)
    have hcA : cA = cT := by
      obtain ⟨i, hi⟩ := hmem
      exact hinj cA (k1.2 2 (cA, ty) rfl).2 (hK.2 i (cT, ty) hi).2
    subst hcA
    have e1 := x_ws_push (cI := cI) (cZ := cZ) (al := al) (ae := ae) (q := (t, N)) (z := q) hM
    rw [he] at e1
    rw [← e1] at p1 d1
    have e3 := x_map_up (al := al) (ae := ae) (q := q) hst
    have e4 := x_lp_up (al := al) (ae := ae) (q := q) hls
    have kk := K p l e s mi args below meth c D cI cZ A ae (va_up al M.1.length q) H1 locs lx Z C ⟨p1, d1, s1, x_Ok_push hM hlen (fun h => absurd h ht0)⟩ (by rw [e4]; exact hl) (fun r M' al' H' locs' lx' pc' uc us hq hR hal hle hle2 => hret r M' al' H' locs' lx' pc' uc us hq hR (fun k hk => by
      have hle' : M.1.length + 1 ≤ M'.1.length := by simpa using hle
      rw [hal k (by simp; omega)]
      simp only [va_up]
      rw [if_neg (by omega)]) (by simp at hle; omega) (by simp at hle2; omega)) hc hs
    simp only [List.map_cons, e3] at kk
    simpa [x_cv, x_ad, va_up, hM.1] using kk
  have inj : ∀ (ty : FieldType), (ty = .int ∨ ty = .boolean) → ∀ cA cT, va_RA s cA ty → va_RA s cT ty → cA = cT := by
    intro ty hty cA cT g1 g2
    rcases hty with rfl | rfl <;> exact Option.some.inj (g1.symm.trans g2)
  rcases ht with ⟨rfl, rfl⟩ | ⟨rfl, rfl⟩
  · exact key .int cI rfl (hts _ x_arrI) rfl hb2 ⟨0, rfl⟩ (fun cA g1 g2 => inj .int (Or.inl rfl) cA cI g1 g2) (by simp [x_ent, a1]) (fun ad => by simp [x_ent, a1]) (by decide)
  · exact key .boolean cZ rfl (hts _ x_arrZ) rfl (by show N * 1 ≤ _; omega) ⟨1, rfl⟩ (fun cA g1 g2 => inj .boolean (Or.inr rfl) cA cZ g1 g2) (by simp [x_ent, a1]) (fun ad => by simp [x_ent, a1]) (by decide)
end
section
/-! ===== a method's pure run gives its contract; a contract gives a call ===== -/
def x_A (al : Nat → Nat) (n sz : Nat) : Nat → Prop := fun q => (∃ k, k < n ∧ q = al k) ∨ sz ≤ q
def x_PreB (D : va_G) (cI cZ : ClassId) (ae al : Nat → Nat) (M : x_M) (sz : Nat) : State → Prop := fun U => U.heap.size = sz ∧ va_P D vwCl (x_ws cI cZ (x_ad al ae) M) U.heap ∧ va_K D vwCl [(cI, .int), (cZ, .boolean)] U ∧ va_D (fun _ => True) (x_ws cI cZ (x_ad al ae) M) ∧ x_Ok M ∧ x_Ext ae (x_A al M.1.length sz) U U.heap
def x_Post (D : va_G) (cI cZ : ClassId) (ae al : Nat → Nat) (M : x_M) (sz mc : Nat) (Q : Option Value → x_M → Prop) : Array Value → State → Outcome → State → Prop := fun _ st oc t =>
  (∃ (r : Option Value) (M' : x_M) (al' : Nat → Nat), oc = .returned (r.map (x_cv (x_ad al' ae))) ∧ Q r M' ∧ va_P D vwCl (x_ws cI cZ (x_ad al' ae) M') t.heap ∧ va_D (x_A al M.1.length sz) (x_ws cI cZ (x_ad al' ae) M') ∧ x_Ok M' ∧ (∀ k, k < M.1.length ∨ M'.1.length ≤ k → al' k = al k) ∧ M.1.length ≤ M'.1.length ∧ M'.1.length ≤ M.1.length + mc) ∧ va_F (x_A al M.1.length sz) st t
theorem x_lp_args (ad : Nat → Nat) : ∀ (As : List Value) (i : Nat), x_lp ad (lv_args i As) = lv_args i (As.map (x_cv ad))
  | [], _ => rfl
  | v :: vs, i => by
    simp only [lv_args, List.map_cons, x_cv_cat]
    show (i, x_cv ad v) :: x_lp ad _ = _
    rw [x_lp_args ad vs]
theorem x_sl_len (ad : Nat → Nat) (As : List Value) : (lg_sl (As.map (x_cv ad))).length = (lg_sl As).length := by
  induction As with
  | nil => rfl
  | cons v vs ih =>
    simp only [lg_sl, List.map_cons, List.flatMap_cons, List.length_append, x_cv_cat] at ih ⊢
    rw [ih]
    by_cases h : v.category = 2 <;> simp [h]
theorem x_met {m : x_Mth} {As : List Value} {M : x_M} {Q : Option Value → x_M → Prop} (hy : plainName (x_y m).cls = true) (hown : x_own m = (x_y m).cls) (hlen : (lg_sl As).length ≤ x_maxL m) (h : X none m (0, 0) 0 (lv_args 0 As) [] M Q)
    (l : Launch) (D : va_G) (cI cZ : ClassId) (ae al : Nat → Nat) (sz : Nat) :
    Met l (x_y m) (Cond.code (x_y m) (x_code m) (x_maxL m) (x_ret m) :: x_GW) (x_room m) (va_Pc (As.map (x_cv (x_ad al ae))) (x_PreB D cI cZ ae al M sz)) (x_Post D cI cZ ae al M sz (x_mc m) Q) (x_mc m) (x_ms m) (x_A al M.1.length sz) := by
  refine Met.ofW (cc := x_code m) (maxL := x_maxL m) (ret := x_ret m) hy rfl ?_
  intro p e s mi args below meth c s₁ B hml hv
  obtain ⟨rfl, hsz, hP, hK, hD, hM, hE⟩ := hv
  have hts0 := atoms_spec (ws := Cond.code (x_y m) (x_code m) (x_maxL m) (x_ret m) :: x_GW) B.pre
  have hts : ∀ w ∈ x_GW, w.before _ s = true := fun w hw => hts0 w (List.mem_cons_of_mem _ hw)
  have hfc : s.vm.findClass (x_own m) = some mi.cls := by rw [hown]; exact findClass_of_methodNamed B.named
  have hnm : meth.name = (x_y m).name := (name_of_methodNamed B.named B.method).1
  subst hsz
  have hr := B.returns
  rw [lg_entry_eq]
  have hl0 := lv_entry (As.map (x_cv (x_ad al ae))) (n := x_maxL m) (by rw [x_sl_len]; exact hlen)
  rw [← x_lp_args] at hl0
  have hA : ∀ q, s.heap.size ≤ q → x_A al M.1.length s.heap.size q := fun q hq => Or.inr hq
  have hD2 : va_D (x_A al M.1.length s.heap.size) (x_ws cI cZ (x_ad al ae) M) := by
    refine hD.weaken fun k q hk _ => ?_
    have hk2 : k < M.1.length := by
      have := (List.getElem?_eq_some_iff.mp hk).1
      simpa [x_ws] using this
    cases hq : M.1[k]? with
    | none => rw [List.getElem?_eq_none_iff] at hq; omega
    | some w =>
      have h1 := x_ws_get (cI := cI) (cZ := cZ) (ad := x_ad al ae) hq
      rw [h1] at hk
      cases hk
      have := hM.1
      exact Or.inl ⟨k, hk2, by simp [x_ad, show k < 1000000 by omega]⟩
  exact h p l e s mi _ below meth c D cI cZ (x_A al M.1.length s.heap.size) ae al s.heap [] _ _
    ⟨B.exec, B.bytes, hml, hr, B.notSynchronized, hfc, hnm, hts, hK, hA, hE, fun L xs hh => by cases hh⟩
    ⟨hP, hD2, va_S.rf, hM⟩ hl0
    (fun r M' al' H' locs' lx' pc' uc us hq R' hal hle hle2 hri huc hus => by
      have hpost : ∀ t : State, t.heap = H' → x_Post D cI cZ ae al M s.heap.size (x_mc m) Q ((As.map (x_cv (x_ad al ae))).toArray) s (.returned (r.map (x_cv (x_ad al' ae)))) t := fun t ht =>
        ⟨⟨r, M', al', rfl, hq, by rw [ht]; exact R'.1, R'.2.1, R'.2.2.2, hal, hle, by simpa using hle2⟩, R'.2.2.1.F ht⟩
      refine W.widen (k := x_mc m) (n := x_ms m) huc hus ?_
      match r, hri with
      | none, hri => exact W.vret B.exec B.bytes (hr.trans hri.2) (fun t ht _ => hpost t ht) R'.2.2.1.2.2 hri.1 B.notSynchronized
      | some (.int v), hri =>
        obtain ⟨hd, ty, h1, h2⟩ := hri
        exact W.zret B.exec B.bytes (hr.trans h1) h2 (fun t ht _ => hpost t ht) R'.2.2.1.2.2 hd B.notSynchronized
      | some (.long v), hri => exact W.lret B.exec B.bytes (hr.trans hri.2) (fun t ht _ => hpost t ht) R'.2.2.1.2.2 hri.1 B.notSynchronized)
    (Nat.zero_le _) (Nat.zero_le _)
theorem x_blind {D : va_G} {cI cZ : ClassId} {ae al : Nat → Nat} {M : x_M} {sz : Nat} {av : List Value} : FrameBlind (va_Pc av (x_PreB D cI cZ ae al M sz)) := fun a U g mk q => by
  obtain ⟨e, h1, h2, h3, h4, h5, h6⟩ := q
  exact ⟨e, h1, h2, va_K.moved (u := U) (U := U.calling g mk a) (Vm.Alike.refl U.vm) h3, h4, h5, x_Ext.same (s := U) h6 rfl⟩
theorem x_sub_A {D : va_G} {cI cZ : ClassId} {A : Nat → Prop} {ae al : Nat → Nat} {M : x_M} {s : State} {H : Heap} {locs : List Loc} (R : x_Rep D cI cZ A (x_ad al ae) M s.heap H locs) (hA : ∀ q, s.heap.size ≤ q → A q) : ∀ q, x_A al M.1.length H.size q → A q := by
  rintro q (⟨k, hk, rfl⟩ | hq)
  · cases hw : M.1[k]? with
    | none => rw [List.getElem?_eq_none_iff] at hw; omega
    | some w =>
      have h1 := R.2.1.2 k _ (x_ws_get hw)
      have := R.2.2.2.1
      simpa [x_ad, show k < 1000000 by omega] using h1
  · exact hA q (Nat.le_trans R.2.2.1.1 hq)
theorem x_pre {scr : Option (Nat × (Nat → Int32))} {m : x_Mth} {p : Program} {s : State} {mi : MethodId} {args : Array Value} {meth : Method} {c : Code} {D : va_G} {cI cZ : ClassId} {A : Nat → Prop} {ae al : Nat → Nat} {M : x_M} {H : Heap} {locs : List Loc} (C : x_Ctx scr m p s mi args meth c D cI cZ A ae) (R : x_Rep D cI cZ A (x_ad al ae) M s.heap H locs) (av : List Value) :
    ∀ U : State, U.heap = H → s.WarmedH U.vm → va_Pc av (x_PreB D cI cZ ae al M H.size) av.toArray U := by
  obtain ⟨hx, hb, hml, hr, hlk, hown, hnm, hts, hK, hA, hE, hsc⟩ := id C
  intro U hU hW
  refine ⟨rfl, by rw [hU], by rw [hU]; exact R.1, va_K.moved hW.alike hK, R.2.1.weaken (fun _ _ _ _ => trivial), R.2.2.2, ?_⟩
  rw [hU]
  exact ((hE.kept R.2.2.1.2.1).narrow (x_sub_A R hA)).warm hW
theorem x_map_rlt {al al' ae : Nat → Nat} {n : Nat} {st : List Value} (hal : ∀ k, k < n → al' k = al k) (h : st.all (x_rlt n) = true) : st.map (x_cv (x_ad al' ae)) = st.map (x_cv (x_ad al ae)) := by
  refine List.map_congr_left fun v hv => ?_
  have h1 := List.all_eq_true.mp h v hv
  cases v with
  | ref k =>
    simp only [x_rlt, Bool.or_eq_true, decide_eq_true_eq] at h1
    simp only [x_cv, x_ad]
    by_cases hk : k < 1000000
    · rw [if_pos hk, if_pos hk, hal k (h1.elim id (fun g => absurd hk (Nat.not_lt.mpr g)))]
    · rw [if_neg hk, if_neg hk]
  | _ => rfl
theorem x_lp_rlt {al al' ae : Nat → Nat} {n : Nat} {ls : List (Nat × Value)} (hal : ∀ k, k < n → al' k = al k) (h : (ls.map (·.2)).all (x_rlt n) = true) : x_lp (x_ad al' ae) ls = x_lp (x_ad al ae) ls := by
  refine List.map_congr_left fun v hv => ?_
  have h1 := x_map_rlt (ae := ae) (st := [v.2]) hal (by simpa using List.all_eq_true.mp h v.2 (List.mem_map_of_mem hv))
  have h2 : x_cv (x_ad al' ae) v.2 = x_cv (x_ad al ae) v.2 := by simpa using h1
  rw [h2]
/-- behind a call: the caller goes on in the callee's world -/
theorem x_callK {scr : Option (Nat × (Nat → Int32))} {m m' : x_Mth} {u : Nat × Nat} {pc : Nat} {ls : List (Nat × Value)} {st rest Ar : List Value} {M : x_M} {Q : Option Value → x_M → Prop} {Q' : Option Value → x_M → Prop}
    (hrk : x_mc m' = 0 ∨ (rest.all (x_rlt M.1.length) = true ∧ (ls.map (·.2)).all (x_rlt M.1.length) = true)) (hc : u.1 + x_mc m' ≤ x_mc m ∧ u.2 + x_ms m' ≤ x_ms m)
    (hrun : ∀ (p : Program) (l : Launch) (e : Env) (s : State) (mi : MethodId) (args : Array Value) (below : List Frame) (meth : Method) (c : Code) (D : va_G) (cI cZ : ClassId) (A : Nat → Prop) (ae al : Nat → Nat) (H : Heap) (locs : List Loc) (lx : Array Slot),
      x_Ctx scr m p s mi args meth c D cI cZ A ae → x_Rep D cI cZ A (x_ad al ae) M s.heap H locs → lv_has lx (x_maxL m) (x_lp (x_ad al ae) ls) →
      va_Run p l e (x_room m) s mi args below meth c H locs u.1 u.2 (x_mc m') (x_ms m') (F0 mi pc lx (st.map (x_cv (x_ad al ae)))) (rest.map (x_cv (x_ad al ae))) (x_Post D cI cZ ae al M H.size (x_mc m') Q' (Ar.map (x_cv (x_ad al ae))).toArray) (x_A al M.1.length H.size))
    (K : ∀ r M', Q' r M' → X scr m (u.1 + x_mc m', u.2 + x_ms m') (pc + 3) ls (r.toList ++ rest) M' Q) : X scr m u pc ls st M Q := by
  intro p l e s mi args below meth c D cI cZ A ae al H locs lx Z C R hl hret h1 h2 T hT XX
  obtain ⟨hx, hb, hml, hr, hlk, hown, hnm, hts, hK, hA, hE, hsc⟩ := id C
  obtain ⟨v, st₀, t, T', L, h0, X', hL, e1, e2, ⟨⟨r, M', al', hv, hq, p1, d1, ok1, hal, hle, hle2⟩, hz, hk⟩, sx⟩ := hrun p l e s mi args below meth c D cI cZ A ae al H locs lx C R hl T hT XX
  have hsub := x_sub_A R hA
  rw [h0] at hz hk
  rw [← e1] at hz hk p1
  cases hv
  have hS := R.2.2.1
  have hS1 : va_S A s.heap T'.heap (locs ++ L) := ⟨Nat.le_trans hS.1 hz, fun q g1 g2 => by
      rw [hk q (Nat.lt_of_lt_of_le g1 hS.1) (fun z => g2 (hsub q z))]; exact hS.2.1 q g1 g2, fun q hq => by
      rcases List.mem_append.mp hq with g | g
      · exact hS.2.2 q g
      · exact hsub _ (hL q g)⟩
  have hst : rest.map (x_cv (x_ad al' ae)) = rest.map (x_cv (x_ad al ae)) ∧ x_lp (x_ad al' ae) ls = x_lp (x_ad al ae) ls := by
    rcases hrk with hm | ⟨g1, g2⟩
    · have : al' = al := by
        funext k
        apply hal
        omega
      rw [this]
      exact ⟨rfl, rfl⟩
    · exact ⟨x_map_rlt (fun k hk => hal k (Or.inl hk)) g1, x_lp_rlt (fun k hk => hal k (Or.inl hk)) g2⟩
  have kk := K r M' hq p l e s mi args below meth c D cI cZ A ae al' T'.heap (locs ++ L) lx Z C ⟨p1, d1.weaken (fun _ q _ g => hsub _ g), hS1, ok1⟩ (by rw [hst.2]; exact hl)
    (fun r2 M2 al2 H2 locs2 lx2 pc2 uc us q2 R2 hal2 hl2 hl3 => hret r2 M2 al2 H2 locs2 lx2 pc2 uc us q2 R2 (fun k hk => by rw [hal2 k (by omega), hal k (by omega)]) (by omega) (by dsimp only at hl3; omega)) hc.1 hc.2
  rw [List.map_append, hst.1] at kk
  obtain ⟨t2, a1, b1⟩ := kk T' rfl X'
  refine ⟨t2, sx t2 ?_, b1⟩
  cases r <;> exact a1
/-- what a method's name, code and tables give, for every call of it -/
def x_MI (m : x_Mth) (n : Nat) : Prop := plainName (x_y m).cls = true ∧ x_own m = (x_y m).cls ∧ Cond.initialized (x_y m).cls ∈ x_GW ∧ Cond.code (x_y m) (x_code m) (x_maxL m) (x_ret m) ∈ x_GW ∧ (x_y m).cls ≠ "java/lang/invoke/MethodHandle" ∧ (x_y m).cls ≠ "java/lang/invoke/VarHandle" ∧ (parseMethodDescriptor (x_y m).desc).map (fun d => d.parameters.length) = some n
def x_MV (m : x_Mth) (n : Nat) : Prop := x_MI m n ∧ Cond.instanceMethod (x_y m) ∈ x_GW ∧ Cond.selects (x_y m).cls (x_y m) (x_y m) ∈ x_GW
def x_MS (m : x_Mth) (n : Nat) : Prop := x_MI m n ∧ Cond.static (x_y m) ∈ x_GW
def x_MC (m : x_Mth) (n : Nat) : Prop := x_MI m n ∧ Cond.instanceMethod (x_y m) ∈ x_GW ∧ (x_y m).name = "<init>" ∧ x_ret m = none
theorem x_goodGW {m : x_Mth} (h : Cond.code (x_y m) (x_code m) (x_maxL m) (x_ret m) ∈ x_GW) : GoodIn x_GW (Cond.code (x_y m) (x_code m) (x_maxL m) (x_ret m) :: x_GW) := by
  intro w hw
  have h1 : w ∈ x_GW := by
    rcases List.mem_cons.mp hw with rfl | h1
    · exact h
    · exact h1
  exact ⟨h1, good_of_word (List.mem_filter.mp h1).2⟩
theorem x_callB {m m' : x_Mth} {n idx : Nat} {s : State} {args : Array Value} (hm : x_MI m' n) (hts : ∀ w ∈ x_GW, w.before args s = true) (hl : Cond.methodLink (x_own m) idx (x_y m') ∈ x_GW) (hR : x_fr m' + 1 ≤ x_fr m ∧ 8 + (x_maxL m' + 11) + x_lo m' ≤ x_lo m) :
    CallB (x_room m) s args (x_own m) idx (x_y m') (x_code m') (x_maxL m') (x_ret m') (Cond.code (x_y m') (x_code m') (x_maxL m') (x_ret m') :: x_GW) (x_room m') (x_mc m') (x_ms m') n :=
  callB_of n hts (x_goodGW hm.2.2.2.1) rfl rfl rfl (hts _ hm.2.2.1) (hts _ hl) hm.2.2.2.2 hR
/-- the sum of the words of what lies below the arguments -/
abbrev x_cat (st : List Value) : Nat := (st.map fun v => v.category).sum
theorem x_cat_cv (ad : Nat → Nat) (st : List Value) : ((st.map (x_cv ad)).map fun v => v.category).sum = x_cat st := by
  simp only [x_cat, List.map_map]
  congr 1
  exact List.map_congr_left fun v _ => x_cv_cat ad v
theorem x_callV {scr : Option (Nat × (Nat → Int32))} {m : x_Mth} {u : Nat × Nat} {pc : Nat} {ls : List (Nat × Value)} {M : x_M} {Q : Option Value → x_M → Prop} {idx : Nat} (m' : x_Mth) (As rest : List Value) (b ci n : Nat) (st : List Value) (hst : st = As.reverse ++ .ref b :: rest) (hd : decode (x_code m) pc = .ok (.invokevirtual idx, 3)) (hl : Cond.methodLink (x_own m) idx (x_y m') ∈ x_GW) (hm : x_MV m' n) (hn : As.length = n)
    (hR : x_fr m' + 1 ≤ x_fr m ∧ 8 + (x_maxL m' + 11) + x_lo m' ≤ x_lo m) (hc : u.1 + x_mc m' ≤ x_mc m ∧ u.2 + x_ms m' ≤ x_ms m) (hw : x_cat rest ≤ 8) (ho : M.1[b]? = some (0, ci)) (hci : ci < 11) (hcl : (x_y m').cls = x_R ci) (hlen : (lg_sl (.ref b :: As)).length ≤ x_maxL m')
    (hrk : x_mc m' = 0 ∨ (rest.all (x_rlt M.1.length) = true ∧ (ls.map (·.2)).all (x_rlt M.1.length) = true))
    (K : X none m' (0, 0) 0 (lv_args 0 (.ref b :: As)) [] M (fun r M' => X scr m (u.1 + x_mc m', u.2 + x_ms m') (pc + 3) ls (r.toList ++ rest) M' Q)) : X scr m u pc ls st M Q := by
  refine x_callK (Ar := .ref b :: As) (rest := rest) hrk hc (fun p l e s mi args below meth c D cI cZ A ae al H locs lx C R hlx => ?_) (fun r M' h => h)
  subst hst
  obtain ⟨hx, hb, hml, hr, hlk, hown, hnm, hts, hK, hA, hE, hsc⟩ := id C
  have hmet := x_met hm.1.1 hm.1.2.1 hlen K l D cI cZ ae al H.size
  have hb1 : x_ad al ae b = al b := by have := R.2.2.2.1; have := x_lt_of ho; simp [x_ad, show b < 1000000 by omega]
  have cw : CallW (x_room m) s args (x_own m) (x_y m').cls idx (x_y m') (x_code m') (x_maxL m') (x_ret m') (Cond.code (x_y m') (x_code m') (x_maxL m') (x_ret m') :: x_GW) (x_room m') (x_mc m') (x_ms m') n := ⟨x_callB hm.1 hts hl hR, hts _ hm.2.1, hts _ hm.2.2⟩
  have hrv : ∃ cell : Cell, H[x_ad al ae b]? = some cell ∧ cell.vm.isStatics = false ∧ s.vm.findClass (x_y m').cls = some cell.cls := by
    rw [hcl]
    exact va_recv hK R.1 (x_cl ci hci) (x_ws_get ho)
  exact va_runV (As := As.map (x_cv (x_ad al ae))) (rest := rest.map (x_cv (x_ad al ae))) (b := x_ad al ae b) (cc := x_code m) (nL := x_maxL m) ⟨hx, hb, hml, hown, hts⟩ hmet cw ⟨x_blind, hrv, x_pre C R _⟩ rfl (by rw [List.length_map]; exact hn) hlx.1 (by simp [x_cv]) (lv_room (by rw [x_cat_cv]; exact hw)) hd hc
theorem x_callS {scr : Option (Nat × (Nat → Int32))} {m : x_Mth} {u : Nat × Nat} {pc : Nat} {ls : List (Nat × Value)} {M : x_M} {Q : Option Value → x_M → Prop} {idx : Nat} (m' : x_Mth) (As rest : List Value) (n : Nat) (st : List Value) (hst : st = As.reverse ++ rest) (hd : decode (x_code m) pc = .ok (.invokestatic idx, 3)) (hl : Cond.methodLink (x_own m) idx (x_y m') ∈ x_GW) (hm : x_MS m' n) (hn : As.length = n)
    (hR : x_fr m' + 1 ≤ x_fr m ∧ 8 + (x_maxL m' + 11) + x_lo m' ≤ x_lo m) (hc : u.1 + x_mc m' ≤ x_mc m ∧ u.2 + x_ms m' ≤ x_ms m) (hw : x_cat rest ≤ 8) (hlen : (lg_sl As).length ≤ x_maxL m')
    (hrk : x_mc m' = 0 ∨ (rest.all (x_rlt M.1.length) = true ∧ (ls.map (·.2)).all (x_rlt M.1.length) = true))
    (K : X none m' (0, 0) 0 (lv_args 0 As) [] M (fun r M' => X scr m (u.1 + x_mc m', u.2 + x_ms m') (pc + 3) ls (r.toList ++ rest) M' Q)) : X scr m u pc ls st M Q := by
  refine x_callK (Ar := As) (rest := rest) hrk hc (fun p l e s mi args below meth c D cI cZ A ae al H locs lx C R hlx => ?_) (fun r M' h => h)
  subst hst
  obtain ⟨hx, hb, hml, hr, hlk, hown, hnm, hts, hK, hA, hE, hsc⟩ := id C
  have hmet := x_met hm.1.1 hm.1.2.1 hlen K l D cI cZ ae al H.size
  exact va_runS (As := As.map (x_cv (x_ad al ae))) (rest := rest.map (x_cv (x_ad al ae))) (cc := x_code m) (nL := x_maxL m) ⟨hx, hb, hml, hown, hts⟩ hmet ⟨x_callB hm.1 hts hl hR, hts _ hm.2⟩ ⟨x_blind, x_pre C R _⟩ rfl (by rw [List.length_map]; exact hn) hlx.1 (by simp) (lv_room (by rw [x_cat_cv]; exact hw)) hd hc
theorem x_callC {scr : Option (Nat × (Nat → Int32))} {m : x_Mth} {u : Nat × Nat} {pc : Nat} {ls : List (Nat × Value)} {M : x_M} {Q : Option Value → x_M → Prop} {idx : Nat} (m' : x_Mth) (As rest : List Value) (b n : Nat) (st : List Value) (hst : st = As.reverse ++ .ref b :: rest) (hd : decode (x_code m) pc = .ok (.invokespecial idx, 3)) (hl : Cond.methodLink (x_own m) idx (x_y m') ∈ x_GW) (hm : x_MC m' n) (hn : As.length = n)
    (hR : x_fr m' + 1 ≤ x_fr m ∧ 8 + (x_maxL m' + 11) + x_lo m' ≤ x_lo m) (hc : u.1 + x_mc m' ≤ x_mc m ∧ u.2 + x_ms m' ≤ x_ms m) (hw : x_cat rest ≤ 8) (hlen : (lg_sl (.ref b :: As)).length ≤ x_maxL m')
    (hrk : x_mc m' = 0 ∨ (rest.all (x_rlt M.1.length) = true ∧ (ls.map (·.2)).all (x_rlt M.1.length) = true))
    (K : X none m' (0, 0) 0 (lv_args 0 (.ref b :: As)) [] M (fun r M' => X scr m (u.1 + x_mc m', u.2 + x_ms m') (pc + 3) ls (r.toList ++ rest) M' Q)) : X scr m u pc ls st M Q := by
  refine x_callK (Ar := .ref b :: As) (rest := rest) hrk hc (fun p l e s mi args below meth c D cI cZ A ae al H locs lx C R hlx => ?_) (fun r M' h => h)
  subst hst
  obtain ⟨hx, hb, hml, hr, hlk, hown, hnm, hts, hK, hA, hE, hsc⟩ := id C
  have hmet := x_met hm.1.1 hm.1.2.1 hlen K l D cI cZ ae al H.size
  have hcb := x_callB hm.1 hts hl hR
  rw [hm.2.2.2] at hmet hcb
  exact va_runI (As := As.map (x_cv (x_ad al ae))) (rest := rest.map (x_cv (x_ad al ae))) (b := x_ad al ae b) (cc := x_code m) (nL := x_maxL m) ⟨hx, hb, hml, hown, hts⟩ hmet ⟨hcb, hm.2.2.1, hts _ hm.2.1⟩ ⟨x_blind, x_pre C R _⟩ rfl (by rw [List.length_map]; exact hn) hlx.1 (by simp [x_cv]) (lv_room (by rw [x_cat_cv]; exact hw)) hd hc
end
section
/-! ===== Object's constructor, a nest mate's constructor, Math, texts, statics, the script ===== -/
theorem x_objInit {scr : Option (Nat × (Nat → Int32))} {m : x_Mth} {u : Nat × Nat} {pc : Nat} {ls : List (Nat × Value)} {st : List Value} {M : x_M} {Q : Option Value → x_M → Prop} {idx o : Nat} (hd : decode (x_code m) pc = .ok (.invokespecial idx, 3)) (hl : Cond.methodLink (x_own m) idx objectInit ∈ x_GW) (hf : 1 ≤ x_fr m) (hw : x_cat st + 12 ≤ x_lo m)
    (K : X scr m u (pc + 3) ls st M Q) : X scr m u pc ls (.ref o :: st) M Q := by
  intro p l e s mi args below meth c D cI cZ A ae al H locs lx Z C R hlx hret h1 h2
  obtain ⟨hx, hb, hml, hr, hlk, hown, hnm, hts, hK, hA, hE, hsc⟩ := id C
  refine W.objInit hx hb hown (hts _ hl) (hts _ x_obj.1) (hts _ x_obj.2) rfl (by rw [hml]; exact hlx.1) rfl hd hf ?_ (K p l e s mi args below meth c D cI cZ A ae al H locs lx Z C R hlx hret h1 h2)
  show 2 * 0 + ((st.map (x_cv (x_ad al ae))).map fun v => v.category).sum + 12 ≤ x_lo m
  rw [x_cat_cv]
  omega
theorem x_callN {scr : Option (Nat × (Nat → Int32))} {m : x_Mth} {u : Nat × Nat} {pc : Nat} {ls : List (Nat × Value)} {M : x_M} {Q : Option Value → x_M → Prop} (m' : x_Mth) (As rest : List Value) (b n : Nat) (st : List Value) (hst : st = As.reverse ++ .ref b :: rest) (hd : decode (x_code m) pc = .ok (.invokespecial 9, 3)) (ho : x_own m = "HeaderWays") (hy : x_y m' = ⟨"HeaderWays$Net", "<init>", "()V"⟩) (hm : x_MC m' n) (hn : As.length = n)
    (hR : x_fr m' + 1 ≤ x_fr m ∧ 8 + (x_maxL m' + 11) + x_lo m' ≤ x_lo m) (hc : u.1 + x_mc m' ≤ x_mc m ∧ u.2 + x_ms m' ≤ x_ms m) (hw : x_cat rest ≤ 8) (hlen : (lg_sl (.ref b :: As)).length ≤ x_maxL m')
    (hrk : x_mc m' = 0 ∨ (rest.all (x_rlt M.1.length) = true ∧ (ls.map (·.2)).all (x_rlt M.1.length) = true))
    (K : X none m' (0, 0) 0 (lv_args 0 (.ref b :: As)) [] M (fun r M' => X scr m (u.1 + x_mc m', u.2 + x_ms m') (pc + 3) ls (r.toList ++ rest) M' Q)) : X scr m u pc ls st M Q := by
  refine x_callK (Ar := .ref b :: As) (rest := rest) hrk hc (fun p l e s mi args below meth c D cI cZ A ae al H locs lx C R hlx => ?_) (fun r M' h => h)
  subst hst
  obtain ⟨hx, hb, hml, hr, hlk, hown, hnm, hts, hK, hA, hE, hsc⟩ := id C
  have hmet := x_met hm.1.1 hm.1.2.1 hlen K l D cI cZ ae al H.size
  have hcb := va_cnB (R := x_room m) (own := x_own m) (index := 9) (host := "HeaderWays") (y := x_y m') (ret := x_ret m') (ws := Cond.code (x_y m') (x_code m') (x_maxL m') (x_ret m') :: x_GW) (rm := x_room m') (mc := x_mc m') (ms := x_ms m') n hts (x_goodGW hm.1.2.2.2.1) rfl rfl rfl (by rw [ho, hy]; exact hE.2.2.2.2.1) (hts _ hm.1.2.2.1) hm.1.2.2.2.2 hR
  rw [hm.2.2.2] at hmet hcb
  exact va_runIN (As := As.map (x_cv (x_ad al ae))) (rest := rest.map (x_cv (x_ad al ae))) (b := x_ad al ae b) (cc := x_code m) (nL := x_maxL m) ⟨hx, hb, hml, hown, hts⟩ hmet ⟨hcb, hm.2.2.1, hts _ hm.2.1⟩ ⟨x_blind, x_pre C R _⟩ rfl (by rw [List.length_map]; exact hn) hlx.1 (by simp [x_cv]) (lv_room (by rw [x_cat_cv]; exact hw)) hd hc
theorem x_mathMax {scr : Option (Nat × (Nat → Int32))} {m : x_Mth} {u : Nat × Nat} {pc : Nat} {ls : List (Nat × Value)} {st : List Value} {M : x_M} {Q : Option Value → x_M → Prop} {idx : Nat} {x y : Int32} (hd : decode (x_code m) pc = .ok (.invokestatic idx, 3)) (hl : Cond.methodLink (x_own m) idx Lib.Math.max.name ∈ x_GW) (hs : Cond.static Lib.Math.max.name ∈ x_GW) (hi : Cond.initialized "java/lang/Math" ∈ x_GW) (hc : Cond.code Lib.Math.max.name Lib.Math.max.code 2 (some .int) ∈ x_GW) (hf : 1 ≤ x_fr m) (hw : x_cat st + 13 ≤ x_lo m)
    (K : X scr m u (pc + 3) ls (.int (if x < y then y else x) :: st) M Q) : X scr m u pc ls (.int y :: .int x :: st) M Q := by
  intro p l e s mi args below meth c D cI cZ A ae al H locs lx Z C R hlx hret h1 h2
  obtain ⟨hx, hb, hml, hr, hlk, hown, hnm, hts, hK, hA, hE, hsc⟩ := id C
  exact va_mmax hx hb (by rw [hml]; exact hlx.1.symm) hown (hts _ hl) (hts _ hs) (hts _ hi) (hts _ hc) hf (by rw [x_cat_cv]; exact hw) h1 h2 hd (K p l e s mi args below meth c D cI cZ A ae al H locs lx Z C R hlx hret h1 h2)
theorem x_mathMin {scr : Option (Nat × (Nat → Int32))} {m : x_Mth} {u : Nat × Nat} {pc : Nat} {ls : List (Nat × Value)} {st : List Value} {M : x_M} {Q : Option Value → x_M → Prop} {idx : Nat} {x y : Int32} (hd : decode (x_code m) pc = .ok (.invokestatic idx, 3)) (hl : Cond.methodLink (x_own m) idx Lib.Math.min.name ∈ x_GW) (hs : Cond.static Lib.Math.min.name ∈ x_GW) (hi : Cond.initialized "java/lang/Math" ∈ x_GW) (hc : Cond.code Lib.Math.min.name Lib.Math.min.code 2 (some .int) ∈ x_GW) (hf : 1 ≤ x_fr m) (hw : x_cat st + 13 ≤ x_lo m)
    (K : X scr m u (pc + 3) ls (.int (if y < x then y else x) :: st) M Q) : X scr m u pc ls (.int y :: .int x :: st) M Q := by
  intro p l e s mi args below meth c D cI cZ A ae al H locs lx Z C R hlx hret h1 h2
  obtain ⟨hx, hb, hml, hr, hlk, hown, hnm, hts, hK, hA, hE, hsc⟩ := id C
  exact va_mmin hx hb (by rw [hml]; exact hlx.1.symm) hown (hts _ hl) (hts _ hs) (hts _ hi) (hts _ hc) hf (by rw [x_cat_cv]; exact hw) h1 h2 hd (K p l e s mi args below meth c D cI cZ A ae al H locs lx Z C R hlx hret h1 h2)
/-- a text's reference is pushed -/
theorem x_ldcS {scr : Option (Nat × (Nat → Int32))} {m : x_Mth} {u : Nat × Nat} {pc : Nat} {ls : List (Nat × Value)} {st : List Value} {M : x_M} {Q : Option Value → x_M → Prop} (idx k : Nat) (ho : x_own m = RX8) (hi : (idx = 68 ∧ k = 1000000) ∨ (idx = 76 ∧ k = 1000001)) (hd : decode (x_code m) pc = .ok (.ldc idx, 2)) (K : X scr m u (pc + 2) ls (.ref k :: st) M Q) : X scr m u pc ls st M Q := by
  intro p l e s mi args below meth c D cI cZ A ae al H locs lx Z C R hlx hret h1 h2
  obtain ⟨hx, hb, hml, hr, hlk, hown, hnm, hts, hK, hA, hE, hsc⟩ := id C
  have kk := K p l e s mi args below meth c D cI cZ A ae al H locs lx Z C R hlx hret h1 h2
  rw [ho] at hown
  rcases hi with ⟨rfl, rfl⟩ | ⟨rfl, rfl⟩
  · exact va_ldcS hx hb hown hE.1 hd kk
  · exact va_ldcS hx hb hown hE.2.1 hd kk
theorem x_ad_hi {al ae : Nat → Nat} {k : Nat} (h : 1000000 ≤ k) : x_ad al ae k = ae k := by simp [x_ad, show ¬ k < 1000000 by omega]
/-- a text's bytes -/
theorem x_strV {scr : Option (Nat × (Nat → Int32))} {m : x_Mth} {u : Nat × Nat} {pc : Nat} {ls : List (Nat × Value)} {st : List Value} {M : x_M} {Q : Option Value → x_M → Prop} {idx : Nat} (i : Nat) (hi : i < 2) (hd : decode (x_code m) pc = .ok (.getfield idx, 3)) (hl : Cond.fieldLink (x_own m) idx "java/lang/String" "value" "[B" ∈ x_GW) (K : X scr m u (pc + 3) ls (.ref (1000010 + i) :: st) M Q) : X scr m u pc ls (.ref (1000000 + i) :: st) M Q := by
  intro p l e s mi args below meth c D cI cZ A ae al H locs lx Z C R hlx hret h1 h2
  obtain ⟨hx, hb, hml, hr, hlk, hown, hnm, hts, hK, hA, hE, hsc⟩ := id C
  have kk := K p l e s mi args below meth c D cI cZ A ae al H locs lx Z C R hlx hret h1 h2
  have e1 : x_ad al ae (1000000 + i) = ae (1000000 + i) := x_ad_hi (by omega)
  have e2 : x_ad al ae (1000010 + i) = ae (1000010 + i) := x_ad_hi (by omega)
  simp only [List.map_cons, x_cv, e2] at kk
  simp only [List.map_cons, x_cv, e1]
  exact vk_getf hx hb (hE.2.2.1.1 i hi).2.2.1 R.2.2.1 hown (hts _ hl) (fun x h => h) hd kk
theorem x_strC {scr : Option (Nat × (Nat → Int32))} {m : x_Mth} {u : Nat × Nat} {pc : Nat} {ls : List (Nat × Value)} {st : List Value} {M : x_M} {Q : Option Value → x_M → Prop} {idx : Nat} (i : Nat) (hi : i < 2) (hd : decode (x_code m) pc = .ok (.getfield idx, 3)) (hl : Cond.fieldLink (x_own m) idx "java/lang/String" "coder" "B" ∈ x_GW) (K : X scr m u (pc + 3) ls (.int 0 :: st) M Q) : X scr m u pc ls (.ref (1000000 + i) :: st) M Q := by
  intro p l e s mi args below meth c D cI cZ A ae al H locs lx Z C R hlx hret h1 h2
  obtain ⟨hx, hb, hml, hr, hlk, hown, hnm, hts, hK, hA, hE, hsc⟩ := id C
  have e1 : x_ad al ae (1000000 + i) = ae (1000000 + i) := x_ad_hi (by omega)
  simp only [List.map_cons, x_cv, e1]
  exact vk_getf hx hb (hE.2.2.1.1 i hi).2.1 R.2.2.1 hown (hts _ hl) (fun x h => h) hd (K p l e s mi args below meth c D cI cZ A ae al H locs lx Z C R hlx hret h1 h2)
theorem x_strL {scr : Option (Nat × (Nat → Int32))} {m : x_Mth} {u : Nat × Nat} {pc : Nat} {ls : List (Nat × Value)} {st : List Value} {M : x_M} {Q : Option Value → x_M → Prop} (i : Nat) (hi : i < 2) (hd : decode (x_code m) pc = .ok (.arraylength, 1)) (K : X scr m u (pc + 1) ls (.int (Int32.ofNat (([5, 4] : List Nat).getD i 0)) :: st) M Q) : X scr m u pc ls (.ref (1000010 + i) :: st) M Q := by
  intro p l e s mi args below meth c D cI cZ A ae al H locs lx Z C R hlx hret h1 h2
  obtain ⟨hx, hb, hml, hr, hlk, hown, hnm, hts, hK, hA, hE, hsc⟩ := id C
  have e1 : x_ad al ae (1000010 + i) = ae (1000010 + i) := x_ad_hi (by omega)
  simp only [List.map_cons, x_cv, e1]
  exact va_tlen hx hb (hE.2.2.1.1 i hi).2.2.2 R.2.2.1 rfl hd (K p l e s mi args below meth c D cI cZ A ae al H locs lx Z C R hlx hret h1 h2)
theorem x_strB {scr : Option (Nat × (Nat → Int32))} {m : x_Mth} {u : Nat × Nat} {pc : Nat} {ls : List (Nat × Value)} {st : List Value} {M : x_M} {Q : Option Value → x_M → Prop} (i : Nat) {j : Int32} (hi : i < 2) (hj : vp_in j (([5, 4] : List Nat).getD i 0)) (hd : decode (x_code m) pc = .ok (.baload, 1)) (K : X scr m u (pc + 1) ls (.int ((([[110, 111, 100, 101, 115], [108, 105, 110, 107]] : List (List Int32)).getD i []).getD j.toNatClampNeg 0) :: st) M Q) : X scr m u pc ls (.int j :: .ref (1000010 + i) :: st) M Q := by
  intro p l e s mi args below meth c D cI cZ A ae al H locs lx Z C R hlx hret h1 h2
  obtain ⟨hx, hb, hml, hr, hlk, hown, hnm, hts, hK, hA, hE, hsc⟩ := id C
  have e1 : x_ad al ae (1000010 + i) = ae (1000010 + i) := x_ad_hi (by omega)
  simp only [List.map_cons, x_cv, e1]
  exact va_tb hx hb (hE.2.2.1.1 i hi).2.2.2 R.2.2.1 hj rfl hd (K p l e s mi args below meth c D cI cZ A ae al H locs lx Z C R hlx hret h1 h2)
theorem x_compact {scr : Option (Nat × (Nat → Int32))} {m : x_Mth} {u : Nat × Nat} {pc : Nat} {ls : List (Nat × Value)} {st : List Value} {M : x_M} {Q : Option Value → x_M → Prop} {idx : Nat} (hd : decode (x_code m) pc = .ok (.getstatic idx, 3)) (hl : Cond.fieldLink (x_own m) idx "java/lang/String" "COMPACT_STRINGS" "Z" ∈ x_GW) (K : X scr m u (pc + 3) ls (.int 1 :: st) M Q) : X scr m u pc ls st M Q := by
  intro p l e s mi args below meth c D cI cZ A ae al H locs lx Z C R hlx hret h1 h2
  obtain ⟨hx, hb, hml, hr, hlk, hown, hnm, hts, hK, hA, hE, hsc⟩ := id C
  exact va_gets hx hb hE.2.2.2.1 R.2.2.1 hown (hts _ hl) (fun x h => h) hd (K p l e s mi args below meth c D cI cZ A ae al H locs lx Z C R hlx hret h1 h2)
theorem x_formatter {scr : Option (Nat × (Nat → Int32))} {m : x_Mth} {u : Nat × Nat} {pc : Nat} {ls : List (Nat × Value)} {st : List Value} {M : x_M} {Q : Option Value → x_M → Prop} {idx : Nat} (hd : decode (x_code m) pc = .ok (.getstatic idx, 3)) (hl : Cond.fieldLink (x_own m) idx "jdk/internal/util/Preconditions" "SIOOBE_FORMATTER" "Ljava/util/function/BiFunction;" ∈ x_GW) (K : ∀ v, (v = .null ∨ v = .ref 1000030) → X scr m u (pc + 3) ls (v :: st) M Q) : X scr m u pc ls st M Q := by
  intro p l e s mi args below meth c D cI cZ A ae al H locs lx Z C R hlx hret h1 h2
  obtain ⟨hx, hb, hml, hr, hlk, hown, hnm, hts, hK, hA, hE, hsc⟩ := id C
  rcases hE.2.2.2.2.2 with hz | hz
  · exact va_gets hx hb hz R.2.2.1 hown (hts _ hl) (fun x h => h) hd (K .null (Or.inl rfl) p l e s mi args below meth c D cI cZ A ae al H locs lx Z C R hlx hret h1 h2)
  · exact va_gets hx hb hz R.2.2.1 hown (hts _ hl) (fun x h => h) hd (K (.ref 1000030) (Or.inr rfl) p l e s mi args below meth c D cI cZ A ae al H locs lx Z C R hlx hret h1 h2)
/-- a text's own methods -/
theorem x_callT {scr : Option (Nat × (Nat → Int32))} {m : x_Mth} {u : Nat × Nat} {pc : Nat} {ls : List (Nat × Value)} {M : x_M} {Q : Option Value → x_M → Prop} {idx : Nat} (m' : x_Mth) (As rest : List Value) (i n : Nat) (st : List Value) (hi : i < 2) (hst : st = As.reverse ++ .ref (1000000 + i) :: rest) (hd : decode (x_code m) pc = .ok (.invokevirtual idx, 3)) (hl : Cond.methodLink (x_own m) idx (x_y m') ∈ x_GW) (hm : x_MV m' n) (hn : As.length = n)
    (hR : x_fr m' + 1 ≤ x_fr m ∧ 8 + (x_maxL m' + 11) + x_lo m' ≤ x_lo m) (hc : u.1 + x_mc m' ≤ x_mc m ∧ u.2 + x_ms m' ≤ x_ms m) (hw : x_cat rest ≤ 8) (hcl : (x_y m').cls = "java/lang/String") (hlen : (lg_sl (.ref (1000000 + i) :: As)).length ≤ x_maxL m')
    (hrk : x_mc m' = 0 ∨ (rest.all (x_rlt M.1.length) = true ∧ (ls.map (·.2)).all (x_rlt M.1.length) = true))
    (K : X none m' (0, 0) 0 (lv_args 0 (.ref (1000000 + i) :: As)) [] M (fun r M' => X scr m (u.1 + x_mc m', u.2 + x_ms m') (pc + 3) ls (r.toList ++ rest) M' Q)) : X scr m u pc ls st M Q := by
  refine x_callK (Ar := .ref (1000000 + i) :: As) (rest := rest) hrk hc (fun p l e s mi args below meth c D cI cZ A ae al H locs lx C R hlx => ?_) (fun r M' h => h)
  subst hst
  obtain ⟨hx, hb, hml, hr, hlk, hown, hnm, hts, hK, hA, hE, hsc⟩ := id C
  have hmet := x_met hm.1.1 hm.1.2.1 hlen K l D cI cZ ae al H.size
  have cw : CallW (x_room m) s args (x_own m) (x_y m').cls idx (x_y m') (x_code m') (x_maxL m') (x_ret m') (Cond.code (x_y m') (x_code m') (x_maxL m') (x_ret m') :: x_GW) (x_room m') (x_mc m') (x_ms m') n := ⟨x_callB hm.1 hts hl hR, hts _ hm.2.1, hts _ hm.2.2⟩
  have e1 : x_ad al ae (1000000 + i) = ae (1000000 + i) := x_ad_hi (by omega)
  have hrv : ∃ cell : Cell, H[x_ad al ae (1000000 + i)]? = some cell ∧ cell.vm.isStatics = false ∧ s.vm.findClass (x_y m').cls = some cell.cls := by
    rw [hcl, e1]
    exact vk_recv (i := i) (adK := fun i => ae (1000000 + i)) hE.2.2.1 hi R.2.2.1
  exact va_runV (As := As.map (x_cv (x_ad al ae))) (rest := rest.map (x_cv (x_ad al ae))) (b := x_ad al ae (1000000 + i)) (cc := x_code m) (nL := x_maxL m) ⟨hx, hb, hml, hown, hts⟩ hmet cw ⟨x_blind, hrv, x_pre C R _⟩ rfl (by rw [List.length_map]; exact hn) hlx.1 (by simp [x_cv]) (lv_room (by rw [x_cat_cv]; exact hw)) hd hc
/-- the script -/
theorem x_sld {L : Nat} {xs : Nat → Int32} {m : x_Mth} {u : Nat × Nat} {pc : Nat} {ls : List (Nat × Value)} {st : List Value} {M : x_M} {Q : Option Value → x_M → Prop} {i : Int32} (hd : decode (x_code m) pc = .ok (.iaload, 1)) (hin : vp_in i L) (K : X (some (L, xs)) m u (pc + 1) ls (.int (xs i.toNatClampNeg) :: st) M Q) : X (some (L, xs)) m u pc ls (.int i :: .ref 1000020 :: st) M Q := by
  intro p l e s mi args below meth c D cI cZ A ae al H locs lx Z C R hlx hret h1 h2
  obtain ⟨hx, hb, hml, hr, hlk, hown, hnm, hts, hK, hA, hE, hsc⟩ := id C
  obtain ⟨hX, hbl, hbA⟩ := hsc L xs rfl
  have e1 : x_ad al ae 1000020 = ae 1000020 := x_ad_hi (by omega)
  simp only [List.map_cons, x_cv, e1]
  exact va_sld hx hb hX hbl hbA R.2.2.1 hin hd (K p l e s mi args below meth c D cI cZ A ae al H locs lx Z C R hlx hret h1 h2)
theorem x_slen {L : Nat} {xs : Nat → Int32} {m : x_Mth} {u : Nat × Nat} {pc : Nat} {ls : List (Nat × Value)} {st : List Value} {M : x_M} {Q : Option Value → x_M → Prop} (hd : decode (x_code m) pc = .ok (.arraylength, 1)) (K : X (some (L, xs)) m u (pc + 1) ls (.int (Int32.ofNat L) :: st) M Q) : X (some (L, xs)) m u pc ls (.ref 1000020 :: st) M Q := by
  intro p l e s mi args below meth c D cI cZ A ae al H locs lx Z C R hlx hret h1 h2
  obtain ⟨hx, hb, hml, hr, hlk, hown, hnm, hts, hK, hA, hE, hsc⟩ := id C
  obtain ⟨hX, hbl, hbA⟩ := hsc L xs rfl
  have e1 : x_ad al ae 1000020 = ae 1000020 := x_ad_hi (by omega)
  simp only [List.map_cons, x_cv, e1]
  exact va_slen hx hb hX hbl hbA R.2.2.1 hd (K p l e s mi args below meth c D cI cZ A ae al H locs lx Z C R hlx hret h1 h2)
end
section
abbrev cX0_init : ByteArray := prog_2_method_1_code
def yX0_init : MethodName := ⟨RX0, "<init>", "(LHeaderWays$Net;LHeaderWays$Routes;)V"⟩
abbrev cX0_findRepair : ByteArray := prog_2_method_2_code
def yX0_findRepair : MethodName := ⟨RX0, "findRepair", "(III)Z"⟩
abbrev cX0_findBrief : ByteArray := prog_2_method_3_code
def yX0_findBrief : MethodName := ⟨RX0, "findBrief", "(LHeaderWays$Row;)Z"⟩
abbrev cX0_shorten : ByteArray := prog_2_method_4_code
def yX0_shorten : MethodName := ⟨RX0, "shorten", "(IZ)Z"⟩
abbrev cX0_followedFrom : ByteArray := prog_2_method_5_code
def yX0_followedFrom : MethodName := ⟨RX0, "followedFrom", "(I)I"⟩
abbrev cX0_chooseFirst : ByteArray := prog_2_method_6_code
def yX0_chooseFirst : MethodName := ⟨RX0, "chooseFirst", "(I)V"⟩
abbrev cX0_lowestKind : ByteArray := prog_2_method_7_code
def yX0_lowestKind : MethodName := ⟨RX0, "lowestKind", "(II)I"⟩
abbrev cX0_linkIn : ByteArray := prog_2_method_8_code
def yX0_linkIn : MethodName := ⟨RX0, "linkIn", "(III)I"⟩
abbrev cX0_writeFound : ByteArray := prog_2_method_9_code
def yX0_writeFound : MethodName := ⟨RX0, "writeFound", "()V"⟩
abbrev cX1_init : ByteArray := prog_3_method_1_code
def yX1_init : MethodName := ⟨RX1, "<init>", "(LHeaderWays$Net;LHeaderWays$Routes;LHeaderWays$Briefs;)V"⟩
abbrev cX1_forgetAll : ByteArray := prog_3_method_2_code
def yX1_forgetAll : MethodName := ⟨RX1, "forgetAll", "()V"⟩
abbrev cX1_hops : ByteArray := prog_3_method_3_code
def yX1_hops : MethodName := ⟨RX1, "hops", "()I"⟩
abbrev cX1_tally : ByteArray := prog_3_method_4_code
def yX1_tally : MethodName := ⟨RX1, "tally", "(I)I"⟩
abbrev cX1_start : ByteArray := prog_3_method_5_code
def yX1_start : MethodName := ⟨RX1, "start", "(ILHeaderWays$Segments;)V"⟩
abbrev cX1_noteEnd : ByteArray := prog_3_method_6_code
def yX1_noteEnd : MethodName := ⟨RX1, "noteEnd", "(I)V"⟩
abbrev cX1_carry : ByteArray := prog_3_method_7_code
def yX1_carry : MethodName := ⟨RX1, "carry", "(I)I"⟩
abbrev cX1_takeOffReached : ByteArray := prog_3_method_8_code
def yX1_takeOffReached : MethodName := ⟨RX1, "takeOffReached", "(I)V"⟩
abbrev cX1_linkAhead : ByteArray := prog_3_method_9_code
def yX1_linkAhead : MethodName := ⟨RX1, "linkAhead", "(I)I"⟩
abbrev cX1_crossLink : ByteArray := prog_3_method_10_code
def yX1_crossLink : MethodName := ⟨RX1, "crossLink", "(II)I"⟩
abbrev cX1_mend : ByteArray := prog_3_method_11_code
def yX1_mend : MethodName := ⟨RX1, "mend", "(II)Z"⟩
abbrev cX2_init : ByteArray := prog_4_method_1_code
def yX2_init : MethodName := ⟨RX2, "<init>", "()V"⟩
abbrev cX2_pairOf : ByteArray := prog_4_method_2_code
def yX2_pairOf : MethodName := ⟨RX2, "pairOf", "(II)J"⟩
abbrev cX2_pairsWithLinks : ByteArray := prog_4_method_3_code
def yX2_pairsWithLinks : MethodName := ⟨RX2, "pairsWithLinks", "()J"⟩
abbrev cX2_hasNode : ByteArray := prog_4_method_4_code
def yX2_hasNode : MethodName := ⟨RX2, "hasNode", "(I)Z"⟩
abbrev cX2_hasLink : ByteArray := prog_4_method_5_code
def yX2_hasLink : MethodName := ⟨RX2, "hasLink", "(I)Z"⟩
abbrev cX2_isUp : ByteArray := prog_4_method_6_code
def yX2_isUp : MethodName := ⟨RX2, "isUp", "(I)Z"⟩
abbrev cX2_otherEnd : ByteArray := prog_4_method_7_code
def yX2_otherEnd : MethodName := ⟨RX2, "otherEnd", "(II)I"⟩
abbrev cX2_linkBetween : ByteArray := prog_4_method_8_code
def yX2_linkBetween : MethodName := ⟨RX2, "linkBetween", "(II)I"⟩
abbrev cX2_behind : ByteArray := prog_4_method_9_code
def yX2_behind : MethodName := ⟨RX2, "behind", "()I"⟩
abbrev cX2_startAnew : ByteArray := prog_4_method_10_code
def yX2_startAnew : MethodName := ⟨RX2, "startAnew", "(I)V"⟩
abbrev cX2_putLink : ByteArray := prog_4_method_11_code
def yX2_putLink : MethodName := ⟨RX2, "putLink", "(IIII)V"⟩
abbrev cX2_addLink : ByteArray := prog_4_method_12_code
def yX2_addLink : MethodName := ⟨RX2, "addLink", "(II)I"⟩
abbrev cX3_init : ByteArray := prog_5_method_1_code
def yX3_init : MethodName := ⟨RX3, "<init>", "(LHeaderWays$Net;)V"⟩
abbrev cX3_keepUp : ByteArray := prog_5_method_2_code
def yX3_keepUp : MethodName := ⟨RX3, "keepUp", "()V"⟩
abbrev cX3_keepPrices : ByteArray := prog_5_method_3_code
def yX3_keepPrices : MethodName := ⟨RX3, "keepPrices", "(I)V"⟩
abbrev cX3_keepSeen : ByteArray := prog_5_method_4_code
def yX3_keepSeen : MethodName := ⟨RX3, "keepSeen", "(I)V"⟩
abbrev cX3_keep : ByteArray := prog_5_method_5_code
def yX3_keep : MethodName := ⟨RX3, "keep", "(IIII)V"⟩
abbrev cX3_takeBack : ByteArray := prog_5_method_6_code
def yX3_takeBack : MethodName := ⟨RX3, "takeBack", "()V"⟩
abbrev cX4_init : ByteArray := prog_6_method_1_code
def yX4_init : MethodName := ⟨RX4, "<init>", "(LHeaderWays$Net;LHeaderWays$Routes;)V"⟩
abbrev cX4_lookAround : ByteArray := prog_6_method_2_code
def yX4_lookAround : MethodName := ⟨RX4, "lookAround", "()V"⟩
abbrev cX4_lookTowards : ByteArray := prog_6_method_3_code
def yX4_lookTowards : MethodName := ⟨RX4, "lookTowards", "(I)V"⟩
abbrev cX4_hasRings : ByteArray := prog_6_method_4_code
def yX4_hasRings : MethodName := ⟨RX4, "hasRings", "(I)Z"⟩
abbrev cX4_ringsOf : ByteArray := prog_6_method_5_code
def yX4_ringsOf : MethodName := ⟨RX4, "ringsOf", "(II)I"⟩
abbrev cX4_goesRound : ByteArray := prog_6_method_6_code
def yX4_goesRound : MethodName := ⟨RX4, "goesRound", "(III)Z"⟩
abbrev cX4_findOrder : ByteArray := prog_6_method_7_code
def yX4_findOrder : MethodName := ⟨RX4, "findOrder", "()Z"⟩
abbrev cX4_firstToLearn : ByteArray := prog_6_method_8_code
def yX4_firstToLearn : MethodName := ⟨RX4, "firstToLearn", "(II)I"⟩
abbrev cX5_init : ByteArray := prog_7_method_1_code
def yX5_init : MethodName := ⟨RX5, "<init>", "(LHeaderWays$Net;)V"⟩
abbrev cX5_measure : ByteArray := prog_7_method_2_code
def yX5_measure : MethodName := ⟨RX5, "measure", "(III)V"⟩
abbrev cX5_startFrom : ByteArray := prog_7_method_3_code
def yX5_startFrom : MethodName := ⟨RX5, "startFrom", "(I)V"⟩
abbrev cX5_shorten : ByteArray := prog_7_method_4_code
def yX5_shorten : MethodName := ⟨RX5, "shorten", "(III)V"⟩
abbrev cX5_leadOn : ByteArray := prog_7_method_5_code
def yX5_leadOn : MethodName := ⟨RX5, "leadOn", "(IIII)V"⟩
abbrev cX5_sumFrom : ByteArray := prog_7_method_6_code
def yX5_sumFrom : MethodName := ⟨RX5, "sumFrom", "(I)I"⟩
abbrev cX5_nodeAhead : ByteArray := prog_7_method_7_code
def yX5_nodeAhead : MethodName := ⟨RX5, "nodeAhead", "(I)I"⟩
abbrev cX5_linkAhead : ByteArray := prog_7_method_8_code
def yX5_linkAhead : MethodName := ⟨RX5, "linkAhead", "(I)I"⟩
abbrev cX5_walkSpares : ByteArray := prog_7_method_9_code
def yX5_walkSpares : MethodName := ⟨RX5, "walkSpares", "(IIII)Z"⟩
abbrev cX5_findWalk : ByteArray := prog_7_method_10_code
def yX5_findWalk : MethodName := ⟨RX5, "findWalk", "(IIILHeaderWays$Row;)Z"⟩
abbrev cX6_init : ByteArray := prog_8_method_1_code
def yX6_init : MethodName := ⟨RX6, "<init>", "(I)V"⟩
abbrev cX6_put : ByteArray := prog_8_method_2_code
def yX6_put : MethodName := ⟨RX6, "put", "(I)V"⟩
abbrev cX6_last : ByteArray := prog_8_method_3_code
def yX6_last : MethodName := ⟨RX6, "last", "()I"⟩
abbrev cX6_has : ByteArray := prog_8_method_4_code
def yX6_has : MethodName := ⟨RX6, "has", "(I)Z"⟩
abbrev cX6_takeOver : ByteArray := prog_8_method_5_code
def yX6_takeOver : MethodName := ⟨RX6, "takeOver", "(LHeaderWays$Row;)V"⟩
abbrev cX6_told : ByteArray := prog_8_method_6_code
def yX6_told : MethodName := ⟨RX6, "told", "(I)I"⟩
abbrev cX7_init : ByteArray := prog_9_method_1_code
def yX7_init : MethodName := ⟨RX7, "<init>", "(I)V"⟩
abbrev cX7_put : ByteArray := prog_9_method_2_code
def yX7_put : MethodName := ⟨RX7, "put", "(II)V"⟩
abbrev cX7_takeOver : ByteArray := prog_9_method_3_code
def yX7_takeOver : MethodName := ⟨RX7, "takeOver", "(LHeaderWays$Segments;)V"⟩
abbrev cX7_putOnTop : ByteArray := prog_9_method_4_code
def yX7_putOnTop : MethodName := ⟨RX7, "putOnTop", "(LHeaderWays$Segments;)V"⟩
abbrev cX7_topKind : ByteArray := prog_9_method_5_code
def yX7_topKind : MethodName := ⟨RX7, "topKind", "()I"⟩
abbrev cX7_topWhat : ByteArray := prog_9_method_6_code
def yX7_topWhat : MethodName := ⟨RX7, "topWhat", "()I"⟩
abbrev cX7_isTopTo : ByteArray := prog_9_method_7_code
def yX7_isTopTo : MethodName := ⟨RX7, "isTopTo", "(I)Z"⟩
abbrev cX7_dropTop : ByteArray := prog_9_method_8_code
def yX7_dropTop : MethodName := ⟨RX7, "dropTop", "()V"⟩
abbrev cX7_told : ByteArray := prog_9_method_9_code
def yX7_told : MethodName := ⟨RX7, "told", "(I)I"⟩
abbrev cX8_init : ByteArray := prog_10_method_1_code
def yX8_init : MethodName := ⟨RX8, "<init>", "(LHeaderWays$Net;)V"⟩
abbrev cX8_addLetter : ByteArray := prog_10_method_2_code
def yX8_addLetter : MethodName := ⟨RX8, "addLetter", "(I)V"⟩
abbrev cX8_tellsNodes : ByteArray := prog_10_method_3_code
def yX8_tellsNodes : MethodName := ⟨RX8, "tellsNodes", "(I)Z"⟩
abbrev cX8_told : ByteArray := prog_10_method_4_code
def yX8_told : MethodName := ⟨RX8, "told", "(II)I"⟩
abbrev cX8_findFault : ByteArray := prog_10_method_5_code
def yX8_findFault : MethodName := ⟨RX8, "findFault", "()I"⟩
abbrev cX8_readClause : ByteArray := prog_10_method_6_code
def yX8_readClause : MethodName := ⟨RX8, "readClause", "(I)Z"⟩
abbrev cX8_readNodes : ByteArray := prog_10_method_7_code
def yX8_readNodes : MethodName := ⟨RX8, "readNodes", "(I)Z"⟩
abbrev cX8_readLink : ByteArray := prog_10_method_8_code
def yX8_readLink : MethodName := ⟨RX8, "readLink", "(I)Z"⟩
abbrev cX8_isTooMany : ByteArray := prog_10_method_9_code
def yX8_isTooMany : MethodName := ⟨RX8, "isTooMany", "(J)Z"⟩
abbrev cX8_keep : ByteArray := prog_10_method_10_code
def yX8_keep : MethodName := ⟨RX8, "keep", "(IIIII)V"⟩
abbrev cX8_readSign : ByteArray := prog_10_method_11_code
def yX8_readSign : MethodName := ⟨RX8, "readSign", "(C)Z"⟩
abbrev cX8_readNumber : ByteArray := prog_10_method_12_code
def yX8_readNumber : MethodName := ⟨RX8, "readNumber", "(II)I"⟩
abbrev cX8_isWord : ByteArray := prog_10_method_13_code
def yX8_isWord : MethodName := ⟨RX8, "isWord", "(Ljava/lang/String;)Z"⟩
abbrev cX8_readToken : ByteArray := prog_10_method_14_code
def yX8_readToken : MethodName := ⟨RX8, "readToken", "()V"⟩
abbrev cX8_skipBlanks : ByteArray := prog_10_method_15_code
def yX8_skipBlanks : MethodName := ⟨RX8, "skipBlanks", "(I)I"⟩
abbrev cX8_rowOf : ByteArray := prog_10_method_16_code
def yX8_rowOf : MethodName := ⟨RX8, "rowOf", "(I)I"⟩
abbrev cX9_init : ByteArray := prog_1_method_1_code
def yX9_init : MethodName := ⟨RX9, "<init>", "()V"⟩
abbrev cX9_write : ByteArray := prog_1_method_2_code
def yX9_write : MethodName := ⟨RX9, "write", "(I)I"⟩
abbrev cX9_erase : ByteArray := prog_1_method_3_code
def yX9_erase : MethodName := ⟨RX9, "erase", "()I"⟩
abbrev cX9_fault : ByteArray := prog_1_method_4_code
def yX9_fault : MethodName := ⟨RX9, "fault", "()I"⟩
abbrev cX9_tell : ByteArray := prog_1_method_5_code
def yX9_tell : MethodName := ⟨RX9, "tell", "()I"⟩
abbrev cX9_doClause : ByteArray := prog_1_method_6_code
def yX9_doClause : MethodName := ⟨RX9, "doClause", "(I)V"⟩
abbrev cX9_link : ByteArray := prog_1_method_7_code
def yX9_link : MethodName := ⟨RX9, "link", "(II)I"⟩
abbrev cX9_fail : ByteArray := prog_1_method_8_code
def yX9_fail : MethodName := ⟨RX9, "fail", "(I)I"⟩
abbrev cX9_heal : ByteArray := prog_1_method_9_code
def yX9_heal : MethodName := ⟨RX9, "heal", "(I)I"⟩
abbrev cX9_turn : ByteArray := prog_1_method_10_code
def yX9_turn : MethodName := ⟨RX9, "turn", "(I)I"⟩
abbrev cX9_tune : ByteArray := prog_1_method_11_code
def yX9_tune : MethodName := ⟨RX9, "tune", "(III)I"⟩
abbrev cX9_learn : ByteArray := prog_1_method_12_code
def yX9_learn : MethodName := ⟨RX9, "learn", "(I)I"⟩
abbrev cX9_undo : ByteArray := prog_1_method_13_code
def yX9_undo : MethodName := ⟨RX9, "undo", "()I"⟩
abbrev cX9_seen : ByteArray := prog_1_method_14_code
def yX9_seen : MethodName := ⟨RX9, "seen", "(I)I"⟩
abbrev cX9_next : ByteArray := prog_1_method_15_code
def yX9_next : MethodName := ⟨RX9, "next", "(III)I"⟩
abbrev cX9_far : ByteArray := prog_1_method_16_code
def yX9_far : MethodName := ⟨RX9, "far", "(III)I"⟩
abbrev cX9_space : ByteArray := prog_1_method_17_code
def yX9_space : MethodName := ⟨RX9, "space", "(III)I"⟩
abbrev cX9_rings : ByteArray := prog_1_method_18_code
def yX9_rings : MethodName := ⟨RX9, "rings", "(I)I"⟩
abbrev cX9_safe : ByteArray := prog_1_method_19_code
def yX9_safe : MethodName := ⟨RX9, "safe", "(I)I"⟩
abbrev cX9_order : ByteArray := prog_1_method_20_code
def yX9_order : MethodName := ⟨RX9, "order", "(I)I"⟩
abbrev cX9_push : ByteArray := prog_1_method_21_code
def yX9_push : MethodName := ⟨RX9, "push", "(II)I"⟩
abbrev cX9_clear : ByteArray := prog_1_method_22_code
def yX9_clear : MethodName := ⟨RX9, "clear", "()I"⟩
abbrev cX9_segment : ByteArray := prog_1_method_23_code
def yX9_segment : MethodName := ⟨RX9, "segment", "(II)I"⟩
abbrev cX9_repair : ByteArray := prog_1_method_24_code
def yX9_repair : MethodName := ⟨RX9, "repair", "(IIII)I"⟩
abbrev cX9_trace : ByteArray := prog_1_method_25_code
def yX9_trace : MethodName := ⟨RX9, "trace", "(I)I"⟩
abbrev cX9_untrace : ByteArray := prog_1_method_26_code
def yX9_untrace : MethodName := ⟨RX9, "untrace", "()I"⟩
abbrev cX9_brief : ByteArray := prog_1_method_27_code
def yX9_brief : MethodName := ⟨RX9, "brief", "(I)I"⟩
abbrev cX9_adopt : ByteArray := prog_1_method_28_code
def yX9_adopt : MethodName := ⟨RX9, "adopt", "()I"⟩
abbrev cX9_protect : ByteArray := prog_1_method_29_code
def yX9_protect : MethodName := ⟨RX9, "protect", "(I)I"⟩
abbrev cX9_send : ByteArray := prog_1_method_30_code
def yX9_send : MethodName := ⟨RX9, "send", "(I)I"⟩
abbrev cX9_way : ByteArray := prog_1_method_31_code
def yX9_way : MethodName := ⟨RX9, "way", "(I)I"⟩
abbrev cX9_count : ByteArray := prog_1_method_32_code
def yX9_count : MethodName := ⟨RX9, "count", "(I)I"⟩
abbrev cX10_init : ByteArray := prog_12_method_1_code
def yX10_init : MethodName := ⟨RX10, "<init>", "()V"⟩
abbrev cX10_in : ByteArray := prog_12_method_2_code
def yX10_in : MethodName := ⟨RX10, "in", "(III)Z"⟩
abbrev cX10_has : ByteArray := prog_12_method_3_code
def yX10_has : MethodName := ⟨RX10, "has", "(II)Z"⟩
abbrev cX10_ones : ByteArray := prog_12_method_4_code
def yX10_ones : MethodName := ⟨RX10, "ones", "(I)I"⟩
abbrev cX10_isNode : ByteArray := prog_12_method_5_code
def yX10_isNode : MethodName := ⟨RX10, "isNode", "(I)Z"⟩
abbrev cX10_isLink : ByteArray := prog_12_method_6_code
def yX10_isLink : MethodName := ⟨RX10, "isLink", "(I)Z"⟩
abbrev cX10_linkOf : ByteArray := prog_12_method_7_code
def yX10_linkOf : MethodName := ⟨RX10, "linkOf", "(II)I"⟩
abbrev cX10_otherEnd : ByteArray := prog_12_method_8_code
def yX10_otherEnd : MethodName := ⟨RX10, "otherEnd", "(II)I"⟩
abbrev cX10_length : ByteArray := prog_12_method_9_code
def yX10_length : MethodName := ⟨RX10, "length", "(II)I"⟩
abbrev cX10_lays : ByteArray := prog_12_method_10_code
def yX10_lays : MethodName := ⟨RX10, "lays", "(II)V"⟩
abbrev cX10_nextOf : ByteArray := prog_12_method_11_code
def yX10_nextOf : MethodName := ⟨RX10, "nextOf", "(IIII)I"⟩
abbrev cX10_walks : ByteArray := prog_12_method_12_code
def yX10_walks : MethodName := ⟨RX10, "walks", "(IIII)Z"⟩
abbrev cX10_isOver : ByteArray := prog_12_method_13_code
def yX10_isOver : MethodName := ⟨RX10, "isOver", "(I)Z"⟩
abbrev cX10_leads : ByteArray := prog_12_method_14_code
def yX10_leads : MethodName := ⟨RX10, "leads", "([IIIII)Z"⟩
abbrev cX10_laysBy : ByteArray := prog_12_method_15_code
def yX10_laysBy : MethodName := ⟨RX10, "laysBy", "([IIII)V"⟩
abbrev cX10_shortens : ByteArray := prog_12_method_16_code
def yX10_shortens : MethodName := ⟨RX10, "shortens", "([IIII)Z"⟩
abbrev cX10_repairs : ByteArray := prog_12_method_17_code
def yX10_repairs : MethodName := ⟨RX10, "repairs", "(III)Z"⟩
abbrev cX10_shortAt : ByteArray := prog_12_method_18_code
def yX10_shortAt : MethodName := ⟨RX10, "shortAt", "(I)I"⟩
abbrev cX10_write : ByteArray := prog_12_method_19_code
def yX10_write : MethodName := ⟨RX10, "write", "(I)I"⟩
abbrev cX10_erase : ByteArray := prog_12_method_20_code
def yX10_erase : MethodName := ⟨RX10, "erase", "()I"⟩
abbrev cX10_isLetter : ByteArray := prog_12_method_21_code
def yX10_isLetter : MethodName := ⟨RX10, "isLetter", "(I)Z"⟩
abbrev cX10_isFigure : ByteArray := prog_12_method_22_code
def yX10_isFigure : MethodName := ⟨RX10, "isFigure", "(I)Z"⟩
abbrev cX10_looks : ByteArray := prog_12_method_23_code
def yX10_looks : MethodName := ⟨RX10, "looks", "()I"⟩
abbrev cX10_takes : ByteArray := prog_12_method_24_code
def yX10_takes : MethodName := ⟨RX10, "takes", "(Z)V"⟩
abbrev cX10_figure : ByteArray := prog_12_method_25_code
def yX10_figure : MethodName := ⟨RX10, "figure", "(II)I"⟩
abbrev cX10_readLinkOf : ByteArray := prog_12_method_26_code
def yX10_readLinkOf : MethodName := ⟨RX10, "readLinkOf", "(II)I"⟩
abbrev cX10_isName : ByteArray := prog_12_method_27_code
def yX10_isName : MethodName := ⟨RX10, "isName", "(IIIII)Z"⟩
abbrev cX10_readsNodes : ByteArray := prog_12_method_28_code
def yX10_readsNodes : MethodName := ⟨RX10, "readsNodes", "()V"⟩
abbrev cX10_readsLink : ByteArray := prog_12_method_29_code
def yX10_readsLink : MethodName := ⟨RX10, "readsLink", "()V"⟩
abbrev cX10_clause : ByteArray := prog_12_method_30_code
def yX10_clause : MethodName := ⟨RX10, "clause", "()V"⟩
abbrev cX10_reads : ByteArray := prog_12_method_31_code
def yX10_reads : MethodName := ⟨RX10, "reads", "(Z)I"⟩
abbrev cX10_fault : ByteArray := prog_12_method_32_code
def yX10_fault : MethodName := ⟨RX10, "fault", "()I"⟩
abbrev cX10_tell : ByteArray := prog_12_method_33_code
def yX10_tell : MethodName := ⟨RX10, "tell", "()I"⟩
abbrev cX10_link : ByteArray := prog_12_method_34_code
def yX10_link : MethodName := ⟨RX10, "link", "(II)I"⟩
abbrev cX10_notes : ByteArray := prog_12_method_35_code
def yX10_notes : MethodName := ⟨RX10, "notes", "()V"⟩
abbrev cX10_becomesUp : ByteArray := prog_12_method_36_code
def yX10_becomesUp : MethodName := ⟨RX10, "becomesUp", "(II)I"⟩
abbrev cX10_fail : ByteArray := prog_12_method_37_code
def yX10_fail : MethodName := ⟨RX10, "fail", "(I)I"⟩
abbrev cX10_heal : ByteArray := prog_12_method_38_code
def yX10_heal : MethodName := ⟨RX10, "heal", "(I)I"⟩
abbrev cX10_tune : ByteArray := prog_12_method_39_code
def yX10_tune : MethodName := ⟨RX10, "tune", "(III)I"⟩
abbrev cX10_learn : ByteArray := prog_12_method_40_code
def yX10_learn : MethodName := ⟨RX10, "learn", "(I)I"⟩
abbrev cX10_undo : ByteArray := prog_12_method_41_code
def yX10_undo : MethodName := ⟨RX10, "undo", "()I"⟩
abbrev cX10_seen : ByteArray := prog_12_method_42_code
def yX10_seen : MethodName := ⟨RX10, "seen", "(I)I"⟩
abbrev cX10_next : ByteArray := prog_12_method_43_code
def yX10_next : MethodName := ⟨RX10, "next", "(III)I"⟩
abbrev cX10_far : ByteArray := prog_12_method_44_code
def yX10_far : MethodName := ⟨RX10, "far", "(III)I"⟩
abbrev cX10_space : ByteArray := prog_12_method_45_code
def yX10_space : MethodName := ⟨RX10, "space", "(III)I"⟩
abbrev cX10_laysGoes : ByteArray := prog_12_method_46_code
def yX10_laysGoes : MethodName := ⟨RX10, "laysGoes", "()V"⟩
abbrev cX10_ringsOf : ByteArray := prog_12_method_47_code
def yX10_ringsOf : MethodName := ⟨RX10, "ringsOf", "(II)I"⟩
abbrev cX10_isSafe : ByteArray := prog_12_method_48_code
def yX10_isSafe : MethodName := ⟨RX10, "isSafe", "(I)Z"⟩
abbrev cX10_rings : ByteArray := prog_12_method_49_code
def yX10_rings : MethodName := ⟨RX10, "rings", "(I)I"⟩
abbrev cX10_safe : ByteArray := prog_12_method_50_code
def yX10_safe : MethodName := ⟨RX10, "safe", "(I)I"⟩
abbrev cX10_behind : ByteArray := prog_12_method_51_code
def yX10_behind : MethodName := ⟨RX10, "behind", "()I"⟩
abbrev cX10_laysOrders : ByteArray := prog_12_method_52_code
def yX10_laysOrders : MethodName := ⟨RX10, "laysOrders", "(I)V"⟩
abbrev cX10_order : ByteArray := prog_12_method_53_code
def yX10_order : MethodName := ⟨RX10, "order", "(I)I"⟩
abbrev cX10_push : ByteArray := prog_12_method_54_code
def yX10_push : MethodName := ⟨RX10, "push", "(II)I"⟩
abbrev cX10_clear : ByteArray := prog_12_method_55_code
def yX10_clear : MethodName := ⟨RX10, "clear", "()I"⟩
abbrev cX10_segment : ByteArray := prog_12_method_56_code
def yX10_segment : MethodName := ⟨RX10, "segment", "(II)I"⟩
abbrev cX10_repair : ByteArray := prog_12_method_57_code
def yX10_repair : MethodName := ⟨RX10, "repair", "(IIII)I"⟩
abbrev cX10_trace : ByteArray := prog_12_method_58_code
def yX10_trace : MethodName := ⟨RX10, "trace", "(I)I"⟩
abbrev cX10_untrace : ByteArray := prog_12_method_59_code
def yX10_untrace : MethodName := ⟨RX10, "untrace", "()I"⟩
abbrev cX10_briefs : ByteArray := prog_12_method_60_code
def yX10_briefs : MethodName := ⟨RX10, "briefs", "()Z"⟩
abbrev cX10_brief : ByteArray := prog_12_method_61_code
def yX10_brief : MethodName := ⟨RX10, "brief", "(I)I"⟩
abbrev cX10_adopt : ByteArray := prog_12_method_62_code
def yX10_adopt : MethodName := ⟨RX10, "adopt", "()I"⟩
abbrev cX10_protect : ByteArray := prog_12_method_63_code
def yX10_protect : MethodName := ⟨RX10, "protect", "(I)I"⟩
abbrev cX10_bears : ByteArray := prog_12_method_64_code
def yX10_bears : MethodName := ⟨RX10, "bears", "(II)V"⟩
abbrev cX10_mends : ByteArray := prog_12_method_65_code
def yX10_mends : MethodName := ⟨RX10, "mends", "(II)Z"⟩
abbrev cX10_leavesOwn : ByteArray := prog_12_method_66_code
def yX10_leavesOwn : MethodName := ⟨RX10, "leavesOwn", "(I)V"⟩
abbrev cX10_linkFrom : ByteArray := prog_12_method_67_code
def yX10_linkFrom : MethodName := ⟨RX10, "linkFrom", "(I)I"⟩
abbrev cX10_goesFrom : ByteArray := prog_12_method_68_code
def yX10_goesFrom : MethodName := ⟨RX10, "goesFrom", "(I)I"⟩
abbrev cX10_send : ByteArray := prog_12_method_69_code
def yX10_send : MethodName := ⟨RX10, "send", "(I)I"⟩
abbrev cX10_way : ByteArray := prog_12_method_70_code
def yX10_way : MethodName := ⟨RX10, "way", "(I)I"⟩
abbrev cX10_count : ByteArray := prog_12_method_71_code
def yX10_count : MethodName := ⟨RX10, "count", "(I)I"⟩
abbrev cJ6_bitCount_0f7a4 : ByteArray := prog_13_method_49_code
def yJ6_bitCount_0f7a4 : MethodName := ⟨RJ6, "bitCount", "(I)I"⟩
abbrev cJ13_bitCount_95d88 : ByteArray := prog_14_method_50_code
def yJ13_bitCount_95d88 : MethodName := ⟨RJ13, "bitCount", "(J)I"⟩
abbrev cJ9_max_7cf53 : ByteArray := prog_15_method_65_code
def yJ9_max_7cf53 : MethodName := ⟨RJ9, "max", "(II)I"⟩
abbrev cJ9_min_7cf53 : ByteArray := prog_15_method_69_code
def yJ9_min_7cf53 : MethodName := ⟨RJ9, "min", "(II)I"⟩
abbrev cJ0_length_8abf5 : ByteArray := prog_16_method_54_code
def yJ0_length_8abf5 : MethodName := ⟨RJ0, "length", "()I"⟩
abbrev cJ0_charAt_5068e : ByteArray := prog_16_method_56_code
def yJ0_charAt_5068e : MethodName := ⟨RJ0, "charAt", "(I)C"⟩
abbrev cJ0_coder_7d493 : ByteArray := prog_16_method_152_code
def yJ0_coder_7d493 : MethodName := ⟨RJ0, "coder", "()B"⟩
abbrev cJ0_isLatin1_aae02 : ByteArray := prog_16_method_154_code
def yJ0_isLatin1_aae02 : MethodName := ⟨RJ0, "isLatin1", "()Z"⟩
abbrev cJ0_checkIndex_df160 : ByteArray := prog_16_method_155_code
def yJ0_checkIndex_df160 : MethodName := ⟨RJ0, "checkIndex", "(II)V"⟩
abbrev cJ1_charAt_3b067 : ByteArray := prog_17_method_2_code
def yJ1_charAt_3b067 : MethodName := ⟨RJ1, "charAt", "([BI)C"⟩
abbrev cJ2_getChar_3b067 : ByteArray := prog_18_method_5_code
def yJ2_getChar_3b067 : MethodName := ⟨RJ2, "getChar", "([BI)C"⟩
abbrev cJ2_length_9d52b : ByteArray := prog_18_method_6_code
def yJ2_length_9d52b : MethodName := ⟨RJ2, "length", "([B)I"⟩
abbrev cJ2_charAt_3b067 : ByteArray := prog_18_method_83_code
def yJ2_charAt_3b067 : MethodName := ⟨RJ2, "charAt", "([BI)C"⟩
abbrev cJ2_checkIndex_2214a : ByteArray := prog_18_method_91_code
def yJ2_checkIndex_2214a : MethodName := ⟨RJ2, "checkIndex", "(I[B)V"⟩
abbrev cJ7_fill_53178 : ByteArray := prog_19_method_103_code
def yJ7_fill_53178 : MethodName := ⟨RJ7, "fill", "([II)V"⟩
abbrev cJ3_checkIndex_8e157 : ByteArray := prog_20_method_11_code
def yJ3_checkIndex_8e157 : MethodName := ⟨RJ3, "checkIndex", "(IILjava/util/function/BiFunction;)I"⟩
abbrev cL_law : ByteArray := code
def yL_law : MethodName := ⟨RL, "law", "([I)Z"⟩
/-! ===== the methods, and what the pools lead to ===== -/
abbrev mX0_init : x_Mth := (RX0, yX0_init, cX0_init, 3, none, 2, 42, 11, 106)
abbrev mX0_findRepair : x_Mth := (RX0, yX0_findRepair, cX0_findRepair, 5, some .boolean, 3, 77, 0, 0)
abbrev mX0_findBrief : x_Mth := (RX0, yX0_findBrief, cX0_findBrief, 2, some .boolean, 3, 75, 0, 0)
abbrev mX0_shorten : x_Mth := (RX0, yX0_shorten, cX0_shorten, 5, some .boolean, 2, 51, 0, 0)
abbrev mX0_followedFrom : x_Mth := (RX0, yX0_followedFrom, cX0_followedFrom, 3, some .int, 1, 21, 0, 0)
abbrev mX0_chooseFirst : x_Mth := (RX0, yX0_chooseFirst, cX0_chooseFirst, 4, none, 1, 22, 0, 0)
abbrev mX0_lowestKind : x_Mth := (RX0, yX0_lowestKind, cX0_lowestKind, 3, some .int, 0, 0, 0, 0)
abbrev mX0_linkIn : x_Mth := (RX0, yX0_linkIn, cX0_linkIn, 5, some .int, 1, 23, 0, 0)
abbrev mX0_writeFound : x_Mth := (RX0, yX0_writeFound, cX0_writeFound, 4, none, 1, 22, 0, 0)
abbrev mX1_init : x_Mth := (RX1, yX1_init, cX1_init, 4, none, 2, 42, 5, 58)
abbrev mX1_forgetAll : x_Mth := (RX1, yX1_forgetAll, cX1_forgetAll, 1, none, 0, 0, 0, 0)
abbrev mX1_hops : x_Mth := (RX1, yX1_hops, cX1_hops, 1, some .int, 0, 0, 0, 0)
abbrev mX1_tally : x_Mth := (RX1, yX1_tally, cX1_tally, 2, some .int, 0, 0, 0, 0)
abbrev mX1_start : x_Mth := (RX1, yX1_start, cX1_start, 3, none, 2, 44, 0, 0)
abbrev mX1_noteEnd : x_Mth := (RX1, yX1_noteEnd, cX1_noteEnd, 2, none, 0, 0, 0, 0)
abbrev mX1_carry : x_Mth := (RX1, yX1_carry, cX1_carry, 5, some .int, 5, 125, 0, 0)
abbrev mX1_takeOffReached : x_Mth := (RX1, yX1_takeOffReached, cX1_takeOffReached, 3, none, 1, 21, 0, 0)
abbrev mX1_linkAhead : x_Mth := (RX1, yX1_linkAhead, cX1_linkAhead, 4, some .int, 2, 51, 0, 0)
abbrev mX1_crossLink : x_Mth := (RX1, yX1_crossLink, cX1_crossLink, 4, some .int, 2, 43, 0, 0)
abbrev mX1_mend : x_Mth := (RX1, yX1_mend, cX1_mend, 5, some .boolean, 4, 101, 0, 0)
abbrev mX2_init : x_Mth := (RX2, yX2_init, cX2_init, 1, none, 1, 20, 6, 78)
abbrev mX2_pairOf : x_Mth := (RX2, yX2_pairOf, cX2_pairOf, 2, some .long, 1, 21, 0, 0)
abbrev mX2_pairsWithLinks : x_Mth := (RX2, yX2_pairsWithLinks, cX2_pairsWithLinks, 4, some .long, 2, 42, 0, 0)
abbrev mX2_hasNode : x_Mth := (RX2, yX2_hasNode, cX2_hasNode, 2, some .boolean, 0, 0, 0, 0)
abbrev mX2_hasLink : x_Mth := (RX2, yX2_hasLink, cX2_hasLink, 2, some .boolean, 0, 0, 0, 0)
abbrev mX2_isUp : x_Mth := (RX2, yX2_isUp, cX2_isUp, 2, some .boolean, 0, 0, 0, 0)
abbrev mX2_otherEnd : x_Mth := (RX2, yX2_otherEnd, cX2_otherEnd, 3, some .int, 1, 21, 0, 0)
abbrev mX2_linkBetween : x_Mth := (RX2, yX2_linkBetween, cX2_linkBetween, 4, some .int, 0, 0, 0, 0)
abbrev mX2_behind : x_Mth := (RX2, yX2_behind, cX2_behind, 3, some .int, 0, 0, 0, 0)
abbrev mX2_startAnew : x_Mth := (RX2, yX2_startAnew, cX2_startAnew, 2, none, 1, 23, 0, 0)
abbrev mX2_putLink : x_Mth := (RX2, yX2_putLink, cX2_putLink, 6, none, 2, 45, 0, 0)
abbrev mX2_addLink : x_Mth := (RX2, yX2_addLink, cX2_addLink, 5, some .int, 1, 21, 0, 0)
abbrev mX3_init : x_Mth := (RX3, yX3_init, cX3_init, 2, none, 1, 20, 4, 32)
abbrev mX3_keepUp : x_Mth := (RX3, yX3_keepUp, cX3_keepUp, 1, none, 2, 45, 0, 0)
abbrev mX3_keepPrices : x_Mth := (RX3, yX3_keepPrices, cX3_keepPrices, 2, none, 2, 45, 0, 0)
abbrev mX3_keepSeen : x_Mth := (RX3, yX3_keepSeen, cX3_keepSeen, 2, none, 2, 45, 0, 0)
abbrev mX3_keep : x_Mth := (RX3, yX3_keep, cX3_keep, 5, none, 1, 21, 0, 0)
abbrev mX3_takeBack : x_Mth := (RX3, yX3_takeBack, cX3_takeBack, 2, none, 0, 0, 0, 0)
abbrev mX4_init : x_Mth := (RX4, yX4_init, cX4_init, 3, none, 2, 42, 5, 407)
abbrev mX4_lookAround : x_Mth := (RX4, yX4_lookAround, cX4_lookAround, 2, none, 3, 74, 0, 0)
abbrev mX4_lookTowards : x_Mth := (RX4, yX4_lookTowards, cX4_lookTowards, 4, none, 2, 51, 0, 0)
abbrev mX4_hasRings : x_Mth := (RX4, yX4_hasRings, cX4_hasRings, 3, some .boolean, 2, 50, 0, 0)
abbrev mX4_ringsOf : x_Mth := (RX4, yX4_ringsOf, cX4_ringsOf, 5, some .int, 1, 26, 0, 0)
abbrev mX4_goesRound : x_Mth := (RX4, yX4_goesRound, cX4_goesRound, 7, some .boolean, 0, 0, 0, 0)
abbrev mX4_findOrder : x_Mth := (RX4, yX4_findOrder, cX4_findOrder, 5, some .boolean, 4, 96, 0, 0)
abbrev mX4_firstToLearn : x_Mth := (RX4, yX4_firstToLearn, cX4_firstToLearn, 5, some .int, 3, 72, 0, 0)
abbrev mX5_init : x_Mth := (RX5, yX5_init, cX5_init, 2, none, 1, 20, 3, 24)
abbrev mX5_measure : x_Mth := (RX5, yX5_measure, cX5_measure, 7, none, 1, 25, 0, 0)
abbrev mX5_startFrom : x_Mth := (RX5, yX5_startFrom, cX5_startFrom, 3, none, 0, 0, 0, 0)
abbrev mX5_shorten : x_Mth := (RX5, yX5_shorten, cX5_shorten, 4, none, 0, 0, 0, 0)
abbrev mX5_leadOn : x_Mth := (RX5, yX5_leadOn, cX5_leadOn, 6, none, 0, 0, 0, 0)
abbrev mX5_sumFrom : x_Mth := (RX5, yX5_sumFrom, cX5_sumFrom, 2, some .int, 0, 0, 0, 0)
abbrev mX5_nodeAhead : x_Mth := (RX5, yX5_nodeAhead, cX5_nodeAhead, 2, some .int, 0, 0, 0, 0)
abbrev mX5_linkAhead : x_Mth := (RX5, yX5_linkAhead, cX5_linkAhead, 2, some .int, 0, 0, 0, 0)
abbrev mX5_walkSpares : x_Mth := (RX5, yX5_walkSpares, cX5_walkSpares, 7, some .boolean, 2, 51, 0, 0)
abbrev mX5_findWalk : x_Mth := (RX5, yX5_findWalk, cX5_findWalk, 7, some .boolean, 2, 51, 0, 0)
abbrev mX6_init : x_Mth := (RX6, yX6_init, cX6_init, 2, none, 1, 21, 1, 21)
abbrev mX6_put : x_Mth := (RX6, yX6_put, cX6_put, 2, none, 0, 0, 0, 0)
abbrev mX6_last : x_Mth := (RX6, yX6_last, cX6_last, 1, some .int, 0, 0, 0, 0)
abbrev mX6_has : x_Mth := (RX6, yX6_has, cX6_has, 3, some .boolean, 0, 0, 0, 0)
abbrev mX6_takeOver : x_Mth := (RX6, yX6_takeOver, cX6_takeOver, 3, none, 1, 21, 0, 0)
abbrev mX6_told : x_Mth := (RX6, yX6_told, cX6_told, 2, some .int, 0, 0, 0, 0)
abbrev mX7_init : x_Mth := (RX7, yX7_init, cX7_init, 2, none, 1, 21, 2, 32)
abbrev mX7_put : x_Mth := (RX7, yX7_put, cX7_put, 3, none, 0, 0, 0, 0)
abbrev mX7_takeOver : x_Mth := (RX7, yX7_takeOver, cX7_takeOver, 3, none, 1, 22, 0, 0)
abbrev mX7_putOnTop : x_Mth := (RX7, yX7_putOnTop, cX7_putOnTop, 3, none, 1, 22, 0, 0)
abbrev mX7_topKind : x_Mth := (RX7, yX7_topKind, cX7_topKind, 1, some .int, 0, 0, 0, 0)
abbrev mX7_topWhat : x_Mth := (RX7, yX7_topWhat, cX7_topWhat, 1, some .int, 0, 0, 0, 0)
abbrev mX7_isTopTo : x_Mth := (RX7, yX7_isTopTo, cX7_isTopTo, 2, some .boolean, 0, 0, 0, 0)
abbrev mX7_dropTop : x_Mth := (RX7, yX7_dropTop, cX7_dropTop, 1, none, 0, 0, 0, 0)
abbrev mX7_told : x_Mth := (RX7, yX7_told, cX7_told, 2, some .int, 0, 0, 0, 0)
abbrev mX8_init : x_Mth := (RX8, yX8_init, cX8_init, 2, none, 1, 20, 2, 296)
abbrev mX8_addLetter : x_Mth := (RX8, yX8_addLetter, cX8_addLetter, 2, none, 0, 0, 0, 0)
abbrev mX8_tellsNodes : x_Mth := (RX8, yX8_tellsNodes, cX8_tellsNodes, 2, some .boolean, 1, 22, 0, 0)
abbrev mX8_told : x_Mth := (RX8, yX8_told, cX8_told, 3, some .int, 0, 0, 0, 0)
abbrev mX8_findFault : x_Mth := (RX8, yX8_findFault, cX8_findFault, 2, some .int, 6, 128, 0, 0)
abbrev mX8_readClause : x_Mth := (RX8, yX8_readClause, cX8_readClause, 2, some .boolean, 5, 107, 0, 0)
abbrev mX8_readNodes : x_Mth := (RX8, yX8_readNodes, cX8_readNodes, 3, some .boolean, 3, 66, 0, 0)
abbrev mX8_readLink : x_Mth := (RX8, yX8_readLink, cX8_readLink, 6, some .boolean, 3, 66, 0, 0)
abbrev mX8_isTooMany : x_Mth := (RX8, yX8_isTooMany, cX8_isTooMany, 3, some .boolean, 1, 21, 0, 0)
abbrev mX8_keep : x_Mth := (RX8, yX8_keep, cX8_keep, 7, none, 0, 0, 0, 0)
abbrev mX8_readSign : x_Mth := (RX8, yX8_readSign, cX8_readSign, 2, some .boolean, 2, 43, 0, 0)
abbrev mX8_readNumber : x_Mth := (RX8, yX8_readNumber, cX8_readNumber, 4, some .int, 2, 43, 0, 0)
abbrev mX8_isWord : x_Mth := (RX8, yX8_isWord, cX8_isWord, 3, some .boolean, 4, 85, 0, 0)
abbrev mX8_readToken : x_Mth := (RX8, yX8_readToken, cX8_readToken, 2, none, 1, 22, 0, 0)
abbrev mX8_skipBlanks : x_Mth := (RX8, yX8_skipBlanks, cX8_skipBlanks, 3, some .int, 0, 0, 0, 0)
abbrev mX8_rowOf : x_Mth := (RX8, yX8_rowOf, cX8_rowOf, 1, some .int, 0, 0, 0, 0)
abbrev mX9_init : x_Mth := (RX9, yX9_init, cX9_init, 1, none, 3, 65, 48, 1115)
abbrev mX9_write : x_Mth := (RX9, yX9_write, cX9_write, 2, some .int, 1, 21, 0, 0)
abbrev mX9_erase : x_Mth := (RX9, yX9_erase, cX9_erase, 2, some .int, 0, 0, 0, 0)
abbrev mX9_fault : x_Mth := (RX9, yX9_fault, cX9_fault, 1, some .int, 7, 149, 0, 0)
abbrev mX9_tell : x_Mth := (RX9, yX9_tell, cX9_tell, 2, some .int, 7, 149, 0, 0)
abbrev mX9_doClause : x_Mth := (RX9, yX9_doClause, cX9_doClause, 2, none, 3, 70, 0, 0)
abbrev mX9_link : x_Mth := (RX9, yX9_link, cX9_link, 3, some .int, 1, 21, 0, 0)
abbrev mX9_fail : x_Mth := (RX9, yX9_fail, cX9_fail, 2, some .int, 4, 86, 0, 0)
abbrev mX9_heal : x_Mth := (RX9, yX9_heal, cX9_heal, 2, some .int, 4, 86, 0, 0)
abbrev mX9_turn : x_Mth := (RX9, yX9_turn, cX9_turn, 2, some .int, 3, 65, 0, 0)
abbrev mX9_tune : x_Mth := (RX9, yX9_tune, cX9_tune, 5, some .int, 3, 66, 0, 0)
abbrev mX9_learn : x_Mth := (RX9, yX9_learn, cX9_learn, 3, some .int, 3, 66, 0, 0)
abbrev mX9_undo : x_Mth := (RX9, yX9_undo, cX9_undo, 1, some .int, 1, 21, 0, 0)
abbrev mX9_seen : x_Mth := (RX9, yX9_seen, cX9_seen, 2, some .int, 1, 21, 0, 0)
abbrev mX9_next : x_Mth := (RX9, yX9_next, cX9_next, 4, some .int, 2, 51, 0, 0)
abbrev mX9_far : x_Mth := (RX9, yX9_far, cX9_far, 4, some .int, 2, 51, 0, 0)
abbrev mX9_space : x_Mth := (RX9, yX9_space, cX9_space, 8, some .int, 3, 77, 0, 0)
abbrev mX9_rings : x_Mth := (RX9, yX9_rings, cX9_rings, 2, some .int, 3, 74, 0, 0)
abbrev mX9_safe : x_Mth := (RX9, yX9_safe, cX9_safe, 2, some .int, 4, 95, 0, 0)
abbrev mX9_order : x_Mth := (RX9, yX9_order, cX9_order, 2, some .int, 5, 120, 0, 0)
abbrev mX9_push : x_Mth := (RX9, yX9_push, cX9_push, 3, some .int, 1, 22, 0, 0)
abbrev mX9_clear : x_Mth := (RX9, yX9_clear, cX9_clear, 2, some .int, 0, 0, 0, 0)
abbrev mX9_segment : x_Mth := (RX9, yX9_segment, cX9_segment, 3, some .int, 0, 0, 0, 0)
abbrev mX9_repair : x_Mth := (RX9, yX9_repair, cX9_repair, 5, some .int, 4, 101, 0, 0)
abbrev mX9_trace : x_Mth := (RX9, yX9_trace, cX9_trace, 3, some .int, 1, 23, 0, 0)
abbrev mX9_untrace : x_Mth := (RX9, yX9_untrace, cX9_untrace, 2, some .int, 0, 0, 0, 0)
abbrev mX9_brief : x_Mth := (RX9, yX9_brief, cX9_brief, 2, some .int, 4, 96, 0, 0)
abbrev mX9_adopt : x_Mth := (RX9, yX9_adopt, cX9_adopt, 1, some .int, 4, 96, 0, 0)
abbrev mX9_protect : x_Mth := (RX9, yX9_protect, cX9_protect, 3, some .int, 0, 0, 0, 0)
abbrev mX9_send : x_Mth := (RX9, yX9_send, cX9_send, 3, some .int, 6, 149, 0, 0)
abbrev mX9_way : x_Mth := (RX9, yX9_way, cX9_way, 2, some .int, 1, 21, 0, 0)
abbrev mX9_count : x_Mth := (RX9, yX9_count, cX9_count, 2, some .int, 1, 22, 0, 0)
abbrev mX10_init : x_Mth := (RX10, yX10_init, cX10_init, 1, none, 1, 20, 23, 1240)
abbrev mX10_in : x_Mth := (RX10, yX10_in, cX10_in, 3, some .boolean, 0, 0, 0, 0)
abbrev mX10_has : x_Mth := (RX10, yX10_has, cX10_has, 2, some .boolean, 0, 0, 0, 0)
abbrev mX10_ones : x_Mth := (RX10, yX10_ones, cX10_ones, 3, some .int, 0, 0, 0, 0)
abbrev mX10_isNode : x_Mth := (RX10, yX10_isNode, cX10_isNode, 2, some .boolean, 1, 22, 0, 0)
abbrev mX10_isLink : x_Mth := (RX10, yX10_isLink, cX10_isLink, 2, some .boolean, 1, 22, 0, 0)
abbrev mX10_linkOf : x_Mth := (RX10, yX10_linkOf, cX10_linkOf, 4, some .int, 0, 0, 0, 0)
abbrev mX10_otherEnd : x_Mth := (RX10, yX10_otherEnd, cX10_otherEnd, 3, some .int, 0, 0, 0, 0)
abbrev mX10_length : x_Mth := (RX10, yX10_length, cX10_length, 3, some .int, 0, 0, 0, 0)
abbrev mX10_lays : x_Mth := (RX10, yX10_lays, cX10_lays, 6, none, 1, 22, 0, 0)
abbrev mX10_nextOf : x_Mth := (RX10, yX10_nextOf, cX10_nextOf, 7, some .int, 1, 23, 0, 0)
abbrev mX10_walks : x_Mth := (RX10, yX10_walks, cX10_walks, 6, some .boolean, 2, 49, 0, 0)
abbrev mX10_isOver : x_Mth := (RX10, yX10_isOver, cX10_isOver, 4, some .boolean, 1, 23, 0, 0)
abbrev mX10_leads : x_Mth := (RX10, yX10_leads, cX10_leads, 7, some .boolean, 2, 49, 0, 0)
abbrev mX10_laysBy : x_Mth := (RX10, yX10_laysBy, cX10_laysBy, 10, none, 3, 75, 0, 0)
abbrev mX10_shortens : x_Mth := (RX10, yX10_shortens, cX10_shortens, 8, some .boolean, 4, 104, 0, 0)
abbrev mX10_repairs : x_Mth := (RX10, yX10_repairs, cX10_repairs, 4, some .boolean, 5, 131, 0, 0)
abbrev mX10_shortAt : x_Mth := (RX10, yX10_shortAt, cX10_shortAt, 2, some .int, 0, 0, 0, 0)
abbrev mX10_write : x_Mth := (RX10, yX10_write, cX10_write, 2, some .int, 1, 22, 0, 0)
abbrev mX10_erase : x_Mth := (RX10, yX10_erase, cX10_erase, 2, some .int, 0, 0, 0, 0)
abbrev mX10_isLetter : x_Mth := (RX10, yX10_isLetter, cX10_isLetter, 2, some .boolean, 1, 22, 0, 0)
abbrev mX10_isFigure : x_Mth := (RX10, yX10_isFigure, cX10_isFigure, 2, some .boolean, 1, 22, 0, 0)
abbrev mX10_looks : x_Mth := (RX10, yX10_looks, cX10_looks, 1, some .int, 2, 43, 0, 0)
abbrev mX10_takes : x_Mth := (RX10, yX10_takes, cX10_takes, 2, none, 0, 0, 0, 0)
abbrev mX10_figure : x_Mth := (RX10, yX10_figure, cX10_figure, 4, some .int, 3, 63, 0, 0)
abbrev mX10_readLinkOf : x_Mth := (RX10, yX10_readLinkOf, cX10_readLinkOf, 4, some .int, 0, 0, 0, 0)
abbrev mX10_isName : x_Mth := (RX10, yX10_isName, cX10_isName, 8, some .boolean, 0, 0, 0, 0)
abbrev mX10_readsNodes : x_Mth := (RX10, yX10_readsNodes, cX10_readsNodes, 3, none, 4, 86, 0, 0)
abbrev mX10_readsLink : x_Mth := (RX10, yX10_readsLink, cX10_readsLink, 8, none, 4, 86, 0, 0)
abbrev mX10_clause : x_Mth := (RX10, yX10_clause, cX10_clause, 3, none, 5, 113, 0, 0)
abbrev mX10_reads : x_Mth := (RX10, yX10_reads, cX10_reads, 5, some .int, 6, 135, 0, 0)
abbrev mX10_fault : x_Mth := (RX10, yX10_fault, cX10_fault, 1, some .int, 7, 159, 0, 0)
abbrev mX10_tell : x_Mth := (RX10, yX10_tell, cX10_tell, 3, some .int, 7, 159, 0, 0)
abbrev mX10_link : x_Mth := (RX10, yX10_link, cX10_link, 3, some .int, 2, 43, 0, 0)
abbrev mX10_notes : x_Mth := (RX10, yX10_notes, cX10_notes, 2, none, 0, 0, 0, 0)
abbrev mX10_becomesUp : x_Mth := (RX10, yX10_becomesUp, cX10_becomesUp, 3, some .int, 2, 43, 0, 0)
abbrev mX10_fail : x_Mth := (RX10, yX10_fail, cX10_fail, 2, some .int, 3, 65, 0, 0)
abbrev mX10_heal : x_Mth := (RX10, yX10_heal, cX10_heal, 2, some .int, 3, 65, 0, 0)
abbrev mX10_tune : x_Mth := (RX10, yX10_tune, cX10_tune, 5, some .int, 2, 43, 0, 0)
abbrev mX10_learn : x_Mth := (RX10, yX10_learn, cX10_learn, 3, some .int, 2, 43, 0, 0)
abbrev mX10_undo : x_Mth := (RX10, yX10_undo, cX10_undo, 2, some .int, 0, 0, 0, 0)
abbrev mX10_seen : x_Mth := (RX10, yX10_seen, cX10_seen, 2, some .int, 2, 43, 0, 0)
abbrev mX10_next : x_Mth := (RX10, yX10_next, cX10_next, 4, some .int, 2, 49, 0, 0)
abbrev mX10_far : x_Mth := (RX10, yX10_far, cX10_far, 4, some .int, 2, 47, 0, 0)
abbrev mX10_space : x_Mth := (RX10, yX10_space, cX10_space, 7, some .int, 3, 74, 0, 0)
abbrev mX10_laysGoes : x_Mth := (RX10, yX10_laysGoes, cX10_laysGoes, 3, none, 2, 49, 0, 0)
abbrev mX10_ringsOf : x_Mth := (RX10, yX10_ringsOf, cX10_ringsOf, 7, some .int, 1, 21, 0, 0)
abbrev mX10_isSafe : x_Mth := (RX10, yX10_isSafe, cX10_isSafe, 4, some .boolean, 2, 47, 0, 0)
abbrev mX10_rings : x_Mth := (RX10, yX10_rings, cX10_rings, 2, some .int, 3, 71, 0, 0)
abbrev mX10_safe : x_Mth := (RX10, yX10_safe, cX10_safe, 2, some .int, 3, 71, 0, 0)
abbrev mX10_behind : x_Mth := (RX10, yX10_behind, cX10_behind, 3, some .int, 0, 0, 0, 0)
abbrev mX10_laysOrders : x_Mth := (RX10, yX10_laysOrders, cX10_laysOrders, 6, none, 3, 71, 0, 0)
abbrev mX10_order : x_Mth := (RX10, yX10_order, cX10_order, 6, some .int, 4, 96, 0, 0)
abbrev mX10_push : x_Mth := (RX10, yX10_push, cX10_push, 3, some .int, 2, 43, 0, 0)
abbrev mX10_clear : x_Mth := (RX10, yX10_clear, cX10_clear, 2, some .int, 0, 0, 0, 0)
abbrev mX10_segment : x_Mth := (RX10, yX10_segment, cX10_segment, 3, some .int, 1, 22, 0, 0)
abbrev mX10_repair : x_Mth := (RX10, yX10_repair, cX10_repair, 5, some .int, 6, 154, 0, 0)
abbrev mX10_trace : x_Mth := (RX10, yX10_trace, cX10_trace, 3, some .int, 2, 43, 0, 0)
abbrev mX10_untrace : x_Mth := (RX10, yX10_untrace, cX10_untrace, 2, some .int, 0, 0, 0, 0)
abbrev mX10_briefs : x_Mth := (RX10, yX10_briefs, cX10_briefs, 1, some .boolean, 5, 131, 0, 0)
abbrev mX10_brief : x_Mth := (RX10, yX10_brief, cX10_brief, 2, some .int, 6, 151, 0, 0)
abbrev mX10_adopt : x_Mth := (RX10, yX10_adopt, cX10_adopt, 2, some .int, 6, 151, 0, 0)
abbrev mX10_protect : x_Mth := (RX10, yX10_protect, cX10_protect, 3, some .int, 1, 22, 0, 0)
abbrev mX10_bears : x_Mth := (RX10, yX10_bears, cX10_bears, 3, none, 0, 0, 0, 0)
abbrev mX10_mends : x_Mth := (RX10, yX10_mends, cX10_mends, 6, some .boolean, 6, 154, 0, 0)
abbrev mX10_leavesOwn : x_Mth := (RX10, yX10_leavesOwn, cX10_leavesOwn, 2, none, 0, 0, 0, 0)
abbrev mX10_linkFrom : x_Mth := (RX10, yX10_linkFrom, cX10_linkFrom, 5, some .int, 2, 49, 0, 0)
abbrev mX10_goesFrom : x_Mth := (RX10, yX10_goesFrom, cX10_goesFrom, 4, some .int, 7, 179, 0, 0)
abbrev mX10_send : x_Mth := (RX10, yX10_send, cX10_send, 3, some .int, 8, 202, 0, 0)
abbrev mX10_way : x_Mth := (RX10, yX10_way, cX10_way, 2, some .int, 0, 0, 0, 0)
abbrev mX10_count : x_Mth := (RX10, yX10_count, cX10_count, 2, some .int, 1, 22, 0, 0)
abbrev mJ6_bitCount_0f7a4 : x_Mth := (RJ6, yJ6_bitCount_0f7a4, cJ6_bitCount_0f7a4, 1, some .int, 0, 0, 0, 0)
abbrev mJ13_bitCount_95d88 : x_Mth := (RJ13, yJ13_bitCount_95d88, cJ13_bitCount_95d88, 2, some .int, 0, 0, 0, 0)
abbrev mJ9_max_7cf53 : x_Mth := (RJ9, yJ9_max_7cf53, cJ9_max_7cf53, 2, some .int, 0, 0, 0, 0)
abbrev mJ9_min_7cf53 : x_Mth := (RJ9, yJ9_min_7cf53, cJ9_min_7cf53, 2, some .int, 0, 0, 0, 0)
abbrev mJ0_length_8abf5 : x_Mth := (RJ0, yJ0_length_8abf5, cJ0_length_8abf5, 1, some .int, 1, 20, 0, 0)
abbrev mJ0_charAt_5068e : x_Mth := (RJ0, yJ0_charAt_5068e, cJ0_charAt_5068e, 2, some .char, 3, 64, 0, 0)
abbrev mJ0_coder_7d493 : x_Mth := (RJ0, yJ0_coder_7d493, cJ0_coder_7d493, 1, some .byte, 0, 0, 0, 0)
abbrev mJ0_isLatin1_aae02 : x_Mth := (RJ0, yJ0_isLatin1_aae02, cJ0_isLatin1_aae02, 1, some .boolean, 0, 0, 0, 0)
abbrev mJ0_checkIndex_df160 : x_Mth := (RJ0, yJ0_checkIndex_df160, cJ0_checkIndex_df160, 2, none, 1, 22, 0, 0)
abbrev mJ1_charAt_3b067 : x_Mth := (RJ1, yJ1_charAt_3b067, cJ1_charAt_3b067, 2, some .char, 2, 43, 0, 0)
abbrev mJ2_getChar_3b067 : x_Mth := (RJ2, yJ2_getChar_3b067, cJ2_getChar_3b067, 2, some .char, 0, 0, 0, 0)
abbrev mJ2_length_9d52b : x_Mth := (RJ2, yJ2_length_9d52b, cJ2_length_9d52b, 1, some .int, 0, 0, 0, 0)
abbrev mJ2_charAt_3b067 : x_Mth := (RJ2, yJ2_charAt_3b067, cJ2_charAt_3b067, 2, some .char, 0, 0, 0, 0)
abbrev mJ2_checkIndex_2214a : x_Mth := (RJ2, yJ2_checkIndex_2214a, cJ2_checkIndex_2214a, 2, none, 2, 43, 0, 0)
abbrev mJ7_fill_53178 : x_Mth := (RJ7, yJ7_fill_53178, cJ7_fill_53178, 4, none, 0, 0, 0, 0)
abbrev mJ3_checkIndex_8e157 : x_Mth := (RJ3, yJ3_checkIndex_8e157, cJ3_checkIndex_8e157, 3, some .int, 0, 0, 0, 0)
theorem qX0_init : x_MC mX0_init 2 := ⟨⟨by decide +kernel, rfl, x_in0 77 (by decide +kernel) (by decide +kernel), x_in0 317 (by decide +kernel) (by decide +kernel), by decide +kernel, by decide +kernel, by decide +kernel⟩, x_in0 316 (by decide +kernel) (by decide +kernel), rfl, rfl⟩
theorem qX0_findRepair : x_MV mX0_findRepair 3 := ⟨⟨by decide +kernel, rfl, x_in0 77 (by decide +kernel) (by decide +kernel), x_in0 801 (by decide +kernel) (by decide +kernel), by decide +kernel, by decide +kernel, by decide +kernel⟩, x_in0 799 (by decide +kernel) (by decide +kernel), x_in0 800 (by decide +kernel) (by decide +kernel)⟩
theorem qX0_findBrief : x_MV mX0_findBrief 1 := ⟨⟨by decide +kernel, rfl, x_in0 77 (by decide +kernel) (by decide +kernel), x_in0 861 (by decide +kernel) (by decide +kernel), by decide +kernel, by decide +kernel, by decide +kernel⟩, x_in0 859 (by decide +kernel) (by decide +kernel), x_in0 860 (by decide +kernel) (by decide +kernel)⟩
theorem qX0_shorten : x_MV mX0_shorten 2 := ⟨⟨by decide +kernel, rfl, x_in0 77 (by decide +kernel) (by decide +kernel), x_in0 810 (by decide +kernel) (by decide +kernel), by decide +kernel, by decide +kernel, by decide +kernel⟩, x_in0 809 (by decide +kernel) (by decide +kernel), x_in0 19 (by decide +kernel) (by decide +kernel)⟩
theorem qX0_followedFrom : x_MV mX0_followedFrom 1 := ⟨⟨by decide +kernel, rfl, x_in0 77 (by decide +kernel) (by decide +kernel), x_in0 815 (by decide +kernel) (by decide +kernel), by decide +kernel, by decide +kernel, by decide +kernel⟩, x_in0 814 (by decide +kernel) (by decide +kernel), x_in0 20 (by decide +kernel) (by decide +kernel)⟩
theorem qX0_chooseFirst : x_MV mX0_chooseFirst 1 := ⟨⟨by decide +kernel, rfl, x_in0 77 (by decide +kernel) (by decide +kernel), x_in0 825 (by decide +kernel) (by decide +kernel), by decide +kernel, by decide +kernel, by decide +kernel⟩, x_in0 824 (by decide +kernel) (by decide +kernel), x_in0 22 (by decide +kernel) (by decide +kernel)⟩
theorem qX0_lowestKind : x_MV mX0_lowestKind 2 := ⟨⟨by decide +kernel, rfl, x_in0 77 (by decide +kernel) (by decide +kernel), x_in0 829 (by decide +kernel) (by decide +kernel), by decide +kernel, by decide +kernel, by decide +kernel⟩, x_in0 828 (by decide +kernel) (by decide +kernel), x_in0 23 (by decide +kernel) (by decide +kernel)⟩
theorem qX0_linkIn : x_MV mX0_linkIn 3 := ⟨⟨by decide +kernel, rfl, x_in0 77 (by decide +kernel) (by decide +kernel), x_in0 820 (by decide +kernel) (by decide +kernel), by decide +kernel, by decide +kernel, by decide +kernel⟩, x_in0 819 (by decide +kernel) (by decide +kernel), x_in0 21 (by decide +kernel) (by decide +kernel)⟩
theorem qX0_writeFound : x_MV mX0_writeFound 0 := ⟨⟨by decide +kernel, rfl, x_in0 77 (by decide +kernel) (by decide +kernel), x_in0 833 (by decide +kernel) (by decide +kernel), by decide +kernel, by decide +kernel, by decide +kernel⟩, x_in0 832 (by decide +kernel) (by decide +kernel), x_in0 24 (by decide +kernel) (by decide +kernel)⟩
theorem qX1_init : x_MC mX1_init 3 := ⟨⟨by decide +kernel, rfl, x_in0 78 (by decide +kernel) (by decide +kernel), x_in0 360 (by decide +kernel) (by decide +kernel), by decide +kernel, by decide +kernel, by decide +kernel⟩, x_in0 359 (by decide +kernel) (by decide +kernel), rfl, rfl⟩
theorem qX1_forgetAll : x_MV mX1_forgetAll 0 := ⟨⟨by decide +kernel, rfl, x_in0 78 (by decide +kernel) (by decide +kernel), x_in0 602 (by decide +kernel) (by decide +kernel), by decide +kernel, by decide +kernel, by decide +kernel⟩, x_in0 600 (by decide +kernel) (by decide +kernel), x_in0 601 (by decide +kernel) (by decide +kernel)⟩
theorem qX1_hops : x_MV mX1_hops 0 := ⟨⟨by decide +kernel, rfl, x_in0 78 (by decide +kernel) (by decide +kernel), x_in0 912 (by decide +kernel) (by decide +kernel), by decide +kernel, by decide +kernel, by decide +kernel⟩, x_in0 910 (by decide +kernel) (by decide +kernel), x_in0 911 (by decide +kernel) (by decide +kernel)⟩
theorem qX1_tally : x_MV mX1_tally 1 := ⟨⟨by decide +kernel, rfl, x_in0 78 (by decide +kernel) (by decide +kernel), x_in0 962 (by decide +kernel) (by decide +kernel), by decide +kernel, by decide +kernel, by decide +kernel⟩, x_in0 960 (by decide +kernel) (by decide +kernel), x_in0 961 (by decide +kernel) (by decide +kernel)⟩
theorem qX1_start : x_MV mX1_start 2 := ⟨⟨by decide +kernel, rfl, x_in0 78 (by decide +kernel) (by decide +kernel), x_in0 887 (by decide +kernel) (by decide +kernel), by decide +kernel, by decide +kernel, by decide +kernel⟩, x_in0 885 (by decide +kernel) (by decide +kernel), x_in0 886 (by decide +kernel) (by decide +kernel)⟩
theorem qX1_noteEnd : x_MV mX1_noteEnd 1 := ⟨⟨by decide +kernel, rfl, x_in0 78 (by decide +kernel) (by decide +kernel), x_in0 948 (by decide +kernel) (by decide +kernel), by decide +kernel, by decide +kernel, by decide +kernel⟩, x_in0 946 (by decide +kernel) (by decide +kernel), x_in0 947 (by decide +kernel) (by decide +kernel)⟩
theorem qX1_carry : x_MV mX1_carry 1 := ⟨⟨by decide +kernel, rfl, x_in0 78 (by decide +kernel) (by decide +kernel), x_in0 896 (by decide +kernel) (by decide +kernel), by decide +kernel, by decide +kernel, by decide +kernel⟩, x_in0 894 (by decide +kernel) (by decide +kernel), x_in0 895 (by decide +kernel) (by decide +kernel)⟩
theorem qX1_takeOffReached : x_MV mX1_takeOffReached 1 := ⟨⟨by decide +kernel, rfl, x_in0 78 (by decide +kernel) (by decide +kernel), x_in0 900 (by decide +kernel) (by decide +kernel), by decide +kernel, by decide +kernel, by decide +kernel⟩, x_in0 899 (by decide +kernel) (by decide +kernel), x_in0 25 (by decide +kernel) (by decide +kernel)⟩
theorem qX1_linkAhead : x_MV mX1_linkAhead 1 := ⟨⟨by decide +kernel, rfl, x_in0 78 (by decide +kernel) (by decide +kernel), x_in0 916 (by decide +kernel) (by decide +kernel), by decide +kernel, by decide +kernel, by decide +kernel⟩, x_in0 915 (by decide +kernel) (by decide +kernel), x_in0 26 (by decide +kernel) (by decide +kernel)⟩
theorem qX1_crossLink : x_MV mX1_crossLink 2 := ⟨⟨by decide +kernel, rfl, x_in0 78 (by decide +kernel) (by decide +kernel), x_in0 939 (by decide +kernel) (by decide +kernel), by decide +kernel, by decide +kernel, by decide +kernel⟩, x_in0 938 (by decide +kernel) (by decide +kernel), x_in0 27 (by decide +kernel) (by decide +kernel)⟩
theorem qX1_mend : x_MV mX1_mend 2 := ⟨⟨by decide +kernel, rfl, x_in0 78 (by decide +kernel) (by decide +kernel), x_in0 943 (by decide +kernel) (by decide +kernel), by decide +kernel, by decide +kernel, by decide +kernel⟩, x_in0 942 (by decide +kernel) (by decide +kernel), x_in0 28 (by decide +kernel) (by decide +kernel)⟩
theorem qX2_init : x_MC mX2_init 0 := ⟨⟨by decide +kernel, rfl, x_in0 69 (by decide +kernel) (by decide +kernel), x_in0 99 (by decide +kernel) (by decide +kernel), by decide +kernel, by decide +kernel, by decide +kernel⟩, x_in0 98 (by decide +kernel) (by decide +kernel), rfl, rfl⟩
theorem qX2_pairOf : x_MS mX2_pairOf 2 := ⟨⟨by decide +kernel, rfl, x_in0 69 (by decide +kernel) (by decide +kernel), x_in0 457 (by decide +kernel) (by decide +kernel), by decide +kernel, by decide +kernel, by decide +kernel⟩, x_in0 456 (by decide +kernel) (by decide +kernel)⟩
theorem qX2_pairsWithLinks : x_MV mX2_pairsWithLinks 0 := ⟨⟨by decide +kernel, rfl, x_in0 69 (by decide +kernel) (by decide +kernel), x_in0 454 (by decide +kernel) (by decide +kernel), by decide +kernel, by decide +kernel, by decide +kernel⟩, x_in0 452 (by decide +kernel) (by decide +kernel), x_in0 453 (by decide +kernel) (by decide +kernel)⟩
theorem qX2_hasNode : x_MV mX2_hasNode 1 := ⟨⟨by decide +kernel, rfl, x_in0 69 (by decide +kernel) (by decide +kernel), x_in0 658 (by decide +kernel) (by decide +kernel), by decide +kernel, by decide +kernel, by decide +kernel⟩, x_in0 656 (by decide +kernel) (by decide +kernel), x_in0 657 (by decide +kernel) (by decide +kernel)⟩
theorem qX2_hasLink : x_MV mX2_hasLink 1 := ⟨⟨by decide +kernel, rfl, x_in0 69 (by decide +kernel) (by decide +kernel), x_in0 611 (by decide +kernel) (by decide +kernel), by decide +kernel, by decide +kernel, by decide +kernel⟩, x_in0 609 (by decide +kernel) (by decide +kernel), x_in0 610 (by decide +kernel) (by decide +kernel)⟩
theorem qX2_isUp : x_MV mX2_isUp 1 := ⟨⟨by decide +kernel, rfl, x_in0 69 (by decide +kernel) (by decide +kernel), x_in0 615 (by decide +kernel) (by decide +kernel), by decide +kernel, by decide +kernel, by decide +kernel⟩, x_in0 613 (by decide +kernel) (by decide +kernel), x_in0 614 (by decide +kernel) (by decide +kernel)⟩
theorem qX2_otherEnd : x_MV mX2_otherEnd 2 := ⟨⟨by decide +kernel, rfl, x_in0 69 (by decide +kernel) (by decide +kernel), x_in0 928 (by decide +kernel) (by decide +kernel), by decide +kernel, by decide +kernel, by decide +kernel⟩, x_in0 926 (by decide +kernel) (by decide +kernel), x_in0 927 (by decide +kernel) (by decide +kernel)⟩
theorem qX2_linkBetween : x_MV mX2_linkBetween 2 := ⟨⟨by decide +kernel, rfl, x_in0 69 (by decide +kernel) (by decide +kernel), x_in0 594 (by decide +kernel) (by decide +kernel), by decide +kernel, by decide +kernel, by decide +kernel⟩, x_in0 592 (by decide +kernel) (by decide +kernel), x_in0 593 (by decide +kernel) (by decide +kernel)⟩
theorem qX2_behind : x_MV mX2_behind 0 := ⟨⟨by decide +kernel, rfl, x_in0 69 (by decide +kernel) (by decide +kernel), x_in0 759 (by decide +kernel) (by decide +kernel), by decide +kernel, by decide +kernel, by decide +kernel⟩, x_in0 757 (by decide +kernel) (by decide +kernel), x_in0 758 (by decide +kernel) (by decide +kernel)⟩
theorem qX2_startAnew : x_MV mX2_startAnew 1 := ⟨⟨by decide +kernel, rfl, x_in0 69 (by decide +kernel) (by decide +kernel), x_in0 583 (by decide +kernel) (by decide +kernel), by decide +kernel, by decide +kernel, by decide +kernel⟩, x_in0 581 (by decide +kernel) (by decide +kernel), x_in0 582 (by decide +kernel) (by decide +kernel)⟩
theorem qX2_putLink : x_MV mX2_putLink 4 := ⟨⟨by decide +kernel, rfl, x_in0 69 (by decide +kernel) (by decide +kernel), x_in0 590 (by decide +kernel) (by decide +kernel), by decide +kernel, by decide +kernel, by decide +kernel⟩, x_in0 588 (by decide +kernel) (by decide +kernel), x_in0 589 (by decide +kernel) (by decide +kernel)⟩
theorem qX2_addLink : x_MV mX2_addLink 2 := ⟨⟨by decide +kernel, rfl, x_in0 69 (by decide +kernel) (by decide +kernel), x_in0 598 (by decide +kernel) (by decide +kernel), by decide +kernel, by decide +kernel, by decide +kernel⟩, x_in0 597 (by decide +kernel) (by decide +kernel), x_in0 11 (by decide +kernel) (by decide +kernel)⟩
theorem qX3_init : x_MC mX3_init 1 := ⟨⟨by decide +kernel, rfl, x_in0 71 (by decide +kernel) (by decide +kernel), x_in0 196 (by decide +kernel) (by decide +kernel), by decide +kernel, by decide +kernel, by decide +kernel⟩, x_in0 195 (by decide +kernel) (by decide +kernel), rfl, rfl⟩
theorem qX3_keepUp : x_MV mX3_keepUp 0 := ⟨⟨by decide +kernel, rfl, x_in0 71 (by decide +kernel) (by decide +kernel), x_in0 627 (by decide +kernel) (by decide +kernel), by decide +kernel, by decide +kernel, by decide +kernel⟩, x_in0 625 (by decide +kernel) (by decide +kernel), x_in0 626 (by decide +kernel) (by decide +kernel)⟩
theorem qX3_keepPrices : x_MV mX3_keepPrices 1 := ⟨⟨by decide +kernel, rfl, x_in0 71 (by decide +kernel) (by decide +kernel), x_in0 650 (by decide +kernel) (by decide +kernel), by decide +kernel, by decide +kernel, by decide +kernel⟩, x_in0 648 (by decide +kernel) (by decide +kernel), x_in0 649 (by decide +kernel) (by decide +kernel)⟩
theorem qX3_keepSeen : x_MV mX3_keepSeen 1 := ⟨⟨by decide +kernel, rfl, x_in0 71 (by decide +kernel) (by decide +kernel), x_in0 662 (by decide +kernel) (by decide +kernel), by decide +kernel, by decide +kernel, by decide +kernel⟩, x_in0 660 (by decide +kernel) (by decide +kernel), x_in0 661 (by decide +kernel) (by decide +kernel)⟩
theorem qX3_keep : x_MV mX3_keep 4 := ⟨⟨by decide +kernel, rfl, x_in0 71 (by decide +kernel) (by decide +kernel), x_in0 631 (by decide +kernel) (by decide +kernel), by decide +kernel, by decide +kernel, by decide +kernel⟩, x_in0 630 (by decide +kernel) (by decide +kernel), x_in0 13 (by decide +kernel) (by decide +kernel)⟩
theorem qX3_takeBack : x_MV mX3_takeBack 0 := ⟨⟨by decide +kernel, rfl, x_in0 71 (by decide +kernel) (by decide +kernel), x_in0 670 (by decide +kernel) (by decide +kernel), by decide +kernel, by decide +kernel, by decide +kernel⟩, x_in0 668 (by decide +kernel) (by decide +kernel), x_in0 669 (by decide +kernel) (by decide +kernel)⟩
theorem qX4_init : x_MC mX4_init 2 := ⟨⟨by decide +kernel, rfl, x_in0 73 (by decide +kernel) (by decide +kernel), x_in0 244 (by decide +kernel) (by decide +kernel), by decide +kernel, by decide +kernel, by decide +kernel⟩, x_in0 243 (by decide +kernel) (by decide +kernel), rfl, rfl⟩
theorem qX4_lookAround : x_MV mX4_lookAround 0 := ⟨⟨by decide +kernel, rfl, x_in0 73 (by decide +kernel) (by decide +kernel), x_in0 741 (by decide +kernel) (by decide +kernel), by decide +kernel, by decide +kernel, by decide +kernel⟩, x_in0 739 (by decide +kernel) (by decide +kernel), x_in0 740 (by decide +kernel) (by decide +kernel)⟩
theorem qX4_lookTowards : x_MV mX4_lookTowards 1 := ⟨⟨by decide +kernel, rfl, x_in0 73 (by decide +kernel) (by decide +kernel), x_in0 723 (by decide +kernel) (by decide +kernel), by decide +kernel, by decide +kernel, by decide +kernel⟩, x_in0 721 (by decide +kernel) (by decide +kernel), x_in0 722 (by decide +kernel) (by decide +kernel)⟩
theorem qX4_hasRings : x_MV mX4_hasRings 1 := ⟨⟨by decide +kernel, rfl, x_in0 73 (by decide +kernel) (by decide +kernel), x_in0 746 (by decide +kernel) (by decide +kernel), by decide +kernel, by decide +kernel, by decide +kernel⟩, x_in0 744 (by decide +kernel) (by decide +kernel), x_in0 745 (by decide +kernel) (by decide +kernel)⟩
theorem qX4_ringsOf : x_MV mX4_ringsOf 2 := ⟨⟨by decide +kernel, rfl, x_in0 73 (by decide +kernel) (by decide +kernel), x_in0 729 (by decide +kernel) (by decide +kernel), by decide +kernel, by decide +kernel, by decide +kernel⟩, x_in0 727 (by decide +kernel) (by decide +kernel), x_in0 728 (by decide +kernel) (by decide +kernel)⟩
theorem qX4_goesRound : x_MV mX4_goesRound 3 := ⟨⟨by decide +kernel, rfl, x_in0 73 (by decide +kernel) (by decide +kernel), x_in0 733 (by decide +kernel) (by decide +kernel), by decide +kernel, by decide +kernel, by decide +kernel⟩, x_in0 732 (by decide +kernel) (by decide +kernel), x_in0 17 (by decide +kernel) (by decide +kernel)⟩
theorem qX4_findOrder : x_MV mX4_findOrder 0 := ⟨⟨by decide +kernel, rfl, x_in0 73 (by decide +kernel) (by decide +kernel), x_in0 755 (by decide +kernel) (by decide +kernel), by decide +kernel, by decide +kernel, by decide +kernel⟩, x_in0 753 (by decide +kernel) (by decide +kernel), x_in0 754 (by decide +kernel) (by decide +kernel)⟩
theorem qX4_firstToLearn : x_MV mX4_firstToLearn 2 := ⟨⟨by decide +kernel, rfl, x_in0 73 (by decide +kernel) (by decide +kernel), x_in0 764 (by decide +kernel) (by decide +kernel), by decide +kernel, by decide +kernel, by decide +kernel⟩, x_in0 763 (by decide +kernel) (by decide +kernel), x_in0 18 (by decide +kernel) (by decide +kernel)⟩
theorem qX5_init : x_MC mX5_init 1 := ⟨⟨by decide +kernel, rfl, x_in0 72 (by decide +kernel) (by decide +kernel), x_in0 225 (by decide +kernel) (by decide +kernel), by decide +kernel, by decide +kernel, by decide +kernel⟩, x_in0 224 (by decide +kernel) (by decide +kernel), rfl, rfl⟩
theorem qX5_measure : x_MV mX5_measure 3 := ⟨⟨by decide +kernel, rfl, x_in0 72 (by decide +kernel) (by decide +kernel), x_in0 682 (by decide +kernel) (by decide +kernel), by decide +kernel, by decide +kernel, by decide +kernel⟩, x_in0 680 (by decide +kernel) (by decide +kernel), x_in0 681 (by decide +kernel) (by decide +kernel)⟩
theorem qX5_startFrom : x_MV mX5_startFrom 1 := ⟨⟨by decide +kernel, rfl, x_in0 72 (by decide +kernel) (by decide +kernel), x_in0 686 (by decide +kernel) (by decide +kernel), by decide +kernel, by decide +kernel, by decide +kernel⟩, x_in0 685 (by decide +kernel) (by decide +kernel), x_in0 14 (by decide +kernel) (by decide +kernel)⟩
theorem qX5_shorten : x_MV mX5_shorten 3 := ⟨⟨by decide +kernel, rfl, x_in0 72 (by decide +kernel) (by decide +kernel), x_in0 690 (by decide +kernel) (by decide +kernel), by decide +kernel, by decide +kernel, by decide +kernel⟩, x_in0 689 (by decide +kernel) (by decide +kernel), x_in0 15 (by decide +kernel) (by decide +kernel)⟩
theorem qX5_leadOn : x_MV mX5_leadOn 4 := ⟨⟨by decide +kernel, rfl, x_in0 72 (by decide +kernel) (by decide +kernel), x_in0 694 (by decide +kernel) (by decide +kernel), by decide +kernel, by decide +kernel, by decide +kernel⟩, x_in0 693 (by decide +kernel) (by decide +kernel), x_in0 16 (by decide +kernel) (by decide +kernel)⟩
theorem qX5_sumFrom : x_MV mX5_sumFrom 1 := ⟨⟨by decide +kernel, rfl, x_in0 72 (by decide +kernel) (by decide +kernel), x_in0 706 (by decide +kernel) (by decide +kernel), by decide +kernel, by decide +kernel, by decide +kernel⟩, x_in0 704 (by decide +kernel) (by decide +kernel), x_in0 705 (by decide +kernel) (by decide +kernel)⟩
theorem qX5_nodeAhead : x_MV mX5_nodeAhead 1 := ⟨⟨by decide +kernel, rfl, x_in0 72 (by decide +kernel) (by decide +kernel), x_in0 698 (by decide +kernel) (by decide +kernel), by decide +kernel, by decide +kernel, by decide +kernel⟩, x_in0 696 (by decide +kernel) (by decide +kernel), x_in0 697 (by decide +kernel) (by decide +kernel)⟩
theorem qX5_linkAhead : x_MV mX5_linkAhead 1 := ⟨⟨by decide +kernel, rfl, x_in0 72 (by decide +kernel) (by decide +kernel), x_in0 934 (by decide +kernel) (by decide +kernel), by decide +kernel, by decide +kernel, by decide +kernel⟩, x_in0 932 (by decide +kernel) (by decide +kernel), x_in0 933 (by decide +kernel) (by decide +kernel)⟩
theorem qX5_walkSpares : x_MV mX5_walkSpares 4 := ⟨⟨by decide +kernel, rfl, x_in0 72 (by decide +kernel) (by decide +kernel), x_in0 714 (by decide +kernel) (by decide +kernel), by decide +kernel, by decide +kernel, by decide +kernel⟩, x_in0 712 (by decide +kernel) (by decide +kernel), x_in0 713 (by decide +kernel) (by decide +kernel)⟩
theorem qX5_findWalk : x_MV mX5_findWalk 4 := ⟨⟨by decide +kernel, rfl, x_in0 72 (by decide +kernel) (by decide +kernel), x_in0 805 (by decide +kernel) (by decide +kernel), by decide +kernel, by decide +kernel, by decide +kernel⟩, x_in0 803 (by decide +kernel) (by decide +kernel), x_in0 804 (by decide +kernel) (by decide +kernel)⟩
theorem qX6_init : x_MC mX6_init 1 := ⟨⟨by decide +kernel, rfl, x_in0 74 (by decide +kernel) (by decide +kernel), x_in0 250 (by decide +kernel) (by decide +kernel), by decide +kernel, by decide +kernel, by decide +kernel⟩, x_in0 249 (by decide +kernel) (by decide +kernel), rfl, rfl⟩
theorem qX6_put : x_MV mX6_put 1 := ⟨⟨by decide +kernel, rfl, x_in0 74 (by decide +kernel) (by decide +kernel), x_in0 769 (by decide +kernel) (by decide +kernel), by decide +kernel, by decide +kernel, by decide +kernel⟩, x_in0 767 (by decide +kernel) (by decide +kernel), x_in0 768 (by decide +kernel) (by decide +kernel)⟩
theorem qX6_last : x_MV mX6_last 0 := ⟨⟨by decide +kernel, rfl, x_in0 74 (by decide +kernel) (by decide +kernel), x_in0 773 (by decide +kernel) (by decide +kernel), by decide +kernel, by decide +kernel, by decide +kernel⟩, x_in0 771 (by decide +kernel) (by decide +kernel), x_in0 772 (by decide +kernel) (by decide +kernel)⟩
theorem qX6_has : x_MV mX6_has 1 := ⟨⟨by decide +kernel, rfl, x_in0 74 (by decide +kernel) (by decide +kernel), x_in0 847 (by decide +kernel) (by decide +kernel), by decide +kernel, by decide +kernel, by decide +kernel⟩, x_in0 845 (by decide +kernel) (by decide +kernel), x_in0 846 (by decide +kernel) (by decide +kernel)⟩
theorem qX6_takeOver : x_MV mX6_takeOver 1 := ⟨⟨by decide +kernel, rfl, x_in0 74 (by decide +kernel) (by decide +kernel), x_in0 865 (by decide +kernel) (by decide +kernel), by decide +kernel, by decide +kernel, by decide +kernel⟩, x_in0 863 (by decide +kernel) (by decide +kernel), x_in0 864 (by decide +kernel) (by decide +kernel)⟩
theorem qX6_told : x_MV mX6_told 1 := ⟨⟨by decide +kernel, rfl, x_in0 74 (by decide +kernel) (by decide +kernel), x_in0 777 (by decide +kernel) (by decide +kernel), by decide +kernel, by decide +kernel, by decide +kernel⟩, x_in0 775 (by decide +kernel) (by decide +kernel), x_in0 776 (by decide +kernel) (by decide +kernel)⟩
theorem qX7_init : x_MC mX7_init 1 := ⟨⟨by decide +kernel, rfl, x_in0 76 (by decide +kernel) (by decide +kernel), x_in0 293 (by decide +kernel) (by decide +kernel), by decide +kernel, by decide +kernel, by decide +kernel⟩, x_in0 292 (by decide +kernel) (by decide +kernel), rfl, rfl⟩
theorem qX7_put : x_MV mX7_put 2 := ⟨⟨by decide +kernel, rfl, x_in0 76 (by decide +kernel) (by decide +kernel), x_in0 785 (by decide +kernel) (by decide +kernel), by decide +kernel, by decide +kernel, by decide +kernel⟩, x_in0 783 (by decide +kernel) (by decide +kernel), x_in0 784 (by decide +kernel) (by decide +kernel)⟩
theorem qX7_takeOver : x_MV mX7_takeOver 1 := ⟨⟨by decide +kernel, rfl, x_in0 76 (by decide +kernel) (by decide +kernel), x_in0 874 (by decide +kernel) (by decide +kernel), by decide +kernel, by decide +kernel, by decide +kernel⟩, x_in0 872 (by decide +kernel) (by decide +kernel), x_in0 873 (by decide +kernel) (by decide +kernel)⟩
theorem qX7_putOnTop : x_MV mX7_putOnTop 1 := ⟨⟨by decide +kernel, rfl, x_in0 76 (by decide +kernel) (by decide +kernel), x_in0 891 (by decide +kernel) (by decide +kernel), by decide +kernel, by decide +kernel, by decide +kernel⟩, x_in0 889 (by decide +kernel) (by decide +kernel), x_in0 890 (by decide +kernel) (by decide +kernel)⟩
theorem qX7_topKind : x_MV mX7_topKind 0 := ⟨⟨by decide +kernel, rfl, x_in0 76 (by decide +kernel) (by decide +kernel), x_in0 924 (by decide +kernel) (by decide +kernel), by decide +kernel, by decide +kernel, by decide +kernel⟩, x_in0 922 (by decide +kernel) (by decide +kernel), x_in0 923 (by decide +kernel) (by decide +kernel)⟩
theorem qX7_topWhat : x_MV mX7_topWhat 0 := ⟨⟨by decide +kernel, rfl, x_in0 76 (by decide +kernel) (by decide +kernel), x_in0 920 (by decide +kernel) (by decide +kernel), by decide +kernel, by decide +kernel, by decide +kernel⟩, x_in0 918 (by decide +kernel) (by decide +kernel), x_in0 919 (by decide +kernel) (by decide +kernel)⟩
theorem qX7_isTopTo : x_MV mX7_isTopTo 1 := ⟨⟨by decide +kernel, rfl, x_in0 76 (by decide +kernel) (by decide +kernel), x_in0 904 (by decide +kernel) (by decide +kernel), by decide +kernel, by decide +kernel, by decide +kernel⟩, x_in0 902 (by decide +kernel) (by decide +kernel), x_in0 903 (by decide +kernel) (by decide +kernel)⟩
theorem qX7_dropTop : x_MV mX7_dropTop 0 := ⟨⟨by decide +kernel, rfl, x_in0 76 (by decide +kernel) (by decide +kernel), x_in0 908 (by decide +kernel) (by decide +kernel), by decide +kernel, by decide +kernel, by decide +kernel⟩, x_in0 906 (by decide +kernel) (by decide +kernel), x_in0 907 (by decide +kernel) (by decide +kernel)⟩
theorem qX7_told : x_MV mX7_told 1 := ⟨⟨by decide +kernel, rfl, x_in0 76 (by decide +kernel) (by decide +kernel), x_in0 838 (by decide +kernel) (by decide +kernel), by decide +kernel, by decide +kernel, by decide +kernel⟩, x_in0 836 (by decide +kernel) (by decide +kernel), x_in0 837 (by decide +kernel) (by decide +kernel)⟩
theorem qX8_init : x_MC mX8_init 1 := ⟨⟨by decide +kernel, rfl, x_in0 70 (by decide +kernel) (by decide +kernel), x_in0 160 (by decide +kernel) (by decide +kernel), by decide +kernel, by decide +kernel, by decide +kernel⟩, x_in0 159 (by decide +kernel) (by decide +kernel), rfl, rfl⟩
theorem qX8_addLetter : x_MV mX8_addLetter 1 := ⟨⟨by decide +kernel, rfl, x_in0 70 (by decide +kernel) (by decide +kernel), x_in0 438 (by decide +kernel) (by decide +kernel), by decide +kernel, by decide +kernel, by decide +kernel⟩, x_in0 436 (by decide +kernel) (by decide +kernel), x_in0 437 (by decide +kernel) (by decide +kernel)⟩
theorem qX8_tellsNodes : x_MV mX8_tellsNodes 1 := ⟨⟨by decide +kernel, rfl, x_in0 70 (by decide +kernel) (by decide +kernel), x_in0 574 (by decide +kernel) (by decide +kernel), by decide +kernel, by decide +kernel, by decide +kernel⟩, x_in0 572 (by decide +kernel) (by decide +kernel), x_in0 573 (by decide +kernel) (by decide +kernel)⟩
theorem qX8_told : x_MV mX8_told 2 := ⟨⟨by decide +kernel, rfl, x_in0 70 (by decide +kernel) (by decide +kernel), x_in0 578 (by decide +kernel) (by decide +kernel), by decide +kernel, by decide +kernel, by decide +kernel⟩, x_in0 576 (by decide +kernel) (by decide +kernel), x_in0 577 (by decide +kernel) (by decide +kernel)⟩
theorem qX8_findFault : x_MV mX8_findFault 0 := ⟨⟨by decide +kernel, rfl, x_in0 70 (by decide +kernel) (by decide +kernel), x_in0 450 (by decide +kernel) (by decide +kernel), by decide +kernel, by decide +kernel, by decide +kernel⟩, x_in0 448 (by decide +kernel) (by decide +kernel), x_in0 449 (by decide +kernel) (by decide +kernel)⟩
theorem qX8_readClause : x_MV mX8_readClause 1 := ⟨⟨by decide +kernel, rfl, x_in0 70 (by decide +kernel) (by decide +kernel), x_in0 480 (by decide +kernel) (by decide +kernel), by decide +kernel, by decide +kernel, by decide +kernel⟩, x_in0 479 (by decide +kernel) (by decide +kernel), x_in0 3 (by decide +kernel) (by decide +kernel)⟩
theorem qX8_readNodes : x_MV mX8_readNodes 1 := ⟨⟨by decide +kernel, rfl, x_in0 70 (by decide +kernel) (by decide +kernel), x_in0 537 (by decide +kernel) (by decide +kernel), by decide +kernel, by decide +kernel, by decide +kernel⟩, x_in0 536 (by decide +kernel) (by decide +kernel), x_in0 5 (by decide +kernel) (by decide +kernel)⟩
theorem qX8_readLink : x_MV mX8_readLink 1 := ⟨⟨by decide +kernel, rfl, x_in0 70 (by decide +kernel) (by decide +kernel), x_in0 550 (by decide +kernel) (by decide +kernel), by decide +kernel, by decide +kernel, by decide +kernel⟩, x_in0 549 (by decide +kernel) (by decide +kernel), x_in0 8 (by decide +kernel) (by decide +kernel)⟩
theorem qX8_isTooMany : x_MV mX8_isTooMany 1 := ⟨⟨by decide +kernel, rfl, x_in0 70 (by decide +kernel) (by decide +kernel), x_in0 555 (by decide +kernel) (by decide +kernel), by decide +kernel, by decide +kernel, by decide +kernel⟩, x_in0 554 (by decide +kernel) (by decide +kernel), x_in0 9 (by decide +kernel) (by decide +kernel)⟩
theorem qX8_keep : x_MV mX8_keep 5 := ⟨⟨by decide +kernel, rfl, x_in0 70 (by decide +kernel) (by decide +kernel), x_in0 545 (by decide +kernel) (by decide +kernel), by decide +kernel, by decide +kernel, by decide +kernel⟩, x_in0 544 (by decide +kernel) (by decide +kernel), x_in0 7 (by decide +kernel) (by decide +kernel)⟩
theorem qX8_readSign : x_MV mX8_readSign 1 := ⟨⟨by decide +kernel, rfl, x_in0 70 (by decide +kernel) (by decide +kernel), x_in0 465 (by decide +kernel) (by decide +kernel), by decide +kernel, by decide +kernel, by decide +kernel⟩, x_in0 464 (by decide +kernel) (by decide +kernel), x_in0 0 (by decide +kernel) (by decide +kernel)⟩
theorem qX8_readNumber : x_MV mX8_readNumber 2 := ⟨⟨by decide +kernel, rfl, x_in0 70 (by decide +kernel) (by decide +kernel), x_in0 541 (by decide +kernel) (by decide +kernel), by decide +kernel, by decide +kernel, by decide +kernel⟩, x_in0 540 (by decide +kernel) (by decide +kernel), x_in0 6 (by decide +kernel) (by decide +kernel)⟩
theorem qX8_isWord : x_MV mX8_isWord 1 := ⟨⟨by decide +kernel, rfl, x_in0 70 (by decide +kernel) (by decide +kernel), x_in0 485 (by decide +kernel) (by decide +kernel), by decide +kernel, by decide +kernel, by decide +kernel⟩, x_in0 484 (by decide +kernel) (by decide +kernel), x_in0 4 (by decide +kernel) (by decide +kernel)⟩
theorem qX8_readToken : x_MV mX8_readToken 0 := ⟨⟨by decide +kernel, rfl, x_in0 70 (by decide +kernel) (by decide +kernel), x_in0 469 (by decide +kernel) (by decide +kernel), by decide +kernel, by decide +kernel, by decide +kernel⟩, x_in0 468 (by decide +kernel) (by decide +kernel), x_in0 1 (by decide +kernel) (by decide +kernel)⟩
theorem qX8_skipBlanks : x_MV mX8_skipBlanks 1 := ⟨⟨by decide +kernel, rfl, x_in0 70 (by decide +kernel) (by decide +kernel), x_in0 473 (by decide +kernel) (by decide +kernel), by decide +kernel, by decide +kernel, by decide +kernel⟩, x_in0 472 (by decide +kernel) (by decide +kernel), x_in0 2 (by decide +kernel) (by decide +kernel)⟩
theorem qX8_rowOf : x_MS mX8_rowOf 1 := ⟨⟨by decide +kernel, rfl, x_in0 70 (by decide +kernel) (by decide +kernel), x_in0 476 (by decide +kernel) (by decide +kernel), by decide +kernel, by decide +kernel, by decide +kernel⟩, x_in0 475 (by decide +kernel) (by decide +kernel)⟩
theorem qX9_init : x_MC mX9_init 0 := ⟨⟨by decide +kernel, rfl, x_in0 68 (by decide +kernel) (by decide +kernel), x_in0 91 (by decide +kernel) (by decide +kernel), by decide +kernel, by decide +kernel, by decide +kernel⟩, x_in0 90 (by decide +kernel) (by decide +kernel), rfl, rfl⟩
theorem qX9_write : x_MV mX9_write 1 := ⟨⟨by decide +kernel, rfl, x_in0 68 (by decide +kernel) (by decide +kernel), x_in0 434 (by decide +kernel) (by decide +kernel), by decide +kernel, by decide +kernel, by decide +kernel⟩, x_in0 432 (by decide +kernel) (by decide +kernel), x_in0 433 (by decide +kernel) (by decide +kernel)⟩
theorem qX9_erase : x_MV mX9_erase 0 := ⟨⟨by decide +kernel, rfl, x_in0 68 (by decide +kernel) (by decide +kernel), x_in0 442 (by decide +kernel) (by decide +kernel), by decide +kernel, by decide +kernel, by decide +kernel⟩, x_in0 440 (by decide +kernel) (by decide +kernel), x_in0 441 (by decide +kernel) (by decide +kernel)⟩
theorem qX9_fault : x_MV mX9_fault 0 := ⟨⟨by decide +kernel, rfl, x_in0 68 (by decide +kernel) (by decide +kernel), x_in0 446 (by decide +kernel) (by decide +kernel), by decide +kernel, by decide +kernel, by decide +kernel⟩, x_in0 444 (by decide +kernel) (by decide +kernel), x_in0 445 (by decide +kernel) (by decide +kernel)⟩
theorem qX9_tell : x_MV mX9_tell 0 := ⟨⟨by decide +kernel, rfl, x_in0 68 (by decide +kernel) (by decide +kernel), x_in0 566 (by decide +kernel) (by decide +kernel), by decide +kernel, by decide +kernel, by decide +kernel⟩, x_in0 564 (by decide +kernel) (by decide +kernel), x_in0 565 (by decide +kernel) (by decide +kernel)⟩
theorem qX9_doClause : x_MV mX9_doClause 1 := ⟨⟨by decide +kernel, rfl, x_in0 68 (by decide +kernel) (by decide +kernel), x_in0 570 (by decide +kernel) (by decide +kernel), by decide +kernel, by decide +kernel, by decide +kernel⟩, x_in0 569 (by decide +kernel) (by decide +kernel), x_in0 10 (by decide +kernel) (by decide +kernel)⟩
theorem qX9_link : x_MV mX9_link 2 := ⟨⟨by decide +kernel, rfl, x_in0 68 (by decide +kernel) (by decide +kernel), x_in0 607 (by decide +kernel) (by decide +kernel), by decide +kernel, by decide +kernel, by decide +kernel⟩, x_in0 605 (by decide +kernel) (by decide +kernel), x_in0 606 (by decide +kernel) (by decide +kernel)⟩
theorem qX9_fail : x_MV mX9_fail 1 := ⟨⟨by decide +kernel, rfl, x_in0 68 (by decide +kernel) (by decide +kernel), x_in0 619 (by decide +kernel) (by decide +kernel), by decide +kernel, by decide +kernel, by decide +kernel⟩, x_in0 617 (by decide +kernel) (by decide +kernel), x_in0 618 (by decide +kernel) (by decide +kernel)⟩
theorem qX9_heal : x_MV mX9_heal 1 := ⟨⟨by decide +kernel, rfl, x_in0 68 (by decide +kernel) (by decide +kernel), x_in0 642 (by decide +kernel) (by decide +kernel), by decide +kernel, by decide +kernel, by decide +kernel⟩, x_in0 640 (by decide +kernel) (by decide +kernel), x_in0 641 (by decide +kernel) (by decide +kernel)⟩
theorem qX9_turn : x_MV mX9_turn 1 := ⟨⟨by decide +kernel, rfl, x_in0 68 (by decide +kernel) (by decide +kernel), x_in0 623 (by decide +kernel) (by decide +kernel), by decide +kernel, by decide +kernel, by decide +kernel⟩, x_in0 622 (by decide +kernel) (by decide +kernel), x_in0 12 (by decide +kernel) (by decide +kernel)⟩
theorem qX9_tune : x_MV mX9_tune 3 := ⟨⟨by decide +kernel, rfl, x_in0 68 (by decide +kernel) (by decide +kernel), x_in0 646 (by decide +kernel) (by decide +kernel), by decide +kernel, by decide +kernel, by decide +kernel⟩, x_in0 644 (by decide +kernel) (by decide +kernel), x_in0 645 (by decide +kernel) (by decide +kernel)⟩
theorem qX9_learn : x_MV mX9_learn 1 := ⟨⟨by decide +kernel, rfl, x_in0 68 (by decide +kernel) (by decide +kernel), x_in0 654 (by decide +kernel) (by decide +kernel), by decide +kernel, by decide +kernel, by decide +kernel⟩, x_in0 652 (by decide +kernel) (by decide +kernel), x_in0 653 (by decide +kernel) (by decide +kernel)⟩
theorem qX9_undo : x_MV mX9_undo 0 := ⟨⟨by decide +kernel, rfl, x_in0 68 (by decide +kernel) (by decide +kernel), x_in0 666 (by decide +kernel) (by decide +kernel), by decide +kernel, by decide +kernel, by decide +kernel⟩, x_in0 664 (by decide +kernel) (by decide +kernel), x_in0 665 (by decide +kernel) (by decide +kernel)⟩
theorem qX9_seen : x_MV mX9_seen 1 := ⟨⟨by decide +kernel, rfl, x_in0 68 (by decide +kernel) (by decide +kernel), x_in0 674 (by decide +kernel) (by decide +kernel), by decide +kernel, by decide +kernel, by decide +kernel⟩, x_in0 672 (by decide +kernel) (by decide +kernel), x_in0 673 (by decide +kernel) (by decide +kernel)⟩
theorem qX9_next : x_MV mX9_next 3 := ⟨⟨by decide +kernel, rfl, x_in0 68 (by decide +kernel) (by decide +kernel), x_in0 678 (by decide +kernel) (by decide +kernel), by decide +kernel, by decide +kernel, by decide +kernel⟩, x_in0 676 (by decide +kernel) (by decide +kernel), x_in0 677 (by decide +kernel) (by decide +kernel)⟩
theorem qX9_far : x_MV mX9_far 3 := ⟨⟨by decide +kernel, rfl, x_in0 68 (by decide +kernel) (by decide +kernel), x_in0 702 (by decide +kernel) (by decide +kernel), by decide +kernel, by decide +kernel, by decide +kernel⟩, x_in0 700 (by decide +kernel) (by decide +kernel), x_in0 701 (by decide +kernel) (by decide +kernel)⟩
theorem qX9_space : x_MV mX9_space 3 := ⟨⟨by decide +kernel, rfl, x_in0 68 (by decide +kernel) (by decide +kernel), x_in0 710 (by decide +kernel) (by decide +kernel), by decide +kernel, by decide +kernel, by decide +kernel⟩, x_in0 708 (by decide +kernel) (by decide +kernel), x_in0 709 (by decide +kernel) (by decide +kernel)⟩
theorem qX9_rings : x_MV mX9_rings 1 := ⟨⟨by decide +kernel, rfl, x_in0 68 (by decide +kernel) (by decide +kernel), x_in0 719 (by decide +kernel) (by decide +kernel), by decide +kernel, by decide +kernel, by decide +kernel⟩, x_in0 717 (by decide +kernel) (by decide +kernel), x_in0 718 (by decide +kernel) (by decide +kernel)⟩
theorem qX9_safe : x_MV mX9_safe 1 := ⟨⟨by decide +kernel, rfl, x_in0 68 (by decide +kernel) (by decide +kernel), x_in0 737 (by decide +kernel) (by decide +kernel), by decide +kernel, by decide +kernel, by decide +kernel⟩, x_in0 735 (by decide +kernel) (by decide +kernel), x_in0 736 (by decide +kernel) (by decide +kernel)⟩
theorem qX9_order : x_MV mX9_order 1 := ⟨⟨by decide +kernel, rfl, x_in0 68 (by decide +kernel) (by decide +kernel), x_in0 751 (by decide +kernel) (by decide +kernel), by decide +kernel, by decide +kernel, by decide +kernel⟩, x_in0 749 (by decide +kernel) (by decide +kernel), x_in0 750 (by decide +kernel) (by decide +kernel)⟩
theorem qX9_push : x_MV mX9_push 2 := ⟨⟨by decide +kernel, rfl, x_in0 68 (by decide +kernel) (by decide +kernel), x_in0 781 (by decide +kernel) (by decide +kernel), by decide +kernel, by decide +kernel, by decide +kernel⟩, x_in0 779 (by decide +kernel) (by decide +kernel), x_in0 780 (by decide +kernel) (by decide +kernel)⟩
theorem qX9_clear : x_MV mX9_clear 0 := ⟨⟨by decide +kernel, rfl, x_in0 68 (by decide +kernel) (by decide +kernel), x_in0 789 (by decide +kernel) (by decide +kernel), by decide +kernel, by decide +kernel, by decide +kernel⟩, x_in0 787 (by decide +kernel) (by decide +kernel), x_in0 788 (by decide +kernel) (by decide +kernel)⟩
theorem qX9_segment : x_MV mX9_segment 2 := ⟨⟨by decide +kernel, rfl, x_in0 68 (by decide +kernel) (by decide +kernel), x_in0 793 (by decide +kernel) (by decide +kernel), by decide +kernel, by decide +kernel, by decide +kernel⟩, x_in0 791 (by decide +kernel) (by decide +kernel), x_in0 792 (by decide +kernel) (by decide +kernel)⟩
theorem qX9_repair : x_MV mX9_repair 4 := ⟨⟨by decide +kernel, rfl, x_in0 68 (by decide +kernel) (by decide +kernel), x_in0 797 (by decide +kernel) (by decide +kernel), by decide +kernel, by decide +kernel, by decide +kernel⟩, x_in0 795 (by decide +kernel) (by decide +kernel), x_in0 796 (by decide +kernel) (by decide +kernel)⟩
theorem qX9_trace : x_MV mX9_trace 1 := ⟨⟨by decide +kernel, rfl, x_in0 68 (by decide +kernel) (by decide +kernel), x_in0 842 (by decide +kernel) (by decide +kernel), by decide +kernel, by decide +kernel, by decide +kernel⟩, x_in0 840 (by decide +kernel) (by decide +kernel), x_in0 841 (by decide +kernel) (by decide +kernel)⟩
theorem qX9_untrace : x_MV mX9_untrace 0 := ⟨⟨by decide +kernel, rfl, x_in0 68 (by decide +kernel) (by decide +kernel), x_in0 853 (by decide +kernel) (by decide +kernel), by decide +kernel, by decide +kernel, by decide +kernel⟩, x_in0 851 (by decide +kernel) (by decide +kernel), x_in0 852 (by decide +kernel) (by decide +kernel)⟩
theorem qX9_brief : x_MV mX9_brief 1 := ⟨⟨by decide +kernel, rfl, x_in0 68 (by decide +kernel) (by decide +kernel), x_in0 857 (by decide +kernel) (by decide +kernel), by decide +kernel, by decide +kernel, by decide +kernel⟩, x_in0 855 (by decide +kernel) (by decide +kernel), x_in0 856 (by decide +kernel) (by decide +kernel)⟩
theorem qX9_adopt : x_MV mX9_adopt 0 := ⟨⟨by decide +kernel, rfl, x_in0 68 (by decide +kernel) (by decide +kernel), x_in0 870 (by decide +kernel) (by decide +kernel), by decide +kernel, by decide +kernel, by decide +kernel⟩, x_in0 868 (by decide +kernel) (by decide +kernel), x_in0 869 (by decide +kernel) (by decide +kernel)⟩
theorem qX9_protect : x_MV mX9_protect 1 := ⟨⟨by decide +kernel, rfl, x_in0 68 (by decide +kernel) (by decide +kernel), x_in0 879 (by decide +kernel) (by decide +kernel), by decide +kernel, by decide +kernel, by decide +kernel⟩, x_in0 877 (by decide +kernel) (by decide +kernel), x_in0 878 (by decide +kernel) (by decide +kernel)⟩
theorem qX9_send : x_MV mX9_send 1 := ⟨⟨by decide +kernel, rfl, x_in0 68 (by decide +kernel) (by decide +kernel), x_in0 883 (by decide +kernel) (by decide +kernel), by decide +kernel, by decide +kernel, by decide +kernel⟩, x_in0 881 (by decide +kernel) (by decide +kernel), x_in0 882 (by decide +kernel) (by decide +kernel)⟩
theorem qX9_way : x_MV mX9_way 1 := ⟨⟨by decide +kernel, rfl, x_in0 68 (by decide +kernel) (by decide +kernel), x_in0 952 (by decide +kernel) (by decide +kernel), by decide +kernel, by decide +kernel, by decide +kernel⟩, x_in0 950 (by decide +kernel) (by decide +kernel), x_in0 951 (by decide +kernel) (by decide +kernel)⟩
theorem qX9_count : x_MV mX9_count 1 := ⟨⟨by decide +kernel, rfl, x_in0 68 (by decide +kernel) (by decide +kernel), x_in0 957 (by decide +kernel) (by decide +kernel), by decide +kernel, by decide +kernel, by decide +kernel⟩, x_in0 955 (by decide +kernel) (by decide +kernel), x_in0 956 (by decide +kernel) (by decide +kernel)⟩
theorem qX10_init : x_MC mX10_init 0 := ⟨⟨by decide +kernel, rfl, x_in0 79 (by decide +kernel) (by decide +kernel), x_in0 967 (by decide +kernel) (by decide +kernel), by decide +kernel, by decide +kernel, by decide +kernel⟩, x_in0 966 (by decide +kernel) (by decide +kernel), rfl, rfl⟩
theorem qX10_in : x_MS mX10_in 3 := ⟨⟨by decide +kernel, rfl, x_in0 79 (by decide +kernel) (by decide +kernel), x_in0 1111 (by decide +kernel) (by decide +kernel), by decide +kernel, by decide +kernel, by decide +kernel⟩, x_in0 1110 (by decide +kernel) (by decide +kernel)⟩
theorem qX10_has : x_MS mX10_has 2 := ⟨⟨by decide +kernel, rfl, x_in0 79 (by decide +kernel) (by decide +kernel), x_in0 1225 (by decide +kernel) (by decide +kernel), by decide +kernel, by decide +kernel, by decide +kernel⟩, x_in0 1224 (by decide +kernel) (by decide +kernel)⟩
theorem qX10_ones : x_MS mX10_ones 1 := ⟨⟨by decide +kernel, rfl, x_in0 79 (by decide +kernel) (by decide +kernel), x_in0 1190 (by decide +kernel) (by decide +kernel), by decide +kernel, by decide +kernel, by decide +kernel⟩, x_in0 1189 (by decide +kernel) (by decide +kernel)⟩
theorem qX10_isNode : x_MV mX10_isNode 1 := ⟨⟨by decide +kernel, rfl, x_in0 79 (by decide +kernel) (by decide +kernel), x_in0 1206 (by decide +kernel) (by decide +kernel), by decide +kernel, by decide +kernel, by decide +kernel⟩, x_in0 1205 (by decide +kernel) (by decide +kernel), x_in0 43 (by decide +kernel) (by decide +kernel)⟩
theorem qX10_isLink : x_MV mX10_isLink 1 := ⟨⟨by decide +kernel, rfl, x_in0 79 (by decide +kernel) (by decide +kernel), x_in0 1175 (by decide +kernel) (by decide +kernel), by decide +kernel, by decide +kernel, by decide +kernel⟩, x_in0 1174 (by decide +kernel) (by decide +kernel), x_in0 40 (by decide +kernel) (by decide +kernel)⟩
theorem qX10_linkOf : x_MV mX10_linkOf 2 := ⟨⟨by decide +kernel, rfl, x_in0 79 (by decide +kernel) (by decide +kernel), x_in0 1237 (by decide +kernel) (by decide +kernel), by decide +kernel, by decide +kernel, by decide +kernel⟩, x_in0 1236 (by decide +kernel) (by decide +kernel), x_in0 47 (by decide +kernel) (by decide +kernel)⟩
theorem qX10_otherEnd : x_MV mX10_otherEnd 2 := ⟨⟨by decide +kernel, rfl, x_in0 79 (by decide +kernel) (by decide +kernel), x_in0 1369 (by decide +kernel) (by decide +kernel), by decide +kernel, by decide +kernel, by decide +kernel⟩, x_in0 1368 (by decide +kernel) (by decide +kernel), x_in0 65 (by decide +kernel) (by decide +kernel)⟩
theorem qX10_length : x_MV mX10_length 2 := ⟨⟨by decide +kernel, rfl, x_in0 79 (by decide +kernel) (by decide +kernel), x_in0 1229 (by decide +kernel) (by decide +kernel), by decide +kernel, by decide +kernel, by decide +kernel⟩, x_in0 1228 (by decide +kernel) (by decide +kernel), x_in0 45 (by decide +kernel) (by decide +kernel)⟩
theorem qX10_lays : x_MV mX10_lays 2 := ⟨⟨by decide +kernel, rfl, x_in0 79 (by decide +kernel) (by decide +kernel), x_in0 1222 (by decide +kernel) (by decide +kernel), by decide +kernel, by decide +kernel, by decide +kernel⟩, x_in0 1221 (by decide +kernel) (by decide +kernel), x_in0 44 (by decide +kernel) (by decide +kernel)⟩
theorem qX10_nextOf : x_MV mX10_nextOf 4 := ⟨⟨by decide +kernel, rfl, x_in0 79 (by decide +kernel) (by decide +kernel), x_in0 1233 (by decide +kernel) (by decide +kernel), by decide +kernel, by decide +kernel, by decide +kernel⟩, x_in0 1232 (by decide +kernel) (by decide +kernel), x_in0 46 (by decide +kernel) (by decide +kernel)⟩
theorem qX10_walks : x_MV mX10_walks 4 := ⟨⟨by decide +kernel, rfl, x_in0 79 (by decide +kernel) (by decide +kernel), x_in0 1249 (by decide +kernel) (by decide +kernel), by decide +kernel, by decide +kernel, by decide +kernel⟩, x_in0 1248 (by decide +kernel) (by decide +kernel), x_in0 48 (by decide +kernel) (by decide +kernel)⟩
theorem qX10_isOver : x_MV mX10_isOver 1 := ⟨⟨by decide +kernel, rfl, x_in0 79 (by decide +kernel) (by decide +kernel), x_in0 1253 (by decide +kernel) (by decide +kernel), by decide +kernel, by decide +kernel, by decide +kernel⟩, x_in0 1252 (by decide +kernel) (by decide +kernel), x_in0 49 (by decide +kernel) (by decide +kernel)⟩
theorem qX10_leads : x_MV mX10_leads 5 := ⟨⟨by decide +kernel, rfl, x_in0 79 (by decide +kernel) (by decide +kernel), x_in0 1317 (by decide +kernel) (by decide +kernel), by decide +kernel, by decide +kernel, by decide +kernel⟩, x_in0 1316 (by decide +kernel) (by decide +kernel), x_in0 58 (by decide +kernel) (by decide +kernel)⟩
theorem qX10_laysBy : x_MV mX10_laysBy 4 := ⟨⟨by decide +kernel, rfl, x_in0 79 (by decide +kernel) (by decide +kernel), x_in0 1313 (by decide +kernel) (by decide +kernel), by decide +kernel, by decide +kernel, by decide +kernel⟩, x_in0 1312 (by decide +kernel) (by decide +kernel), x_in0 57 (by decide +kernel) (by decide +kernel)⟩
theorem qX10_shortens : x_MV mX10_shortens 4 := ⟨⟨by decide +kernel, rfl, x_in0 79 (by decide +kernel) (by decide +kernel), x_in0 1309 (by decide +kernel) (by decide +kernel), by decide +kernel, by decide +kernel, by decide +kernel⟩, x_in0 1308 (by decide +kernel) (by decide +kernel), x_in0 56 (by decide +kernel) (by decide +kernel)⟩
theorem qX10_repairs : x_MV mX10_repairs 3 := ⟨⟨by decide +kernel, rfl, x_in0 79 (by decide +kernel) (by decide +kernel), x_in0 1305 (by decide +kernel) (by decide +kernel), by decide +kernel, by decide +kernel, by decide +kernel⟩, x_in0 1304 (by decide +kernel) (by decide +kernel), x_in0 55 (by decide +kernel) (by decide +kernel)⟩
theorem qX10_shortAt : x_MV mX10_shortAt 1 := ⟨⟨by decide +kernel, rfl, x_in0 79 (by decide +kernel) (by decide +kernel), x_in0 1321 (by decide +kernel) (by decide +kernel), by decide +kernel, by decide +kernel, by decide +kernel⟩, x_in0 1320 (by decide +kernel) (by decide +kernel), x_in0 59 (by decide +kernel) (by decide +kernel)⟩
theorem qX10_write : x_MV mX10_write 1 := ⟨⟨by decide +kernel, rfl, x_in0 79 (by decide +kernel) (by decide +kernel), x_in0 1108 (by decide +kernel) (by decide +kernel), by decide +kernel, by decide +kernel, by decide +kernel⟩, x_in0 1106 (by decide +kernel) (by decide +kernel), x_in0 1107 (by decide +kernel) (by decide +kernel)⟩
theorem qX10_erase : x_MV mX10_erase 0 := ⟨⟨by decide +kernel, rfl, x_in0 79 (by decide +kernel) (by decide +kernel), x_in0 1115 (by decide +kernel) (by decide +kernel), by decide +kernel, by decide +kernel, by decide +kernel⟩, x_in0 1113 (by decide +kernel) (by decide +kernel), x_in0 1114 (by decide +kernel) (by decide +kernel)⟩
theorem qX10_isLetter : x_MV mX10_isLetter 1 := ⟨⟨by decide +kernel, rfl, x_in0 79 (by decide +kernel) (by decide +kernel), x_in0 1135 (by decide +kernel) (by decide +kernel), by decide +kernel, by decide +kernel, by decide +kernel⟩, x_in0 1134 (by decide +kernel) (by decide +kernel), x_in0 32 (by decide +kernel) (by decide +kernel)⟩
theorem qX10_isFigure : x_MV mX10_isFigure 1 := ⟨⟨by decide +kernel, rfl, x_in0 79 (by decide +kernel) (by decide +kernel), x_in0 1139 (by decide +kernel) (by decide +kernel), by decide +kernel, by decide +kernel, by decide +kernel⟩, x_in0 1138 (by decide +kernel) (by decide +kernel), x_in0 33 (by decide +kernel) (by decide +kernel)⟩
theorem qX10_looks : x_MV mX10_looks 0 := ⟨⟨by decide +kernel, rfl, x_in0 79 (by decide +kernel) (by decide +kernel), x_in0 1131 (by decide +kernel) (by decide +kernel), by decide +kernel, by decide +kernel, by decide +kernel⟩, x_in0 1130 (by decide +kernel) (by decide +kernel), x_in0 31 (by decide +kernel) (by decide +kernel)⟩
theorem qX10_takes : x_MV mX10_takes 1 := ⟨⟨by decide +kernel, rfl, x_in0 79 (by decide +kernel) (by decide +kernel), x_in0 1147 (by decide +kernel) (by decide +kernel), by decide +kernel, by decide +kernel, by decide +kernel⟩, x_in0 1146 (by decide +kernel) (by decide +kernel), x_in0 35 (by decide +kernel) (by decide +kernel)⟩
theorem qX10_figure : x_MV mX10_figure 2 := ⟨⟨by decide +kernel, rfl, x_in0 79 (by decide +kernel) (by decide +kernel), x_in0 1155 (by decide +kernel) (by decide +kernel), by decide +kernel, by decide +kernel, by decide +kernel⟩, x_in0 1154 (by decide +kernel) (by decide +kernel), x_in0 37 (by decide +kernel) (by decide +kernel)⟩
theorem qX10_readLinkOf : x_MV mX10_readLinkOf 2 := ⟨⟨by decide +kernel, rfl, x_in0 79 (by decide +kernel) (by decide +kernel), x_in0 1163 (by decide +kernel) (by decide +kernel), by decide +kernel, by decide +kernel, by decide +kernel⟩, x_in0 1162 (by decide +kernel) (by decide +kernel), x_in0 39 (by decide +kernel) (by decide +kernel)⟩
theorem qX10_isName : x_MV mX10_isName 5 := ⟨⟨by decide +kernel, rfl, x_in0 79 (by decide +kernel) (by decide +kernel), x_in0 1143 (by decide +kernel) (by decide +kernel), by decide +kernel, by decide +kernel, by decide +kernel⟩, x_in0 1142 (by decide +kernel) (by decide +kernel), x_in0 34 (by decide +kernel) (by decide +kernel)⟩
theorem qX10_readsNodes : x_MV mX10_readsNodes 0 := ⟨⟨by decide +kernel, rfl, x_in0 79 (by decide +kernel) (by decide +kernel), x_in0 1151 (by decide +kernel) (by decide +kernel), by decide +kernel, by decide +kernel, by decide +kernel⟩, x_in0 1150 (by decide +kernel) (by decide +kernel), x_in0 36 (by decide +kernel) (by decide +kernel)⟩
theorem qX10_readsLink : x_MV mX10_readsLink 0 := ⟨⟨by decide +kernel, rfl, x_in0 79 (by decide +kernel) (by decide +kernel), x_in0 1159 (by decide +kernel) (by decide +kernel), by decide +kernel, by decide +kernel, by decide +kernel⟩, x_in0 1158 (by decide +kernel) (by decide +kernel), x_in0 38 (by decide +kernel) (by decide +kernel)⟩
theorem qX10_clause : x_MV mX10_clause 0 := ⟨⟨by decide +kernel, rfl, x_in0 79 (by decide +kernel) (by decide +kernel), x_in0 1127 (by decide +kernel) (by decide +kernel), by decide +kernel, by decide +kernel, by decide +kernel⟩, x_in0 1126 (by decide +kernel) (by decide +kernel), x_in0 30 (by decide +kernel) (by decide +kernel)⟩
theorem qX10_reads : x_MV mX10_reads 1 := ⟨⟨by decide +kernel, rfl, x_in0 79 (by decide +kernel) (by decide +kernel), x_in0 1123 (by decide +kernel) (by decide +kernel), by decide +kernel, by decide +kernel, by decide +kernel⟩, x_in0 1122 (by decide +kernel) (by decide +kernel), x_in0 29 (by decide +kernel) (by decide +kernel)⟩
theorem qX10_fault : x_MV mX10_fault 0 := ⟨⟨by decide +kernel, rfl, x_in0 79 (by decide +kernel) (by decide +kernel), x_in0 1119 (by decide +kernel) (by decide +kernel), by decide +kernel, by decide +kernel, by decide +kernel⟩, x_in0 1117 (by decide +kernel) (by decide +kernel), x_in0 1118 (by decide +kernel) (by decide +kernel)⟩
theorem qX10_tell : x_MV mX10_tell 0 := ⟨⟨by decide +kernel, rfl, x_in0 79 (by decide +kernel) (by decide +kernel), x_in0 1167 (by decide +kernel) (by decide +kernel), by decide +kernel, by decide +kernel, by decide +kernel⟩, x_in0 1165 (by decide +kernel) (by decide +kernel), x_in0 1166 (by decide +kernel) (by decide +kernel)⟩
theorem qX10_link : x_MV mX10_link 2 := ⟨⟨by decide +kernel, rfl, x_in0 79 (by decide +kernel) (by decide +kernel), x_in0 1171 (by decide +kernel) (by decide +kernel), by decide +kernel, by decide +kernel, by decide +kernel⟩, x_in0 1169 (by decide +kernel) (by decide +kernel), x_in0 1170 (by decide +kernel) (by decide +kernel)⟩
theorem qX10_notes : x_MV mX10_notes 0 := ⟨⟨by decide +kernel, rfl, x_in0 79 (by decide +kernel) (by decide +kernel), x_in0 1187 (by decide +kernel) (by decide +kernel), by decide +kernel, by decide +kernel, by decide +kernel⟩, x_in0 1186 (by decide +kernel) (by decide +kernel), x_in0 42 (by decide +kernel) (by decide +kernel)⟩
theorem qX10_becomesUp : x_MV mX10_becomesUp 2 := ⟨⟨by decide +kernel, rfl, x_in0 79 (by decide +kernel) (by decide +kernel), x_in0 1183 (by decide +kernel) (by decide +kernel), by decide +kernel, by decide +kernel, by decide +kernel⟩, x_in0 1182 (by decide +kernel) (by decide +kernel), x_in0 41 (by decide +kernel) (by decide +kernel)⟩
theorem qX10_fail : x_MV mX10_fail 1 := ⟨⟨by decide +kernel, rfl, x_in0 79 (by decide +kernel) (by decide +kernel), x_in0 1179 (by decide +kernel) (by decide +kernel), by decide +kernel, by decide +kernel, by decide +kernel⟩, x_in0 1177 (by decide +kernel) (by decide +kernel), x_in0 1178 (by decide +kernel) (by decide +kernel)⟩
theorem qX10_heal : x_MV mX10_heal 1 := ⟨⟨by decide +kernel, rfl, x_in0 79 (by decide +kernel) (by decide +kernel), x_in0 1194 (by decide +kernel) (by decide +kernel), by decide +kernel, by decide +kernel, by decide +kernel⟩, x_in0 1192 (by decide +kernel) (by decide +kernel), x_in0 1193 (by decide +kernel) (by decide +kernel)⟩
theorem qX10_tune : x_MV mX10_tune 3 := ⟨⟨by decide +kernel, rfl, x_in0 79 (by decide +kernel) (by decide +kernel), x_in0 1198 (by decide +kernel) (by decide +kernel), by decide +kernel, by decide +kernel, by decide +kernel⟩, x_in0 1196 (by decide +kernel) (by decide +kernel), x_in0 1197 (by decide +kernel) (by decide +kernel)⟩
theorem qX10_learn : x_MV mX10_learn 1 := ⟨⟨by decide +kernel, rfl, x_in0 79 (by decide +kernel) (by decide +kernel), x_in0 1202 (by decide +kernel) (by decide +kernel), by decide +kernel, by decide +kernel, by decide +kernel⟩, x_in0 1200 (by decide +kernel) (by decide +kernel), x_in0 1201 (by decide +kernel) (by decide +kernel)⟩
theorem qX10_undo : x_MV mX10_undo 0 := ⟨⟨by decide +kernel, rfl, x_in0 79 (by decide +kernel) (by decide +kernel), x_in0 1210 (by decide +kernel) (by decide +kernel), by decide +kernel, by decide +kernel, by decide +kernel⟩, x_in0 1208 (by decide +kernel) (by decide +kernel), x_in0 1209 (by decide +kernel) (by decide +kernel)⟩
theorem qX10_seen : x_MV mX10_seen 1 := ⟨⟨by decide +kernel, rfl, x_in0 79 (by decide +kernel) (by decide +kernel), x_in0 1214 (by decide +kernel) (by decide +kernel), by decide +kernel, by decide +kernel, by decide +kernel⟩, x_in0 1212 (by decide +kernel) (by decide +kernel), x_in0 1213 (by decide +kernel) (by decide +kernel)⟩
theorem qX10_next : x_MV mX10_next 3 := ⟨⟨by decide +kernel, rfl, x_in0 79 (by decide +kernel) (by decide +kernel), x_in0 1218 (by decide +kernel) (by decide +kernel), by decide +kernel, by decide +kernel, by decide +kernel⟩, x_in0 1216 (by decide +kernel) (by decide +kernel), x_in0 1217 (by decide +kernel) (by decide +kernel)⟩
theorem qX10_far : x_MV mX10_far 3 := ⟨⟨by decide +kernel, rfl, x_in0 79 (by decide +kernel) (by decide +kernel), x_in0 1241 (by decide +kernel) (by decide +kernel), by decide +kernel, by decide +kernel, by decide +kernel⟩, x_in0 1239 (by decide +kernel) (by decide +kernel), x_in0 1240 (by decide +kernel) (by decide +kernel)⟩
theorem qX10_space : x_MV mX10_space 3 := ⟨⟨by decide +kernel, rfl, x_in0 79 (by decide +kernel) (by decide +kernel), x_in0 1245 (by decide +kernel) (by decide +kernel), by decide +kernel, by decide +kernel, by decide +kernel⟩, x_in0 1243 (by decide +kernel) (by decide +kernel), x_in0 1244 (by decide +kernel) (by decide +kernel)⟩
theorem qX10_laysGoes : x_MV mX10_laysGoes 0 := ⟨⟨by decide +kernel, rfl, x_in0 79 (by decide +kernel) (by decide +kernel), x_in0 1261 (by decide +kernel) (by decide +kernel), by decide +kernel, by decide +kernel, by decide +kernel⟩, x_in0 1260 (by decide +kernel) (by decide +kernel), x_in0 50 (by decide +kernel) (by decide +kernel)⟩
theorem qX10_ringsOf : x_MV mX10_ringsOf 2 := ⟨⟨by decide +kernel, rfl, x_in0 79 (by decide +kernel) (by decide +kernel), x_in0 1265 (by decide +kernel) (by decide +kernel), by decide +kernel, by decide +kernel, by decide +kernel⟩, x_in0 1264 (by decide +kernel) (by decide +kernel), x_in0 51 (by decide +kernel) (by decide +kernel)⟩
theorem qX10_isSafe : x_MV mX10_isSafe 1 := ⟨⟨by decide +kernel, rfl, x_in0 79 (by decide +kernel) (by decide +kernel), x_in0 1273 (by decide +kernel) (by decide +kernel), by decide +kernel, by decide +kernel, by decide +kernel⟩, x_in0 1272 (by decide +kernel) (by decide +kernel), x_in0 52 (by decide +kernel) (by decide +kernel)⟩
theorem qX10_rings : x_MV mX10_rings 1 := ⟨⟨by decide +kernel, rfl, x_in0 79 (by decide +kernel) (by decide +kernel), x_in0 1257 (by decide +kernel) (by decide +kernel), by decide +kernel, by decide +kernel, by decide +kernel⟩, x_in0 1255 (by decide +kernel) (by decide +kernel), x_in0 1256 (by decide +kernel) (by decide +kernel)⟩
theorem qX10_safe : x_MV mX10_safe 1 := ⟨⟨by decide +kernel, rfl, x_in0 79 (by decide +kernel) (by decide +kernel), x_in0 1269 (by decide +kernel) (by decide +kernel), by decide +kernel, by decide +kernel, by decide +kernel⟩, x_in0 1267 (by decide +kernel) (by decide +kernel), x_in0 1268 (by decide +kernel) (by decide +kernel)⟩
theorem qX10_behind : x_MV mX10_behind 0 := ⟨⟨by decide +kernel, rfl, x_in0 79 (by decide +kernel) (by decide +kernel), x_in0 1281 (by decide +kernel) (by decide +kernel), by decide +kernel, by decide +kernel, by decide +kernel⟩, x_in0 1280 (by decide +kernel) (by decide +kernel), x_in0 53 (by decide +kernel) (by decide +kernel)⟩
theorem qX10_laysOrders : x_MV mX10_laysOrders 1 := ⟨⟨by decide +kernel, rfl, x_in0 79 (by decide +kernel) (by decide +kernel), x_in0 1285 (by decide +kernel) (by decide +kernel), by decide +kernel, by decide +kernel, by decide +kernel⟩, x_in0 1284 (by decide +kernel) (by decide +kernel), x_in0 54 (by decide +kernel) (by decide +kernel)⟩
theorem qX10_order : x_MV mX10_order 1 := ⟨⟨by decide +kernel, rfl, x_in0 79 (by decide +kernel) (by decide +kernel), x_in0 1277 (by decide +kernel) (by decide +kernel), by decide +kernel, by decide +kernel, by decide +kernel⟩, x_in0 1275 (by decide +kernel) (by decide +kernel), x_in0 1276 (by decide +kernel) (by decide +kernel)⟩
theorem qX10_push : x_MV mX10_push 2 := ⟨⟨by decide +kernel, rfl, x_in0 79 (by decide +kernel) (by decide +kernel), x_in0 1289 (by decide +kernel) (by decide +kernel), by decide +kernel, by decide +kernel, by decide +kernel⟩, x_in0 1287 (by decide +kernel) (by decide +kernel), x_in0 1288 (by decide +kernel) (by decide +kernel)⟩
theorem qX10_clear : x_MV mX10_clear 0 := ⟨⟨by decide +kernel, rfl, x_in0 79 (by decide +kernel) (by decide +kernel), x_in0 1293 (by decide +kernel) (by decide +kernel), by decide +kernel, by decide +kernel, by decide +kernel⟩, x_in0 1291 (by decide +kernel) (by decide +kernel), x_in0 1292 (by decide +kernel) (by decide +kernel)⟩
theorem qX10_segment : x_MV mX10_segment 2 := ⟨⟨by decide +kernel, rfl, x_in0 79 (by decide +kernel) (by decide +kernel), x_in0 1297 (by decide +kernel) (by decide +kernel), by decide +kernel, by decide +kernel, by decide +kernel⟩, x_in0 1295 (by decide +kernel) (by decide +kernel), x_in0 1296 (by decide +kernel) (by decide +kernel)⟩
theorem qX10_repair : x_MV mX10_repair 4 := ⟨⟨by decide +kernel, rfl, x_in0 79 (by decide +kernel) (by decide +kernel), x_in0 1301 (by decide +kernel) (by decide +kernel), by decide +kernel, by decide +kernel, by decide +kernel⟩, x_in0 1299 (by decide +kernel) (by decide +kernel), x_in0 1300 (by decide +kernel) (by decide +kernel)⟩
theorem qX10_trace : x_MV mX10_trace 1 := ⟨⟨by decide +kernel, rfl, x_in0 79 (by decide +kernel) (by decide +kernel), x_in0 1325 (by decide +kernel) (by decide +kernel), by decide +kernel, by decide +kernel, by decide +kernel⟩, x_in0 1323 (by decide +kernel) (by decide +kernel), x_in0 1324 (by decide +kernel) (by decide +kernel)⟩
theorem qX10_untrace : x_MV mX10_untrace 0 := ⟨⟨by decide +kernel, rfl, x_in0 79 (by decide +kernel) (by decide +kernel), x_in0 1329 (by decide +kernel) (by decide +kernel), by decide +kernel, by decide +kernel, by decide +kernel⟩, x_in0 1327 (by decide +kernel) (by decide +kernel), x_in0 1328 (by decide +kernel) (by decide +kernel)⟩
theorem qX10_briefs : x_MV mX10_briefs 0 := ⟨⟨by decide +kernel, rfl, x_in0 79 (by decide +kernel) (by decide +kernel), x_in0 1337 (by decide +kernel) (by decide +kernel), by decide +kernel, by decide +kernel, by decide +kernel⟩, x_in0 1336 (by decide +kernel) (by decide +kernel), x_in0 60 (by decide +kernel) (by decide +kernel)⟩
theorem qX10_brief : x_MV mX10_brief 1 := ⟨⟨by decide +kernel, rfl, x_in0 79 (by decide +kernel) (by decide +kernel), x_in0 1333 (by decide +kernel) (by decide +kernel), by decide +kernel, by decide +kernel, by decide +kernel⟩, x_in0 1331 (by decide +kernel) (by decide +kernel), x_in0 1332 (by decide +kernel) (by decide +kernel)⟩
theorem qX10_adopt : x_MV mX10_adopt 0 := ⟨⟨by decide +kernel, rfl, x_in0 79 (by decide +kernel) (by decide +kernel), x_in0 1341 (by decide +kernel) (by decide +kernel), by decide +kernel, by decide +kernel, by decide +kernel⟩, x_in0 1339 (by decide +kernel) (by decide +kernel), x_in0 1340 (by decide +kernel) (by decide +kernel)⟩
theorem qX10_protect : x_MV mX10_protect 1 := ⟨⟨by decide +kernel, rfl, x_in0 79 (by decide +kernel) (by decide +kernel), x_in0 1345 (by decide +kernel) (by decide +kernel), by decide +kernel, by decide +kernel, by decide +kernel⟩, x_in0 1343 (by decide +kernel) (by decide +kernel), x_in0 1344 (by decide +kernel) (by decide +kernel)⟩
theorem qX10_bears : x_MV mX10_bears 2 := ⟨⟨by decide +kernel, rfl, x_in0 79 (by decide +kernel) (by decide +kernel), x_in0 1353 (by decide +kernel) (by decide +kernel), by decide +kernel, by decide +kernel, by decide +kernel⟩, x_in0 1352 (by decide +kernel) (by decide +kernel), x_in0 61 (by decide +kernel) (by decide +kernel)⟩
theorem qX10_mends : x_MV mX10_mends 2 := ⟨⟨by decide +kernel, rfl, x_in0 79 (by decide +kernel) (by decide +kernel), x_in0 1373 (by decide +kernel) (by decide +kernel), by decide +kernel, by decide +kernel, by decide +kernel⟩, x_in0 1372 (by decide +kernel) (by decide +kernel), x_in0 66 (by decide +kernel) (by decide +kernel)⟩
theorem qX10_leavesOwn : x_MV mX10_leavesOwn 1 := ⟨⟨by decide +kernel, rfl, x_in0 79 (by decide +kernel) (by decide +kernel), x_in0 1361 (by decide +kernel) (by decide +kernel), by decide +kernel, by decide +kernel, by decide +kernel⟩, x_in0 1360 (by decide +kernel) (by decide +kernel), x_in0 63 (by decide +kernel) (by decide +kernel)⟩
theorem qX10_linkFrom : x_MV mX10_linkFrom 1 := ⟨⟨by decide +kernel, rfl, x_in0 79 (by decide +kernel) (by decide +kernel), x_in0 1365 (by decide +kernel) (by decide +kernel), by decide +kernel, by decide +kernel, by decide +kernel⟩, x_in0 1364 (by decide +kernel) (by decide +kernel), x_in0 64 (by decide +kernel) (by decide +kernel)⟩
theorem qX10_goesFrom : x_MV mX10_goesFrom 1 := ⟨⟨by decide +kernel, rfl, x_in0 79 (by decide +kernel) (by decide +kernel), x_in0 1357 (by decide +kernel) (by decide +kernel), by decide +kernel, by decide +kernel, by decide +kernel⟩, x_in0 1356 (by decide +kernel) (by decide +kernel), x_in0 62 (by decide +kernel) (by decide +kernel)⟩
theorem qX10_send : x_MV mX10_send 1 := ⟨⟨by decide +kernel, rfl, x_in0 79 (by decide +kernel) (by decide +kernel), x_in0 1349 (by decide +kernel) (by decide +kernel), by decide +kernel, by decide +kernel, by decide +kernel⟩, x_in0 1347 (by decide +kernel) (by decide +kernel), x_in0 1348 (by decide +kernel) (by decide +kernel)⟩
theorem qX10_way : x_MV mX10_way 1 := ⟨⟨by decide +kernel, rfl, x_in0 79 (by decide +kernel) (by decide +kernel), x_in0 1377 (by decide +kernel) (by decide +kernel), by decide +kernel, by decide +kernel, by decide +kernel⟩, x_in0 1375 (by decide +kernel) (by decide +kernel), x_in0 1376 (by decide +kernel) (by decide +kernel)⟩
theorem qX10_count : x_MV mX10_count 1 := ⟨⟨by decide +kernel, rfl, x_in0 79 (by decide +kernel) (by decide +kernel), x_in0 1381 (by decide +kernel) (by decide +kernel), by decide +kernel, by decide +kernel, by decide +kernel⟩, x_in0 1379 (by decide +kernel) (by decide +kernel), x_in0 1380 (by decide +kernel) (by decide +kernel)⟩
theorem qJ6_bitCount_0f7a4 : x_MS mJ6_bitCount_0f7a4 1 := ⟨⟨by decide +kernel, rfl, x_in0 86 (by decide +kernel) (by decide +kernel), x_in0 635 (by decide +kernel) (by decide +kernel), by decide +kernel, by decide +kernel, by decide +kernel⟩, x_in0 634 (by decide +kernel) (by decide +kernel)⟩
theorem qJ13_bitCount_95d88 : x_MS mJ13_bitCount_95d88 1 := ⟨⟨by decide +kernel, rfl, x_in0 84 (by decide +kernel) (by decide +kernel), x_in0 558 (by decide +kernel) (by decide +kernel), by decide +kernel, by decide +kernel, by decide +kernel⟩, x_in0 557 (by decide +kernel) (by decide +kernel)⟩
theorem qJ0_length_8abf5 : x_MV mJ0_length_8abf5 0 := ⟨⟨by decide +kernel, rfl, x_in0 80 (by decide +kernel) (by decide +kernel), x_in0 489 (by decide +kernel) (by decide +kernel), by decide +kernel, by decide +kernel, by decide +kernel⟩, x_in0 487 (by decide +kernel) (by decide +kernel), x_in0 488 (by decide +kernel) (by decide +kernel)⟩
theorem qJ0_charAt_5068e : x_MV mJ0_charAt_5068e 1 := ⟨⟨by decide +kernel, rfl, x_in0 80 (by decide +kernel) (by decide +kernel), x_in0 499 (by decide +kernel) (by decide +kernel), by decide +kernel, by decide +kernel, by decide +kernel⟩, x_in0 497 (by decide +kernel) (by decide +kernel), x_in0 498 (by decide +kernel) (by decide +kernel)⟩
theorem qJ0_coder_7d493 : x_MV mJ0_coder_7d493 0 := ⟨⟨by decide +kernel, rfl, x_in0 80 (by decide +kernel) (by decide +kernel), x_in0 493 (by decide +kernel) (by decide +kernel), by decide +kernel, by decide +kernel, by decide +kernel⟩, x_in0 491 (by decide +kernel) (by decide +kernel), x_in0 492 (by decide +kernel) (by decide +kernel)⟩
theorem qJ0_isLatin1_aae02 : x_MV mJ0_isLatin1_aae02 0 := ⟨⟨by decide +kernel, rfl, x_in0 80 (by decide +kernel) (by decide +kernel), x_in0 503 (by decide +kernel) (by decide +kernel), by decide +kernel, by decide +kernel, by decide +kernel⟩, x_in0 501 (by decide +kernel) (by decide +kernel), x_in0 502 (by decide +kernel) (by decide +kernel)⟩
theorem qJ0_checkIndex_df160 : x_MS mJ0_checkIndex_df160 2 := ⟨⟨by decide +kernel, rfl, x_in0 80 (by decide +kernel) (by decide +kernel), x_in0 509 (by decide +kernel) (by decide +kernel), by decide +kernel, by decide +kernel, by decide +kernel⟩, x_in0 508 (by decide +kernel) (by decide +kernel)⟩
theorem qJ1_charAt_3b067 : x_MS mJ1_charAt_3b067 2 := ⟨⟨by decide +kernel, rfl, x_in0 81 (by decide +kernel) (by decide +kernel), x_in0 506 (by decide +kernel) (by decide +kernel), by decide +kernel, by decide +kernel, by decide +kernel⟩, x_in0 505 (by decide +kernel) (by decide +kernel)⟩
theorem qJ2_getChar_3b067 : x_MS mJ2_getChar_3b067 2 := ⟨⟨by decide +kernel, rfl, x_in0 83 (by decide +kernel) (by decide +kernel), x_in0 527 (by decide +kernel) (by decide +kernel), by decide +kernel, by decide +kernel, by decide +kernel⟩, x_in0 526 (by decide +kernel) (by decide +kernel)⟩
theorem qJ2_length_9d52b : x_MS mJ2_length_9d52b 1 := ⟨⟨by decide +kernel, rfl, x_in0 83 (by decide +kernel) (by decide +kernel), x_in0 523 (by decide +kernel) (by decide +kernel), by decide +kernel, by decide +kernel, by decide +kernel⟩, x_in0 522 (by decide +kernel) (by decide +kernel)⟩
theorem qJ2_charAt_3b067 : x_MS mJ2_charAt_3b067 2 := ⟨⟨by decide +kernel, rfl, x_in0 83 (by decide +kernel) (by decide +kernel), x_in0 517 (by decide +kernel) (by decide +kernel), by decide +kernel, by decide +kernel, by decide +kernel⟩, x_in0 516 (by decide +kernel) (by decide +kernel)⟩
theorem qJ2_checkIndex_2214a : x_MS mJ2_checkIndex_2214a 2 := ⟨⟨by decide +kernel, rfl, x_in0 83 (by decide +kernel) (by decide +kernel), x_in0 520 (by decide +kernel) (by decide +kernel), by decide +kernel, by decide +kernel, by decide +kernel⟩, x_in0 519 (by decide +kernel) (by decide +kernel)⟩
theorem qJ7_fill_53178 : x_MS mJ7_fill_53178 2 := ⟨⟨by decide +kernel, rfl, x_in0 85 (by decide +kernel) (by decide +kernel), x_in0 586 (by decide +kernel) (by decide +kernel), by decide +kernel, by decide +kernel, by decide +kernel⟩, x_in0 585 (by decide +kernel) (by decide +kernel)⟩
theorem qJ3_checkIndex_8e157 : x_MS mJ3_checkIndex_8e157 3 := ⟨⟨by decide +kernel, rfl, x_in0 82 (by decide +kernel) (by decide +kernel), x_in0 514 (by decide +kernel) (by decide +kernel), by decide +kernel, by decide +kernel, by decide +kernel⟩, x_in0 513 (by decide +kernel) (by decide +kernel)⟩
theorem fl_J0_9 : Cond.fieldLink RJ0 9 "java/lang/String" "value" "[B" ∈ x_GW := x_in0 1382 (by decide +kernel) (by decide +kernel)
theorem fl_J0_15 : Cond.fieldLink RJ0 15 "java/lang/String" "coder" "B" ∈ x_GW := x_in0 1383 (by decide +kernel) (by decide +kernel)
theorem fl_J0_38 : Cond.fieldLink RJ0 38 "java/lang/String" "COMPACT_STRINGS" "Z" ∈ x_GW := x_in0 494 (by decide +kernel) (by decide +kernel)
theorem fl_J0_1053 : Cond.fieldLink RJ0 1053 "jdk/internal/util/Preconditions" "SIOOBE_FORMATTER" "Ljava/util/function/BiFunction;" ∈ x_GW := x_in0 510 (by decide +kernel) (by decide +kernel)
theorem fl_J2_44 : Cond.fieldLink RJ2 44 "java/lang/StringUTF16" "$assertionsDisabled" "Z" ∈ x_GW := x_in0 528 (by decide +kernel) (by decide +kernel)
theorem fl_J2_59 : Cond.fieldLink RJ2 59 "java/lang/StringUTF16" "HI_BYTE_SHIFT" "I" ∈ x_GW := x_in0 530 (by decide +kernel) (by decide +kernel)
theorem fl_J2_63 : Cond.fieldLink RJ2 63 "java/lang/StringUTF16" "LO_BYTE_SHIFT" "I" ∈ x_GW := x_in0 532 (by decide +kernel) (by decide +kernel)
theorem fl_X0_14 : x_FL RX0 14 0 2 := ⟨by decide +kernel, by decide +kernel, x_in0 325 (by decide +kernel) (by decide +kernel)⟩
theorem fl_X0_20 : x_FL RX0 20 0 3 := ⟨by decide +kernel, by decide +kernel, x_in0 326 (by decide +kernel) (by decide +kernel)⟩
theorem fl_X0_24 : x_FL RX0 24 0 4 := ⟨by decide +kernel, by decide +kernel, x_in0 327 (by decide +kernel) (by decide +kernel)⟩
theorem fl_X0_27 : x_FL RX0 27 0 5 := ⟨by decide +kernel, by decide +kernel, x_in0 328 (by decide +kernel) (by decide +kernel)⟩
theorem fl_X0_30 : x_FL RX0 30 0 6 := ⟨by decide +kernel, by decide +kernel, x_in0 329 (by decide +kernel) (by decide +kernel)⟩
theorem fl_X0_33 : x_FL RX0 33 0 7 := ⟨by decide +kernel, by decide +kernel, x_in0 330 (by decide +kernel) (by decide +kernel)⟩
theorem fl_X0_36 : x_FL RX0 36 0 8 := ⟨by decide +kernel, by decide +kernel, x_in0 331 (by decide +kernel) (by decide +kernel)⟩
theorem fl_X0_42 : x_FL RX0 42 0 9 := ⟨by decide +kernel, by decide +kernel, x_in0 332 (by decide +kernel) (by decide +kernel)⟩
theorem fl_X0_46 : x_FL RX0 46 0 0 := ⟨by decide +kernel, by decide +kernel, x_in0 323 (by decide +kernel) (by decide +kernel)⟩
theorem fl_X0_50 : x_FL RX0 50 0 1 := ⟨by decide +kernel, by decide +kernel, x_in0 324 (by decide +kernel) (by decide +kernel)⟩
theorem fl_X0_54 : x_FL RX0 54 2 8 := ⟨by decide +kernel, by decide +kernel, x_in0 131 (by decide +kernel) (by decide +kernel)⟩
theorem fl_X0_73 : x_FL RX0 73 6 1 := ⟨by decide +kernel, by decide +kernel, x_in0 259 (by decide +kernel) (by decide +kernel)⟩
theorem fl_X0_77 : x_FL RX0 77 6 0 := ⟨by decide +kernel, by decide +kernel, x_in0 256 (by decide +kernel) (by decide +kernel)⟩
theorem fl_X0_108 : x_FL RX0 108 7 2 := ⟨by decide +kernel, by decide +kernel, x_in0 303 (by decide +kernel) (by decide +kernel)⟩
theorem fl_X1_14 : x_FL RX1 14 1 3 := ⟨by decide +kernel, by decide +kernel, x_in0 369 (by decide +kernel) (by decide +kernel)⟩
theorem fl_X1_23 : x_FL RX1 23 1 4 := ⟨by decide +kernel, by decide +kernel, x_in0 370 (by decide +kernel) (by decide +kernel)⟩
theorem fl_X1_27 : x_FL RX1 27 1 5 := ⟨by decide +kernel, by decide +kernel, x_in0 372 (by decide +kernel) (by decide +kernel)⟩
theorem fl_X1_31 : x_FL RX1 31 1 6 := ⟨by decide +kernel, by decide +kernel, x_in0 374 (by decide +kernel) (by decide +kernel)⟩
theorem fl_X1_34 : x_FL RX1 34 1 7 := ⟨by decide +kernel, by decide +kernel, x_in0 376 (by decide +kernel) (by decide +kernel)⟩
theorem fl_X1_37 : x_FL RX1 37 1 8 := ⟨by decide +kernel, by decide +kernel, x_in0 377 (by decide +kernel) (by decide +kernel)⟩
theorem fl_X1_40 : x_FL RX1 40 1 9 := ⟨by decide +kernel, by decide +kernel, x_in0 378 (by decide +kernel) (by decide +kernel)⟩
theorem fl_X1_43 : x_FL RX1 43 1 10 := ⟨by decide +kernel, by decide +kernel, x_in0 379 (by decide +kernel) (by decide +kernel)⟩
theorem fl_X1_47 : x_FL RX1 47 1 0 := ⟨by decide +kernel, by decide +kernel, x_in0 366 (by decide +kernel) (by decide +kernel)⟩
theorem fl_X1_51 : x_FL RX1 51 1 1 := ⟨by decide +kernel, by decide +kernel, x_in0 367 (by decide +kernel) (by decide +kernel)⟩
theorem fl_X1_55 : x_FL RX1 55 1 2 := ⟨by decide +kernel, by decide +kernel, x_in0 368 (by decide +kernel) (by decide +kernel)⟩
theorem fl_X1_59 : x_FL RX1 59 6 1 := ⟨by decide +kernel, by decide +kernel, x_in0 258 (by decide +kernel) (by decide +kernel)⟩
theorem fl_X1_62 : x_FL RX1 62 7 2 := ⟨by decide +kernel, by decide +kernel, x_in0 301 (by decide +kernel) (by decide +kernel)⟩
theorem fl_X1_112 : x_FL RX1 112 2 8 := ⟨by decide +kernel, by decide +kernel, x_in0 134 (by decide +kernel) (by decide +kernel)⟩
theorem fl_X1_123 : x_FL RX1 123 2 7 := ⟨by decide +kernel, by decide +kernel, x_in0 129 (by decide +kernel) (by decide +kernel)⟩
theorem fl_X1_132 : x_FL RX1 132 0 9 := ⟨by decide +kernel, by decide +kernel, x_in0 333 (by decide +kernel) (by decide +kernel)⟩
theorem fl_X10_7 : x_FL RX10 7 10 0 := ⟨by decide +kernel, by decide +kernel, x_in0 969 (by decide +kernel) (by decide +kernel)⟩
theorem fl_X10_13 : x_FL RX10 13 10 2 := ⟨by decide +kernel, by decide +kernel, x_in0 971 (by decide +kernel) (by decide +kernel)⟩
theorem fl_X10_17 : x_FL RX10 17 10 3 := ⟨by decide +kernel, by decide +kernel, x_in0 972 (by decide +kernel) (by decide +kernel)⟩
theorem fl_X10_20 : x_FL RX10 20 10 4 := ⟨by decide +kernel, by decide +kernel, x_in0 973 (by decide +kernel) (by decide +kernel)⟩
theorem fl_X10_23 : x_FL RX10 23 10 5 := ⟨by decide +kernel, by decide +kernel, x_in0 974 (by decide +kernel) (by decide +kernel)⟩
theorem fl_X10_26 : x_FL RX10 26 10 6 := ⟨by decide +kernel, by decide +kernel, x_in0 975 (by decide +kernel) (by decide +kernel)⟩
theorem fl_X10_29 : x_FL RX10 29 10 9 := ⟨by decide +kernel, by decide +kernel, x_in0 978 (by decide +kernel) (by decide +kernel)⟩
theorem fl_X10_32 : x_FL RX10 32 10 10 := ⟨by decide +kernel, by decide +kernel, x_in0 979 (by decide +kernel) (by decide +kernel)⟩
theorem fl_X10_35 : x_FL RX10 35 10 12 := ⟨by decide +kernel, by decide +kernel, x_in0 981 (by decide +kernel) (by decide +kernel)⟩
theorem fl_X10_38 : x_FL RX10 38 10 14 := ⟨by decide +kernel, by decide +kernel, x_in0 983 (by decide +kernel) (by decide +kernel)⟩
theorem fl_X10_41 : x_FL RX10 41 10 16 := ⟨by decide +kernel, by decide +kernel, x_in0 985 (by decide +kernel) (by decide +kernel)⟩
theorem fl_X10_44 : x_FL RX10 44 10 17 := ⟨by decide +kernel, by decide +kernel, x_in0 986 (by decide +kernel) (by decide +kernel)⟩
theorem fl_X10_47 : x_FL RX10 47 10 18 := ⟨by decide +kernel, by decide +kernel, x_in0 987 (by decide +kernel) (by decide +kernel)⟩
theorem fl_X10_50 : x_FL RX10 50 10 20 := ⟨by decide +kernel, by decide +kernel, x_in0 989 (by decide +kernel) (by decide +kernel)⟩
theorem fl_X10_53 : x_FL RX10 53 10 21 := ⟨by decide +kernel, by decide +kernel, x_in0 990 (by decide +kernel) (by decide +kernel)⟩
theorem fl_X10_56 : x_FL RX10 56 10 22 := ⟨by decide +kernel, by decide +kernel, x_in0 991 (by decide +kernel) (by decide +kernel)⟩
theorem fl_X10_59 : x_FL RX10 59 10 30 := ⟨by decide +kernel, by decide +kernel, x_in0 999 (by decide +kernel) (by decide +kernel)⟩
theorem fl_X10_62 : x_FL RX10 62 10 31 := ⟨by decide +kernel, by decide +kernel, x_in0 1000 (by decide +kernel) (by decide +kernel)⟩
theorem fl_X10_65 : x_FL RX10 65 10 32 := ⟨by decide +kernel, by decide +kernel, x_in0 1001 (by decide +kernel) (by decide +kernel)⟩
theorem fl_X10_68 : x_FL RX10 68 10 33 := ⟨by decide +kernel, by decide +kernel, x_in0 1002 (by decide +kernel) (by decide +kernel)⟩
theorem fl_X10_71 : x_FL RX10 71 10 34 := ⟨by decide +kernel, by decide +kernel, x_in0 1003 (by decide +kernel) (by decide +kernel)⟩
theorem fl_X10_74 : x_FL RX10 74 10 40 := ⟨by decide +kernel, by decide +kernel, x_in0 1009 (by decide +kernel) (by decide +kernel)⟩
theorem fl_X10_77 : x_FL RX10 77 10 41 := ⟨by decide +kernel, by decide +kernel, x_in0 1010 (by decide +kernel) (by decide +kernel)⟩
theorem fl_X10_80 : x_FL RX10 80 10 43 := ⟨by decide +kernel, by decide +kernel, x_in0 1012 (by decide +kernel) (by decide +kernel)⟩
theorem fl_X10_83 : x_FL RX10 83 10 44 := ⟨by decide +kernel, by decide +kernel, x_in0 1013 (by decide +kernel) (by decide +kernel)⟩
theorem fl_X10_90 : x_FL RX10 90 10 1 := ⟨by decide +kernel, by decide +kernel, x_in0 970 (by decide +kernel) (by decide +kernel)⟩
theorem fl_X10_108 : x_FL RX10 108 10 15 := ⟨by decide +kernel, by decide +kernel, x_in0 984 (by decide +kernel) (by decide +kernel)⟩
theorem fl_X10_123 : x_FL RX10 123 10 19 := ⟨by decide +kernel, by decide +kernel, x_in0 988 (by decide +kernel) (by decide +kernel)⟩
theorem fl_X10_134 : x_FL RX10 134 10 23 := ⟨by decide +kernel, by decide +kernel, x_in0 992 (by decide +kernel) (by decide +kernel)⟩
theorem fl_X10_137 : x_FL RX10 137 10 24 := ⟨by decide +kernel, by decide +kernel, x_in0 993 (by decide +kernel) (by decide +kernel)⟩
theorem fl_X10_140 : x_FL RX10 140 10 25 := ⟨by decide +kernel, by decide +kernel, x_in0 994 (by decide +kernel) (by decide +kernel)⟩
theorem fl_X10_150 : x_FL RX10 150 10 26 := ⟨by decide +kernel, by decide +kernel, x_in0 995 (by decide +kernel) (by decide +kernel)⟩
theorem fl_X10_162 : x_FL RX10 162 10 29 := ⟨by decide +kernel, by decide +kernel, x_in0 998 (by decide +kernel) (by decide +kernel)⟩
theorem fl_X10_168 : x_FL RX10 168 10 28 := ⟨by decide +kernel, by decide +kernel, x_in0 997 (by decide +kernel) (by decide +kernel)⟩
theorem fl_X10_171 : x_FL RX10 171 10 27 := ⟨by decide +kernel, by decide +kernel, x_in0 996 (by decide +kernel) (by decide +kernel)⟩
theorem fl_X10_174 : x_FL RX10 174 10 8 := ⟨by decide +kernel, by decide +kernel, x_in0 977 (by decide +kernel) (by decide +kernel)⟩
theorem fl_X10_177 : x_FL RX10 177 10 11 := ⟨by decide +kernel, by decide +kernel, x_in0 980 (by decide +kernel) (by decide +kernel)⟩
theorem fl_X10_180 : x_FL RX10 180 10 13 := ⟨by decide +kernel, by decide +kernel, x_in0 982 (by decide +kernel) (by decide +kernel)⟩
theorem fl_X10_203 : x_FL RX10 203 10 7 := ⟨by decide +kernel, by decide +kernel, x_in0 976 (by decide +kernel) (by decide +kernel)⟩
theorem fl_X10_206 : x_FL RX10 206 10 35 := ⟨by decide +kernel, by decide +kernel, x_in0 1004 (by decide +kernel) (by decide +kernel)⟩
theorem fl_X10_209 : x_FL RX10 209 10 36 := ⟨by decide +kernel, by decide +kernel, x_in0 1005 (by decide +kernel) (by decide +kernel)⟩
theorem fl_X10_212 : x_FL RX10 212 10 37 := ⟨by decide +kernel, by decide +kernel, x_in0 1006 (by decide +kernel) (by decide +kernel)⟩
theorem fl_X10_215 : x_FL RX10 215 10 38 := ⟨by decide +kernel, by decide +kernel, x_in0 1007 (by decide +kernel) (by decide +kernel)⟩
theorem fl_X10_218 : x_FL RX10 218 10 39 := ⟨by decide +kernel, by decide +kernel, x_in0 1008 (by decide +kernel) (by decide +kernel)⟩
theorem fl_X10_266 : x_FL RX10 266 10 42 := ⟨by decide +kernel, by decide +kernel, x_in0 1011 (by decide +kernel) (by decide +kernel)⟩
theorem fl_X2_9 : x_FL RX2 9 2 0 := ⟨by decide +kernel, by decide +kernel, x_in0 101 (by decide +kernel) (by decide +kernel)⟩
theorem fl_X2_15 : x_FL RX2 15 2 1 := ⟨by decide +kernel, by decide +kernel, x_in0 106 (by decide +kernel) (by decide +kernel)⟩
theorem fl_X2_18 : x_FL RX2 18 2 2 := ⟨by decide +kernel, by decide +kernel, x_in0 109 (by decide +kernel) (by decide +kernel)⟩
theorem fl_X2_21 : x_FL RX2 21 2 3 := ⟨by decide +kernel, by decide +kernel, x_in0 113 (by decide +kernel) (by decide +kernel)⟩
theorem fl_X2_25 : x_FL RX2 25 2 4 := ⟨by decide +kernel, by decide +kernel, x_in0 116 (by decide +kernel) (by decide +kernel)⟩
theorem fl_X2_28 : x_FL RX2 28 2 5 := ⟨by decide +kernel, by decide +kernel, x_in0 119 (by decide +kernel) (by decide +kernel)⟩
theorem fl_X2_31 : x_FL RX2 31 2 6 := ⟨by decide +kernel, by decide +kernel, x_in0 123 (by decide +kernel) (by decide +kernel)⟩
theorem fl_X2_34 : x_FL RX2 34 2 7 := ⟨by decide +kernel, by decide +kernel, x_in0 127 (by decide +kernel) (by decide +kernel)⟩
theorem fl_X2_37 : x_FL RX2 37 2 8 := ⟨by decide +kernel, by decide +kernel, x_in0 130 (by decide +kernel) (by decide +kernel)⟩
theorem fl_X3_9 : x_FL RX3 9 3 1 := ⟨by decide +kernel, by decide +kernel, x_in0 199 (by decide +kernel) (by decide +kernel)⟩
theorem fl_X3_15 : x_FL RX3 15 3 2 := ⟨by decide +kernel, by decide +kernel, x_in0 200 (by decide +kernel) (by decide +kernel)⟩
theorem fl_X3_18 : x_FL RX3 18 3 3 := ⟨by decide +kernel, by decide +kernel, x_in0 201 (by decide +kernel) (by decide +kernel)⟩
theorem fl_X3_21 : x_FL RX3 21 3 4 := ⟨by decide +kernel, by decide +kernel, x_in0 202 (by decide +kernel) (by decide +kernel)⟩
theorem fl_X3_24 : x_FL RX3 24 3 5 := ⟨by decide +kernel, by decide +kernel, x_in0 203 (by decide +kernel) (by decide +kernel)⟩
theorem fl_X3_28 : x_FL RX3 28 3 6 := ⟨by decide +kernel, by decide +kernel, x_in0 204 (by decide +kernel) (by decide +kernel)⟩
theorem fl_X3_31 : x_FL RX3 31 3 0 := ⟨by decide +kernel, by decide +kernel, x_in0 198 (by decide +kernel) (by decide +kernel)⟩
theorem fl_X3_35 : x_FL RX3 35 2 2 := ⟨by decide +kernel, by decide +kernel, x_in0 110 (by decide +kernel) (by decide +kernel)⟩
theorem fl_X3_44 : x_FL RX3 44 2 5 := ⟨by decide +kernel, by decide +kernel, x_in0 121 (by decide +kernel) (by decide +kernel)⟩
theorem fl_X3_47 : x_FL RX3 47 2 6 := ⟨by decide +kernel, by decide +kernel, x_in0 125 (by decide +kernel) (by decide +kernel)⟩
theorem fl_X3_50 : x_FL RX3 50 2 8 := ⟨by decide +kernel, by decide +kernel, x_in0 133 (by decide +kernel) (by decide +kernel)⟩
theorem fl_X4_9 : x_FL RX4 9 4 2 := ⟨by decide +kernel, by decide +kernel, x_in0 271 (by decide +kernel) (by decide +kernel)⟩
theorem fl_X4_15 : x_FL RX4 15 4 3 := ⟨by decide +kernel, by decide +kernel, x_in0 272 (by decide +kernel) (by decide +kernel)⟩
theorem fl_X4_18 : x_FL RX4 18 4 4 := ⟨by decide +kernel, by decide +kernel, x_in0 273 (by decide +kernel) (by decide +kernel)⟩
theorem fl_X4_27 : x_FL RX4 27 4 5 := ⟨by decide +kernel, by decide +kernel, x_in0 274 (by decide +kernel) (by decide +kernel)⟩
theorem fl_X4_31 : x_FL RX4 31 4 0 := ⟨by decide +kernel, by decide +kernel, x_in0 269 (by decide +kernel) (by decide +kernel)⟩
theorem fl_X4_35 : x_FL RX4 35 4 1 := ⟨by decide +kernel, by decide +kernel, x_in0 270 (by decide +kernel) (by decide +kernel)⟩
theorem fl_X4_39 : x_FL RX4 39 2 0 := ⟨by decide +kernel, by decide +kernel, x_in0 102 (by decide +kernel) (by decide +kernel)⟩
theorem fl_X4_48 : x_FL RX4 48 2 2 := ⟨by decide +kernel, by decide +kernel, x_in0 111 (by decide +kernel) (by decide +kernel)⟩
theorem fl_X4_61 : x_FL RX4 61 2 8 := ⟨by decide +kernel, by decide +kernel, x_in0 132 (by decide +kernel) (by decide +kernel)⟩
theorem fl_X4_79 : x_FL RX4 79 6 1 := ⟨by decide +kernel, by decide +kernel, x_in0 261 (by decide +kernel) (by decide +kernel)⟩
theorem fl_X5_9 : x_FL RX5 9 5 1 := ⟨by decide +kernel, by decide +kernel, x_in0 228 (by decide +kernel) (by decide +kernel)⟩
theorem fl_X5_15 : x_FL RX5 15 5 2 := ⟨by decide +kernel, by decide +kernel, x_in0 229 (by decide +kernel) (by decide +kernel)⟩
theorem fl_X5_18 : x_FL RX5 18 5 3 := ⟨by decide +kernel, by decide +kernel, x_in0 230 (by decide +kernel) (by decide +kernel)⟩
theorem fl_X5_21 : x_FL RX5 21 5 0 := ⟨by decide +kernel, by decide +kernel, x_in0 227 (by decide +kernel) (by decide +kernel)⟩
theorem fl_X5_25 : x_FL RX5 25 2 5 := ⟨by decide +kernel, by decide +kernel, x_in0 120 (by decide +kernel) (by decide +kernel)⟩
theorem fl_X5_30 : x_FL RX5 30 2 6 := ⟨by decide +kernel, by decide +kernel, x_in0 124 (by decide +kernel) (by decide +kernel)⟩
theorem fl_X5_37 : x_FL RX5 37 2 0 := ⟨by decide +kernel, by decide +kernel, x_in0 103 (by decide +kernel) (by decide +kernel)⟩
theorem fl_X5_41 : x_FL RX5 41 2 1 := ⟨by decide +kernel, by decide +kernel, x_in0 107 (by decide +kernel) (by decide +kernel)⟩
theorem fl_X5_44 : x_FL RX5 44 2 3 := ⟨by decide +kernel, by decide +kernel, x_in0 114 (by decide +kernel) (by decide +kernel)⟩
theorem fl_X5_47 : x_FL RX5 47 2 4 := ⟨by decide +kernel, by decide +kernel, x_in0 117 (by decide +kernel) (by decide +kernel)⟩
theorem fl_X5_61 : x_FL RX5 61 6 1 := ⟨by decide +kernel, by decide +kernel, x_in0 262 (by decide +kernel) (by decide +kernel)⟩
theorem fl_X6_9 : x_FL RX6 9 6 1 := ⟨by decide +kernel, by decide +kernel, x_in0 257 (by decide +kernel) (by decide +kernel)⟩
theorem fl_X6_21 : x_FL RX6 21 6 0 := ⟨by decide +kernel, by decide +kernel, x_in0 255 (by decide +kernel) (by decide +kernel)⟩
theorem fl_X7_9 : x_FL RX7 9 7 2 := ⟨by decide +kernel, by decide +kernel, x_in0 300 (by decide +kernel) (by decide +kernel)⟩
theorem fl_X7_21 : x_FL RX7 21 7 0 := ⟨by decide +kernel, by decide +kernel, x_in0 296 (by decide +kernel) (by decide +kernel)⟩
theorem fl_X7_25 : x_FL RX7 25 7 1 := ⟨by decide +kernel, by decide +kernel, x_in0 298 (by decide +kernel) (by decide +kernel)⟩
theorem fl_X8_9 : x_FL RX8 9 8 1 := ⟨by decide +kernel, by decide +kernel, x_in0 163 (by decide +kernel) (by decide +kernel)⟩
theorem fl_X8_15 : x_FL RX8 15 8 2 := ⟨by decide +kernel, by decide +kernel, x_in0 164 (by decide +kernel) (by decide +kernel)⟩
theorem fl_X8_19 : x_FL RX8 19 8 3 := ⟨by decide +kernel, by decide +kernel, x_in0 166 (by decide +kernel) (by decide +kernel)⟩
theorem fl_X8_22 : x_FL RX8 22 8 4 := ⟨by decide +kernel, by decide +kernel, x_in0 168 (by decide +kernel) (by decide +kernel)⟩
theorem fl_X8_25 : x_FL RX8 25 8 5 := ⟨by decide +kernel, by decide +kernel, x_in0 169 (by decide +kernel) (by decide +kernel)⟩
theorem fl_X8_28 : x_FL RX8 28 8 6 := ⟨by decide +kernel, by decide +kernel, x_in0 170 (by decide +kernel) (by decide +kernel)⟩
theorem fl_X8_31 : x_FL RX8 31 8 7 := ⟨by decide +kernel, by decide +kernel, x_in0 171 (by decide +kernel) (by decide +kernel)⟩
theorem fl_X8_34 : x_FL RX8 34 8 8 := ⟨by decide +kernel, by decide +kernel, x_in0 172 (by decide +kernel) (by decide +kernel)⟩
theorem fl_X8_38 : x_FL RX8 38 8 0 := ⟨by decide +kernel, by decide +kernel, x_in0 162 (by decide +kernel) (by decide +kernel)⟩
theorem fl_X8_46 : x_FL RX8 46 2 0 := ⟨by decide +kernel, by decide +kernel, x_in0 104 (by decide +kernel) (by decide +kernel)⟩
theorem fl_X9_10 : x_FL RX9 10 9 0 := ⟨by decide +kernel, by decide +kernel, x_in0 403 (by decide +kernel) (by decide +kernel)⟩
theorem fl_X9_21 : x_FL RX9 21 9 1 := ⟨by decide +kernel, by decide +kernel, x_in0 404 (by decide +kernel) (by decide +kernel)⟩
theorem fl_X9_28 : x_FL RX9 28 9 2 := ⟨by decide +kernel, by decide +kernel, x_in0 405 (by decide +kernel) (by decide +kernel)⟩
theorem fl_X9_35 : x_FL RX9 35 9 3 := ⟨by decide +kernel, by decide +kernel, x_in0 406 (by decide +kernel) (by decide +kernel)⟩
theorem fl_X9_44 : x_FL RX9 44 9 4 := ⟨by decide +kernel, by decide +kernel, x_in0 407 (by decide +kernel) (by decide +kernel)⟩
theorem fl_X9_53 : x_FL RX9 53 9 5 := ⟨by decide +kernel, by decide +kernel, x_in0 408 (by decide +kernel) (by decide +kernel)⟩
theorem fl_X9_60 : x_FL RX9 60 9 6 := ⟨by decide +kernel, by decide +kernel, x_in0 409 (by decide +kernel) (by decide +kernel)⟩
theorem fl_X9_67 : x_FL RX9 67 9 7 := ⟨by decide +kernel, by decide +kernel, x_in0 410 (by decide +kernel) (by decide +kernel)⟩
theorem fl_X9_76 : x_FL RX9 76 9 8 := ⟨by decide +kernel, by decide +kernel, x_in0 411 (by decide +kernel) (by decide +kernel)⟩
theorem fl_X9_80 : x_FL RX9 80 8 2 := ⟨by decide +kernel, by decide +kernel, x_in0 165 (by decide +kernel) (by decide +kernel)⟩
theorem fl_X9_91 : x_FL RX9 91 8 3 := ⟨by decide +kernel, by decide +kernel, x_in0 167 (by decide +kernel) (by decide +kernel)⟩
theorem fl_X9_97 : x_FL RX9 97 3 6 := ⟨by decide +kernel, by decide +kernel, x_in0 205 (by decide +kernel) (by decide +kernel)⟩
theorem fl_X9_103 : x_FL RX9 103 2 7 := ⟨by decide +kernel, by decide +kernel, x_in0 128 (by decide +kernel) (by decide +kernel)⟩
theorem fl_X9_124 : x_FL RX9 124 7 2 := ⟨by decide +kernel, by decide +kernel, x_in0 302 (by decide +kernel) (by decide +kernel)⟩
theorem fl_X9_125 : x_FL RX9 125 6 1 := ⟨by decide +kernel, by decide +kernel, x_in0 260 (by decide +kernel) (by decide +kernel)⟩
theorem fl_X9_126 : x_FL RX9 126 1 5 := ⟨by decide +kernel, by decide +kernel, x_in0 373 (by decide +kernel) (by decide +kernel)⟩
theorem fl_X9_136 : x_FL RX9 136 2 3 := ⟨by decide +kernel, by decide +kernel, x_in0 115 (by decide +kernel) (by decide +kernel)⟩
theorem fl_X9_139 : x_FL RX9 139 2 4 := ⟨by decide +kernel, by decide +kernel, x_in0 118 (by decide +kernel) (by decide +kernel)⟩
theorem fl_X9_142 : x_FL RX9 142 2 5 := ⟨by decide +kernel, by decide +kernel, x_in0 122 (by decide +kernel) (by decide +kernel)⟩
theorem fl_X9_145 : x_FL RX9 145 2 6 := ⟨by decide +kernel, by decide +kernel, x_in0 126 (by decide +kernel) (by decide +kernel)⟩
theorem fl_X9_158 : x_FL RX9 158 2 2 := ⟨by decide +kernel, by decide +kernel, x_in0 112 (by decide +kernel) (by decide +kernel)⟩
theorem fl_X9_172 : x_FL RX9 172 2 8 := ⟨by decide +kernel, by decide +kernel, x_in0 135 (by decide +kernel) (by decide +kernel)⟩
theorem fl_X9_191 : x_FL RX9 191 2 0 := ⟨by decide +kernel, by decide +kernel, x_in0 105 (by decide +kernel) (by decide +kernel)⟩
theorem fl_X9_214 : x_FL RX9 214 4 5 := ⟨by decide +kernel, by decide +kernel, x_in0 275 (by decide +kernel) (by decide +kernel)⟩
theorem fl_X9_223 : x_FL RX9 223 7 0 := ⟨by decide +kernel, by decide +kernel, x_in0 297 (by decide +kernel) (by decide +kernel)⟩
theorem fl_X9_226 : x_FL RX9 226 7 1 := ⟨by decide +kernel, by decide +kernel, x_in0 299 (by decide +kernel) (by decide +kernel)⟩
theorem fl_X9_233 : x_FL RX9 233 0 9 := ⟨by decide +kernel, by decide +kernel, x_in0 334 (by decide +kernel) (by decide +kernel)⟩
theorem fl_X9_266 : x_FL RX9 266 1 6 := ⟨by decide +kernel, by decide +kernel, x_in0 375 (by decide +kernel) (by decide +kernel)⟩
theorem fl_X9_272 : x_FL RX9 272 1 4 := ⟨by decide +kernel, by decide +kernel, x_in0 371 (by decide +kernel) (by decide +kernel)⟩
theorem fl_X9_275 : x_FL RX9 275 2 1 := ⟨by decide +kernel, by decide +kernel, x_in0 108 (by decide +kernel) (by decide +kernel)⟩
theorem ml_J0_335 : Cond.methodLink RJ0 335 yJ0_coder_7d493 ∈ x_GW := x_in0 490 (by decide +kernel) (by decide +kernel)
theorem ml_J0_492 : Cond.methodLink RJ0 492 yJ0_isLatin1_aae02 ∈ x_GW := x_in0 500 (by decide +kernel) (by decide +kernel)
theorem ml_J0_495 : Cond.methodLink RJ0 495 yJ1_charAt_3b067 ∈ x_GW := x_in0 504 (by decide +kernel) (by decide +kernel)
theorem ml_J0_498 : Cond.methodLink RJ0 498 yJ2_charAt_3b067 ∈ x_GW := x_in0 515 (by decide +kernel) (by decide +kernel)
theorem ml_J0_1059 : Cond.methodLink RJ0 1059 yJ3_checkIndex_8e157 ∈ x_GW := x_in0 512 (by decide +kernel) (by decide +kernel)
theorem ml_J1_9 : Cond.methodLink RJ1 9 yJ0_checkIndex_df160 ∈ x_GW := x_in0 507 (by decide +kernel) (by decide +kernel)
theorem ml_J2_48 : Cond.methodLink RJ2 48 yJ2_length_9d52b ∈ x_GW := x_in0 521 (by decide +kernel) (by decide +kernel)
theorem ml_J2_67 : Cond.methodLink RJ2 67 yJ2_checkIndex_2214a ∈ x_GW := x_in0 518 (by decide +kernel) (by decide +kernel)
theorem ml_J2_71 : Cond.methodLink RJ2 71 yJ2_getChar_3b067 ∈ x_GW := x_in0 525 (by decide +kernel) (by decide +kernel)
theorem ml_J2_414 : Cond.methodLink RJ2 414 yJ0_checkIndex_df160 ∈ x_GW := x_in0 524 (by decide +kernel) (by decide +kernel)
theorem ml_L_9 : Cond.methodLink RL 9 yX9_init ∈ x_GW := x_in0 89 (by decide +kernel) (by decide +kernel)
theorem ml_L_12 : Cond.methodLink RL 12 yX10_init ∈ x_GW := x_in0 965 (by decide +kernel) (by decide +kernel)
theorem ml_L_13 : Cond.methodLink RL 13 yX9_write ∈ x_GW := x_in0 431 (by decide +kernel) (by decide +kernel)
theorem ml_L_17 : Cond.methodLink RL 17 yX10_write ∈ x_GW := x_in0 1105 (by decide +kernel) (by decide +kernel)
theorem ml_L_18 : Cond.methodLink RL 18 yX9_erase ∈ x_GW := x_in0 439 (by decide +kernel) (by decide +kernel)
theorem ml_L_22 : Cond.methodLink RL 22 yX10_erase ∈ x_GW := x_in0 1112 (by decide +kernel) (by decide +kernel)
theorem ml_L_23 : Cond.methodLink RL 23 yX9_fault ∈ x_GW := x_in0 443 (by decide +kernel) (by decide +kernel)
theorem ml_L_26 : Cond.methodLink RL 26 yX10_fault ∈ x_GW := x_in0 1116 (by decide +kernel) (by decide +kernel)
theorem ml_L_27 : Cond.methodLink RL 27 yX9_tell ∈ x_GW := x_in0 563 (by decide +kernel) (by decide +kernel)
theorem ml_L_30 : Cond.methodLink RL 30 yX10_tell ∈ x_GW := x_in0 1164 (by decide +kernel) (by decide +kernel)
theorem ml_L_31 : Cond.methodLink RL 31 yX9_link ∈ x_GW := x_in0 604 (by decide +kernel) (by decide +kernel)
theorem ml_L_35 : Cond.methodLink RL 35 yX10_link ∈ x_GW := x_in0 1168 (by decide +kernel) (by decide +kernel)
theorem ml_L_36 : Cond.methodLink RL 36 yX9_fail ∈ x_GW := x_in0 616 (by decide +kernel) (by decide +kernel)
theorem ml_L_39 : Cond.methodLink RL 39 yX10_fail ∈ x_GW := x_in0 1176 (by decide +kernel) (by decide +kernel)
theorem ml_L_40 : Cond.methodLink RL 40 yX9_heal ∈ x_GW := x_in0 639 (by decide +kernel) (by decide +kernel)
theorem ml_L_43 : Cond.methodLink RL 43 yX10_heal ∈ x_GW := x_in0 1191 (by decide +kernel) (by decide +kernel)
theorem ml_L_44 : Cond.methodLink RL 44 yX9_tune ∈ x_GW := x_in0 643 (by decide +kernel) (by decide +kernel)
theorem ml_L_48 : Cond.methodLink RL 48 yX10_tune ∈ x_GW := x_in0 1195 (by decide +kernel) (by decide +kernel)
theorem ml_L_49 : Cond.methodLink RL 49 yX9_learn ∈ x_GW := x_in0 651 (by decide +kernel) (by decide +kernel)
theorem ml_L_52 : Cond.methodLink RL 52 yX10_learn ∈ x_GW := x_in0 1199 (by decide +kernel) (by decide +kernel)
theorem ml_L_53 : Cond.methodLink RL 53 yX9_undo ∈ x_GW := x_in0 663 (by decide +kernel) (by decide +kernel)
theorem ml_L_56 : Cond.methodLink RL 56 yX10_undo ∈ x_GW := x_in0 1207 (by decide +kernel) (by decide +kernel)
theorem ml_L_57 : Cond.methodLink RL 57 yX9_seen ∈ x_GW := x_in0 671 (by decide +kernel) (by decide +kernel)
theorem ml_L_60 : Cond.methodLink RL 60 yX10_seen ∈ x_GW := x_in0 1211 (by decide +kernel) (by decide +kernel)
theorem ml_L_61 : Cond.methodLink RL 61 yX9_next ∈ x_GW := x_in0 675 (by decide +kernel) (by decide +kernel)
theorem ml_L_64 : Cond.methodLink RL 64 yX10_next ∈ x_GW := x_in0 1215 (by decide +kernel) (by decide +kernel)
theorem ml_L_65 : Cond.methodLink RL 65 yX9_far ∈ x_GW := x_in0 699 (by decide +kernel) (by decide +kernel)
theorem ml_L_68 : Cond.methodLink RL 68 yX10_far ∈ x_GW := x_in0 1238 (by decide +kernel) (by decide +kernel)
theorem ml_L_69 : Cond.methodLink RL 69 yX9_space ∈ x_GW := x_in0 707 (by decide +kernel) (by decide +kernel)
theorem ml_L_72 : Cond.methodLink RL 72 yX10_space ∈ x_GW := x_in0 1242 (by decide +kernel) (by decide +kernel)
theorem ml_L_73 : Cond.methodLink RL 73 yX9_rings ∈ x_GW := x_in0 716 (by decide +kernel) (by decide +kernel)
theorem ml_L_76 : Cond.methodLink RL 76 yX10_rings ∈ x_GW := x_in0 1254 (by decide +kernel) (by decide +kernel)
theorem ml_L_77 : Cond.methodLink RL 77 yX9_safe ∈ x_GW := x_in0 734 (by decide +kernel) (by decide +kernel)
theorem ml_L_80 : Cond.methodLink RL 80 yX10_safe ∈ x_GW := x_in0 1266 (by decide +kernel) (by decide +kernel)
theorem ml_L_81 : Cond.methodLink RL 81 yX9_order ∈ x_GW := x_in0 748 (by decide +kernel) (by decide +kernel)
theorem ml_L_84 : Cond.methodLink RL 84 yX10_order ∈ x_GW := x_in0 1274 (by decide +kernel) (by decide +kernel)
theorem ml_L_85 : Cond.methodLink RL 85 yX9_push ∈ x_GW := x_in0 778 (by decide +kernel) (by decide +kernel)
theorem ml_L_88 : Cond.methodLink RL 88 yX10_push ∈ x_GW := x_in0 1286 (by decide +kernel) (by decide +kernel)
theorem ml_L_89 : Cond.methodLink RL 89 yX9_clear ∈ x_GW := x_in0 786 (by decide +kernel) (by decide +kernel)
theorem ml_L_92 : Cond.methodLink RL 92 yX10_clear ∈ x_GW := x_in0 1290 (by decide +kernel) (by decide +kernel)
theorem ml_L_93 : Cond.methodLink RL 93 yX9_segment ∈ x_GW := x_in0 790 (by decide +kernel) (by decide +kernel)
theorem ml_L_96 : Cond.methodLink RL 96 yX10_segment ∈ x_GW := x_in0 1294 (by decide +kernel) (by decide +kernel)
theorem ml_L_97 : Cond.methodLink RL 97 yX9_repair ∈ x_GW := x_in0 794 (by decide +kernel) (by decide +kernel)
theorem ml_L_101 : Cond.methodLink RL 101 yX10_repair ∈ x_GW := x_in0 1298 (by decide +kernel) (by decide +kernel)
theorem ml_L_102 : Cond.methodLink RL 102 yX9_trace ∈ x_GW := x_in0 839 (by decide +kernel) (by decide +kernel)
theorem ml_L_105 : Cond.methodLink RL 105 yX10_trace ∈ x_GW := x_in0 1322 (by decide +kernel) (by decide +kernel)
theorem ml_L_106 : Cond.methodLink RL 106 yX9_untrace ∈ x_GW := x_in0 850 (by decide +kernel) (by decide +kernel)
theorem ml_L_109 : Cond.methodLink RL 109 yX10_untrace ∈ x_GW := x_in0 1326 (by decide +kernel) (by decide +kernel)
theorem ml_L_110 : Cond.methodLink RL 110 yX9_brief ∈ x_GW := x_in0 854 (by decide +kernel) (by decide +kernel)
theorem ml_L_113 : Cond.methodLink RL 113 yX10_brief ∈ x_GW := x_in0 1330 (by decide +kernel) (by decide +kernel)
theorem ml_L_114 : Cond.methodLink RL 114 yX9_adopt ∈ x_GW := x_in0 867 (by decide +kernel) (by decide +kernel)
theorem ml_L_117 : Cond.methodLink RL 117 yX10_adopt ∈ x_GW := x_in0 1338 (by decide +kernel) (by decide +kernel)
theorem ml_L_118 : Cond.methodLink RL 118 yX9_protect ∈ x_GW := x_in0 876 (by decide +kernel) (by decide +kernel)
theorem ml_L_121 : Cond.methodLink RL 121 yX10_protect ∈ x_GW := x_in0 1342 (by decide +kernel) (by decide +kernel)
theorem ml_L_122 : Cond.methodLink RL 122 yX9_send ∈ x_GW := x_in0 880 (by decide +kernel) (by decide +kernel)
theorem ml_L_125 : Cond.methodLink RL 125 yX10_send ∈ x_GW := x_in0 1346 (by decide +kernel) (by decide +kernel)
theorem ml_L_126 : Cond.methodLink RL 126 yX9_way ∈ x_GW := x_in0 949 (by decide +kernel) (by decide +kernel)
theorem ml_L_129 : Cond.methodLink RL 129 yX10_way ∈ x_GW := x_in0 1374 (by decide +kernel) (by decide +kernel)
theorem ml_L_130 : Cond.methodLink RL 130 yX9_count ∈ x_GW := x_in0 954 (by decide +kernel) (by decide +kernel)
theorem ml_L_133 : Cond.methodLink RL 133 yX10_count ∈ x_GW := x_in0 1378 (by decide +kernel) (by decide +kernel)
theorem ml_X0_3 : Cond.methodLink RX0 3 objectInit ∈ x_GW := x_in0 318 (by decide +kernel) (by decide +kernel)
theorem ml_X0_11 : Cond.methodLink RX0 11 yX6_init ∈ x_GW := x_in0 320 (by decide +kernel) (by decide +kernel)
theorem ml_X0_41 : Cond.methodLink RX0 41 yX7_init ∈ x_GW := x_in0 322 (by decide +kernel) (by decide +kernel)
theorem ml_X0_59 : Cond.methodLink RX0 59 yX5_findWalk ∈ x_GW := x_in0 802 (by decide +kernel) (by decide +kernel)
theorem ml_X0_65 : Cond.methodLink RX0 65 yX0_shorten ∈ x_GW := x_in0 807 (by decide +kernel) (by decide +kernel)
theorem ml_X0_69 : Cond.methodLink RX0 69 yX6_takeOver ∈ x_GW := x_in0 862 (by decide +kernel) (by decide +kernel)
theorem ml_X0_80 : Cond.methodLink RX0 80 yX5_measure ∈ x_GW := x_in0 811 (by decide +kernel) (by decide +kernel)
theorem ml_X0_84 : Cond.methodLink RX0 84 yX0_followedFrom ∈ x_GW := x_in0 812 (by decide +kernel) (by decide +kernel)
theorem ml_X0_88 : Cond.methodLink RX0 88 yX0_linkIn ∈ x_GW := x_in0 817 (by decide +kernel) (by decide +kernel)
theorem ml_X0_92 : Cond.methodLink RX0 92 yX0_chooseFirst ∈ x_GW := x_in0 822 (by decide +kernel) (by decide +kernel)
theorem ml_X0_95 : Cond.methodLink RX0 95 yX0_writeFound ∈ x_GW := x_in0 830 (by decide +kernel) (by decide +kernel)
theorem ml_X0_98 : Cond.methodLink RX0 98 yX5_nodeAhead ∈ x_GW := x_in0 816 (by decide +kernel) (by decide +kernel)
theorem ml_X0_101 : Cond.methodLink RX0 101 yX0_lowestKind ∈ x_GW := x_in0 826 (by decide +kernel) (by decide +kernel)
theorem ml_X0_105 : Cond.methodLink RX0 105 yX2_linkBetween ∈ x_GW := x_in0 821 (by decide +kernel) (by decide +kernel)
theorem ml_X0_111 : Cond.methodLink RX0 111 yX7_put ∈ x_GW := x_in0 834 (by decide +kernel) (by decide +kernel)
theorem ml_X1_3 : Cond.methodLink RX1 3 objectInit ∈ x_GW := x_in0 361 (by decide +kernel) (by decide +kernel)
theorem ml_X1_11 : Cond.methodLink RX1 11 yX7_init ∈ x_GW := x_in0 363 (by decide +kernel) (by decide +kernel)
theorem ml_X1_22 : Cond.methodLink RX1 22 yX6_init ∈ x_GW := x_in0 365 (by decide +kernel) (by decide +kernel)
theorem ml_X1_65 : Cond.methodLink RX1 65 yX7_putOnTop ∈ x_GW := x_in0 888 (by decide +kernel) (by decide +kernel)
theorem ml_X1_69 : Cond.methodLink RX1 69 yX6_put ∈ x_GW := x_in0 892 (by decide +kernel) (by decide +kernel)
theorem ml_X1_72 : Cond.methodLink RX1 72 yX1_takeOffReached ∈ x_GW := x_in0 897 (by decide +kernel) (by decide +kernel)
theorem ml_X1_75 : Cond.methodLink RX1 75 yX1_hops ∈ x_GW := x_in0 909 (by decide +kernel) (by decide +kernel)
theorem ml_X1_79 : Cond.methodLink RX1 79 yX1_linkAhead ∈ x_GW := x_in0 913 (by decide +kernel) (by decide +kernel)
theorem ml_X1_83 : Cond.methodLink RX1 83 yX2_isUp ∈ x_GW := x_in0 935 (by decide +kernel) (by decide +kernel)
theorem ml_X1_89 : Cond.methodLink RX1 89 yX1_crossLink ∈ x_GW := x_in0 936 (by decide +kernel) (by decide +kernel)
theorem ml_X1_93 : Cond.methodLink RX1 93 yX1_mend ∈ x_GW := x_in0 940 (by decide +kernel) (by decide +kernel)
theorem ml_X1_97 : Cond.methodLink RX1 97 yX7_isTopTo ∈ x_GW := x_in0 901 (by decide +kernel) (by decide +kernel)
theorem ml_X1_100 : Cond.methodLink RX1 100 yX7_dropTop ∈ x_GW := x_in0 905 (by decide +kernel) (by decide +kernel)
theorem ml_X1_103 : Cond.methodLink RX1 103 yX7_topWhat ∈ x_GW := x_in0 917 (by decide +kernel) (by decide +kernel)
theorem ml_X1_106 : Cond.methodLink RX1 106 yX7_topKind ∈ x_GW := x_in0 921 (by decide +kernel) (by decide +kernel)
theorem ml_X1_109 : Cond.methodLink RX1 109 yX2_otherEnd ∈ x_GW := x_in0 925 (by decide +kernel) (by decide +kernel)
theorem ml_X1_116 : Cond.methodLink RX1 116 yX5_measure ∈ x_GW := x_in0 930 (by decide +kernel) (by decide +kernel)
theorem ml_X1_122 : Cond.methodLink RX1 122 yX5_linkAhead ∈ x_GW := x_in0 931 (by decide +kernel) (by decide +kernel)
theorem ml_X1_126 : Cond.methodLink RX1 126 yX0_findRepair ∈ x_GW := x_in0 944 (by decide +kernel) (by decide +kernel)
theorem ml_X10_1 : Cond.methodLink RX10 1 objectInit ∈ x_GW := x_in0 968 (by decide +kernel) (by decide +kernel)
theorem ml_X10_86 : Cond.methodLink RX10 86 yX10_in ∈ x_GW := x_in0 1109 (by decide +kernel) (by decide +kernel)
theorem ml_X10_93 : Cond.methodLink RX10 93 yX10_has ∈ x_GW := x_in0 1223 (by decide +kernel) (by decide +kernel)
theorem ml_X10_97 : Cond.methodLink RX10 97 yX10_length ∈ x_GW := x_in0 1226 (by decide +kernel) (by decide +kernel)
theorem ml_X10_101 : Cond.methodLink RX10 101 yX10_linkOf ∈ x_GW := x_in0 1234 (by decide +kernel) (by decide +kernel)
theorem ml_X10_104 : Cond.methodLink RX10 104 yX10_lays ∈ x_GW := x_in0 1219 (by decide +kernel) (by decide +kernel)
theorem ml_X10_111 : Cond.methodLink RX10 111 yX10_nextOf ∈ x_GW := x_in0 1230 (by decide +kernel) (by decide +kernel)
theorem ml_X10_115 : Cond.methodLink RX10 115 yX10_leads ∈ x_GW := x_in0 1314 (by decide +kernel) (by decide +kernel)
theorem ml_X10_119 : Cond.methodLink RX10 119 yX10_laysBy ∈ x_GW := x_in0 1310 (by decide +kernel) (by decide +kernel)
theorem ml_X10_126 : Cond.methodLink RX10 126 yX10_walks ∈ x_GW := x_in0 1246 (by decide +kernel) (by decide +kernel)
theorem ml_X10_130 : Cond.methodLink RX10 130 yX10_shortens ∈ x_GW := x_in0 1306 (by decide +kernel) (by decide +kernel)
theorem ml_X10_143 : Cond.methodLink RX10 143 yX10_isLetter ∈ x_GW := x_in0 1132 (by decide +kernel) (by decide +kernel)
theorem ml_X10_147 : Cond.methodLink RX10 147 yX10_isFigure ∈ x_GW := x_in0 1136 (by decide +kernel) (by decide +kernel)
theorem ml_X10_154 : Cond.methodLink RX10 154 yX10_looks ∈ x_GW := x_in0 1128 (by decide +kernel) (by decide +kernel)
theorem ml_X10_158 : Cond.methodLink RX10 158 yX10_takes ∈ x_GW := x_in0 1144 (by decide +kernel) (by decide +kernel)
theorem ml_X10_165 : Cond.methodLink RX10 165 yX10_figure ∈ x_GW := x_in0 1152 (by decide +kernel) (by decide +kernel)
theorem ml_X10_183 : Cond.methodLink RX10 183 yX10_readLinkOf ∈ x_GW := x_in0 1160 (by decide +kernel) (by decide +kernel)
theorem ml_X10_186 : Cond.methodLink RX10 186 yX10_isName ∈ x_GW := x_in0 1140 (by decide +kernel) (by decide +kernel)
theorem ml_X10_190 : Cond.methodLink RX10 190 yX10_readsNodes ∈ x_GW := x_in0 1148 (by decide +kernel) (by decide +kernel)
theorem ml_X10_193 : Cond.methodLink RX10 193 yX10_readsLink ∈ x_GW := x_in0 1156 (by decide +kernel) (by decide +kernel)
theorem ml_X10_196 : Cond.methodLink RX10 196 yX10_clause ∈ x_GW := x_in0 1124 (by decide +kernel) (by decide +kernel)
theorem ml_X10_199 : Cond.methodLink RX10 199 yX10_reads ∈ x_GW := x_in0 1120 (by decide +kernel) (by decide +kernel)
theorem ml_X10_221 : Cond.methodLink RX10 221 yX10_isLink ∈ x_GW := x_in0 1172 (by decide +kernel) (by decide +kernel)
theorem ml_X10_224 : Cond.methodLink RX10 224 yX10_notes ∈ x_GW := x_in0 1184 (by decide +kernel) (by decide +kernel)
theorem ml_X10_227 : Cond.methodLink RX10 227 yX10_ones ∈ x_GW := x_in0 1188 (by decide +kernel) (by decide +kernel)
theorem ml_X10_231 : Cond.methodLink RX10 231 yX10_becomesUp ∈ x_GW := x_in0 1180 (by decide +kernel) (by decide +kernel)
theorem ml_X10_234 : Cond.methodLink RX10 234 yX10_isNode ∈ x_GW := x_in0 1203 (by decide +kernel) (by decide +kernel)
theorem ml_X10_237 : Cond.methodLink RX10 237 yX10_isOver ∈ x_GW := x_in0 1250 (by decide +kernel) (by decide +kernel)
theorem ml_X10_240 : Cond.methodLink RX10 240 yX10_ringsOf ∈ x_GW := x_in0 1262 (by decide +kernel) (by decide +kernel)
theorem ml_X10_243 : Cond.methodLink RX10 243 yX10_laysGoes ∈ x_GW := x_in0 1258 (by decide +kernel) (by decide +kernel)
theorem ml_X10_246 : Cond.methodLink RX10 246 yX10_isSafe ∈ x_GW := x_in0 1270 (by decide +kernel) (by decide +kernel)
theorem ml_X10_249 : Cond.methodLink RX10 249 yX10_behind ∈ x_GW := x_in0 1278 (by decide +kernel) (by decide +kernel)
theorem ml_X10_252 : Cond.methodLink RX10 252 yX10_laysOrders ∈ x_GW := x_in0 1282 (by decide +kernel) (by decide +kernel)
theorem ml_X10_256 : Cond.methodLink RX10 256 yX10_repairs ∈ x_GW := x_in0 1302 (by decide +kernel) (by decide +kernel)
theorem ml_X10_259 : Cond.methodLink RX10 259 yX10_shortAt ∈ x_GW := x_in0 1318 (by decide +kernel) (by decide +kernel)
theorem ml_X10_262 : Cond.methodLink RX10 262 yX10_briefs ∈ x_GW := x_in0 1334 (by decide +kernel) (by decide +kernel)
theorem ml_X10_269 : Cond.methodLink RX10 269 yX10_otherEnd ∈ x_GW := x_in0 1366 (by decide +kernel) (by decide +kernel)
theorem ml_X10_272 : Cond.methodLink RX10 272 yX10_bears ∈ x_GW := x_in0 1350 (by decide +kernel) (by decide +kernel)
theorem ml_X10_274 : Cond.methodLink RX10 274 yX10_leavesOwn ∈ x_GW := x_in0 1358 (by decide +kernel) (by decide +kernel)
theorem ml_X10_277 : Cond.methodLink RX10 277 yX10_linkFrom ∈ x_GW := x_in0 1362 (by decide +kernel) (by decide +kernel)
theorem ml_X10_280 : Cond.methodLink RX10 280 yX10_mends ∈ x_GW := x_in0 1370 (by decide +kernel) (by decide +kernel)
theorem ml_X10_283 : Cond.methodLink RX10 283 yX10_goesFrom ∈ x_GW := x_in0 1354 (by decide +kernel) (by decide +kernel)
theorem ml_X2_3 : Cond.methodLink RX2 3 objectInit ∈ x_GW := x_in0 100 (by decide +kernel) (by decide +kernel)
theorem ml_X2_40 : Cond.methodLink RX2 40 Lib.Math.min.name ∈ x_GW := x_in0 458 (by decide +kernel) (by decide +kernel)
theorem ml_X2_46 : Cond.methodLink RX2 46 Lib.Math.max.name ∈ x_GW := x_in0 461 (by decide +kernel) (by decide +kernel)
theorem ml_X2_49 : Cond.methodLink RX2 49 yX2_pairOf ∈ x_GW := x_in0 455 (by decide +kernel) (by decide +kernel)
theorem ml_X2_53 : Cond.methodLink RX2 53 yX2_hasLink ∈ x_GW := x_in0 929 (by decide +kernel) (by decide +kernel)
theorem ml_X2_57 : Cond.methodLink RX2 57 yJ7_fill_53178 ∈ x_GW := x_in0 584 (by decide +kernel) (by decide +kernel)
theorem ml_X2_63 : Cond.methodLink RX2 63 yX2_linkBetween ∈ x_GW := x_in0 591 (by decide +kernel) (by decide +kernel)
theorem ml_X2_66 : Cond.methodLink RX2 66 yX2_addLink ∈ x_GW := x_in0 595 (by decide +kernel) (by decide +kernel)
theorem ml_X3_3 : Cond.methodLink RX3 3 objectInit ∈ x_GW := x_in0 197 (by decide +kernel) (by decide +kernel)
theorem ml_X3_40 : Cond.methodLink RX3 40 yX3_keep ∈ x_GW := x_in0 628 (by decide +kernel) (by decide +kernel)
theorem ml_X3_53 : Cond.methodLink RX3 53 Lib.Math.min.name ∈ x_GW := x_in0 632 (by decide +kernel) (by decide +kernel)
theorem ml_X4_3 : Cond.methodLink RX4 3 objectInit ∈ x_GW := x_in0 245 (by decide +kernel) (by decide +kernel)
theorem ml_X4_24 : Cond.methodLink RX4 24 yX6_init ∈ x_GW := x_in0 248 (by decide +kernel) (by decide +kernel)
theorem ml_X4_45 : Cond.methodLink RX4 45 yX4_lookTowards ∈ x_GW := x_in0 742 (by decide +kernel) (by decide +kernel)
theorem ml_X4_51 : Cond.methodLink RX4 51 yX5_measure ∈ x_GW := x_in0 724 (by decide +kernel) (by decide +kernel)
theorem ml_X4_57 : Cond.methodLink RX4 57 yX5_nodeAhead ∈ x_GW := x_in0 725 (by decide +kernel) (by decide +kernel)
theorem ml_X4_64 : Cond.methodLink RX4 64 yX4_ringsOf ∈ x_GW := x_in0 747 (by decide +kernel) (by decide +kernel)
theorem ml_X4_68 : Cond.methodLink RX4 68 yX4_goesRound ∈ x_GW := x_in0 730 (by decide +kernel) (by decide +kernel)
theorem ml_X4_72 : Cond.methodLink RX4 72 yX2_behind ∈ x_GW := x_in0 756 (by decide +kernel) (by decide +kernel)
theorem ml_X4_76 : Cond.methodLink RX4 76 yX4_lookAround ∈ x_GW := x_in0 760 (by decide +kernel) (by decide +kernel)
theorem ml_X4_82 : Cond.methodLink RX4 82 yX4_firstToLearn ∈ x_GW := x_in0 761 (by decide +kernel) (by decide +kernel)
theorem ml_X4_85 : Cond.methodLink RX4 85 yX6_put ∈ x_GW := x_in0 766 (by decide +kernel) (by decide +kernel)
theorem ml_X4_88 : Cond.methodLink RX4 88 yX6_last ∈ x_GW := x_in0 770 (by decide +kernel) (by decide +kernel)
theorem ml_X4_91 : Cond.methodLink RX4 91 yX4_hasRings ∈ x_GW := x_in0 765 (by decide +kernel) (by decide +kernel)
theorem ml_X5_3 : Cond.methodLink RX5 3 objectInit ∈ x_GW := x_in0 226 (by decide +kernel) (by decide +kernel)
theorem ml_X5_33 : Cond.methodLink RX5 33 yX5_startFrom ∈ x_GW := x_in0 683 (by decide +kernel) (by decide +kernel)
theorem ml_X5_50 : Cond.methodLink RX5 50 yX5_shorten ∈ x_GW := x_in0 687 (by decide +kernel) (by decide +kernel)
theorem ml_X5_54 : Cond.methodLink RX5 54 yX5_leadOn ∈ x_GW := x_in0 691 (by decide +kernel) (by decide +kernel)
theorem ml_X5_58 : Cond.methodLink RX5 58 yX5_measure ∈ x_GW := x_in0 715 (by decide +kernel) (by decide +kernel)
theorem ml_X5_66 : Cond.methodLink RX5 66 yX6_put ∈ x_GW := x_in0 806 (by decide +kernel) (by decide +kernel)
theorem ml_X6_3 : Cond.methodLink RX6 3 objectInit ∈ x_GW := x_in0 251 (by decide +kernel) (by decide +kernel)
theorem ml_X6_15 : Cond.methodLink RX6 15 Lib.Math.max.name ∈ x_GW := x_in0 252 (by decide +kernel) (by decide +kernel)
theorem ml_X6_25 : Cond.methodLink RX6 25 yX6_put ∈ x_GW := x_in0 866 (by decide +kernel) (by decide +kernel)
theorem ml_X7_3 : Cond.methodLink RX7 3 objectInit ∈ x_GW := x_in0 294 (by decide +kernel) (by decide +kernel)
theorem ml_X7_15 : Cond.methodLink RX7 15 Lib.Math.max.name ∈ x_GW := x_in0 295 (by decide +kernel) (by decide +kernel)
theorem ml_X7_28 : Cond.methodLink RX7 28 yX7_put ∈ x_GW := x_in0 875 (by decide +kernel) (by decide +kernel)
theorem ml_X8_3 : Cond.methodLink RX8 3 objectInit ∈ x_GW := x_in0 161 (by decide +kernel) (by decide +kernel)
theorem ml_X8_42 : Cond.methodLink RX8 42 yX8_told ∈ x_GW := x_in0 575 (by decide +kernel) (by decide +kernel)
theorem ml_X8_49 : Cond.methodLink RX8 49 yX2_pairsWithLinks ∈ x_GW := x_in0 451 (by decide +kernel) (by decide +kernel)
theorem ml_X8_53 : Cond.methodLink RX8 53 yX8_readSign ∈ x_GW := x_in0 462 (by decide +kernel) (by decide +kernel)
theorem ml_X8_57 : Cond.methodLink RX8 57 yX8_readClause ∈ x_GW := x_in0 477 (by decide +kernel) (by decide +kernel)
theorem ml_X8_61 : Cond.methodLink RX8 61 yX8_skipBlanks ∈ x_GW := x_in0 470 (by decide +kernel) (by decide +kernel)
theorem ml_X8_65 : Cond.methodLink RX8 65 yX8_readToken ∈ x_GW := x_in0 466 (by decide +kernel) (by decide +kernel)
theorem ml_X8_69 : Cond.methodLink RX8 69 yX8_isWord ∈ x_GW := x_in0 482 (by decide +kernel) (by decide +kernel)
theorem ml_X8_73 : Cond.methodLink RX8 73 yX8_readNodes ∈ x_GW := x_in0 534 (by decide +kernel) (by decide +kernel)
theorem ml_X8_78 : Cond.methodLink RX8 78 yX8_readLink ∈ x_GW := x_in0 547 (by decide +kernel) (by decide +kernel)
theorem ml_X8_81 : Cond.methodLink RX8 81 yX8_readNumber ∈ x_GW := x_in0 538 (by decide +kernel) (by decide +kernel)
theorem ml_X8_84 : Cond.methodLink RX8 84 yX8_keep ∈ x_GW := x_in0 542 (by decide +kernel) (by decide +kernel)
theorem ml_X8_88 : Cond.methodLink RX8 88 yX2_pairOf ∈ x_GW := x_in0 551 (by decide +kernel) (by decide +kernel)
theorem ml_X8_92 : Cond.methodLink RX8 92 yX8_isTooMany ∈ x_GW := x_in0 552 (by decide +kernel) (by decide +kernel)
theorem ml_X8_96 : Cond.methodLink RX8 96 yJ13_bitCount_95d88 ∈ x_GW := x_in0 556 (by decide +kernel) (by decide +kernel)
theorem ml_X8_102 : Cond.methodLink RX8 102 yJ0_length_8abf5 ∈ x_GW := x_in0 486 (by decide +kernel) (by decide +kernel)
theorem ml_X8_107 : Cond.methodLink RX8 107 yJ0_charAt_5068e ∈ x_GW := x_in0 496 (by decide +kernel) (by decide +kernel)
theorem ml_X8_111 : Cond.methodLink RX8 111 yX8_rowOf ∈ x_GW := x_in0 474 (by decide +kernel) (by decide +kernel)
theorem ml_X9_1 : Cond.methodLink RX9 1 objectInit ∈ x_GW := x_in0 92 (by decide +kernel) (by decide +kernel)
theorem ml_X9_18 : Cond.methodLink RX9 18 yX8_init ∈ x_GW := x_in0 158 (by decide +kernel) (by decide +kernel)
theorem ml_X9_27 : Cond.methodLink RX9 27 yX3_init ∈ x_GW := x_in0 194 (by decide +kernel) (by decide +kernel)
theorem ml_X9_34 : Cond.methodLink RX9 34 yX5_init ∈ x_GW := x_in0 223 (by decide +kernel) (by decide +kernel)
theorem ml_X9_41 : Cond.methodLink RX9 41 yX4_init ∈ x_GW := x_in0 242 (by decide +kernel) (by decide +kernel)
theorem ml_X9_50 : Cond.methodLink RX9 50 yX7_init ∈ x_GW := x_in0 291 (by decide +kernel) (by decide +kernel)
theorem ml_X9_59 : Cond.methodLink RX9 59 yX6_init ∈ x_GW := x_in0 312 (by decide +kernel) (by decide +kernel)
theorem ml_X9_66 : Cond.methodLink RX9 66 yX0_init ∈ x_GW := x_in0 315 (by decide +kernel) (by decide +kernel)
theorem ml_X9_73 : Cond.methodLink RX9 73 yX1_init ∈ x_GW := x_in0 358 (by decide +kernel) (by decide +kernel)
theorem ml_X9_84 : Cond.methodLink RX9 84 yX8_addLetter ∈ x_GW := x_in0 435 (by decide +kernel) (by decide +kernel)
theorem ml_X9_87 : Cond.methodLink RX9 87 yX8_findFault ∈ x_GW := x_in0 447 (by decide +kernel) (by decide +kernel)
theorem ml_X9_94 : Cond.methodLink RX9 94 yX9_doClause ∈ x_GW := x_in0 567 (by decide +kernel) (by decide +kernel)
theorem ml_X9_100 : Cond.methodLink RX9 100 yX1_forgetAll ∈ x_GW := x_in0 599 (by decide +kernel) (by decide +kernel)
theorem ml_X9_107 : Cond.methodLink RX9 107 yJ7_fill_53178 ∈ x_GW := x_in0 603 (by decide +kernel) (by decide +kernel)
theorem ml_X9_113 : Cond.methodLink RX9 113 yX8_tellsNodes ∈ x_GW := x_in0 571 (by decide +kernel) (by decide +kernel)
theorem ml_X9_117 : Cond.methodLink RX9 117 yX8_told ∈ x_GW := x_in0 579 (by decide +kernel) (by decide +kernel)
theorem ml_X9_121 : Cond.methodLink RX9 121 yX2_startAnew ∈ x_GW := x_in0 580 (by decide +kernel) (by decide +kernel)
theorem ml_X9_129 : Cond.methodLink RX9 129 yX2_putLink ∈ x_GW := x_in0 587 (by decide +kernel) (by decide +kernel)
theorem ml_X9_133 : Cond.methodLink RX9 133 yX2_hasLink ∈ x_GW := x_in0 608 (by decide +kernel) (by decide +kernel)
theorem ml_X9_148 : Cond.methodLink RX9 148 yX2_isUp ∈ x_GW := x_in0 612 (by decide +kernel) (by decide +kernel)
theorem ml_X9_151 : Cond.methodLink RX9 151 yX9_turn ∈ x_GW := x_in0 620 (by decide +kernel) (by decide +kernel)
theorem ml_X9_155 : Cond.methodLink RX9 155 yX3_keepUp ∈ x_GW := x_in0 624 (by decide +kernel) (by decide +kernel)
theorem ml_X9_161 : Cond.methodLink RX9 161 yJ6_bitCount_0f7a4 ∈ x_GW := x_in0 633 (by decide +kernel) (by decide +kernel)
theorem ml_X9_166 : Cond.methodLink RX9 166 yX3_keepPrices ∈ x_GW := x_in0 647 (by decide +kernel) (by decide +kernel)
theorem ml_X9_169 : Cond.methodLink RX9 169 yX2_hasNode ∈ x_GW := x_in0 655 (by decide +kernel) (by decide +kernel)
theorem ml_X9_175 : Cond.methodLink RX9 175 yX3_keepSeen ∈ x_GW := x_in0 659 (by decide +kernel) (by decide +kernel)
theorem ml_X9_178 : Cond.methodLink RX9 178 yX3_takeBack ∈ x_GW := x_in0 667 (by decide +kernel) (by decide +kernel)
theorem ml_X9_181 : Cond.methodLink RX9 181 yX5_measure ∈ x_GW := x_in0 679 (by decide +kernel) (by decide +kernel)
theorem ml_X9_185 : Cond.methodLink RX9 185 yX5_nodeAhead ∈ x_GW := x_in0 695 (by decide +kernel) (by decide +kernel)
theorem ml_X9_188 : Cond.methodLink RX9 188 yX5_sumFrom ∈ x_GW := x_in0 703 (by decide +kernel) (by decide +kernel)
theorem ml_X9_194 : Cond.methodLink RX9 194 yX5_walkSpares ∈ x_GW := x_in0 711 (by decide +kernel) (by decide +kernel)
theorem ml_X9_198 : Cond.methodLink RX9 198 yX4_lookTowards ∈ x_GW := x_in0 720 (by decide +kernel) (by decide +kernel)
theorem ml_X9_201 : Cond.methodLink RX9 201 yX4_ringsOf ∈ x_GW := x_in0 726 (by decide +kernel) (by decide +kernel)
theorem ml_X9_204 : Cond.methodLink RX9 204 yX4_lookAround ∈ x_GW := x_in0 738 (by decide +kernel) (by decide +kernel)
theorem ml_X9_207 : Cond.methodLink RX9 207 yX4_hasRings ∈ x_GW := x_in0 743 (by decide +kernel) (by decide +kernel)
theorem ml_X9_210 : Cond.methodLink RX9 210 yX4_findOrder ∈ x_GW := x_in0 752 (by decide +kernel) (by decide +kernel)
theorem ml_X9_217 : Cond.methodLink RX9 217 yX6_told ∈ x_GW := x_in0 774 (by decide +kernel) (by decide +kernel)
theorem ml_X9_219 : Cond.methodLink RX9 219 yX7_put ∈ x_GW := x_in0 782 (by decide +kernel) (by decide +kernel)
theorem ml_X9_229 : Cond.methodLink RX9 229 yX0_findRepair ∈ x_GW := x_in0 798 (by decide +kernel) (by decide +kernel)
theorem ml_X9_236 : Cond.methodLink RX9 236 yX7_told ∈ x_GW := x_in0 835 (by decide +kernel) (by decide +kernel)
theorem ml_X9_237 : Cond.methodLink RX9 237 yX6_last ∈ x_GW := x_in0 843 (by decide +kernel) (by decide +kernel)
theorem ml_X9_240 : Cond.methodLink RX9 240 yX6_has ∈ x_GW := x_in0 844 (by decide +kernel) (by decide +kernel)
theorem ml_X9_243 : Cond.methodLink RX9 243 yX2_linkBetween ∈ x_GW := x_in0 848 (by decide +kernel) (by decide +kernel)
theorem ml_X9_246 : Cond.methodLink RX9 246 yX6_put ∈ x_GW := x_in0 849 (by decide +kernel) (by decide +kernel)
theorem ml_X9_248 : Cond.methodLink RX9 248 yX0_findBrief ∈ x_GW := x_in0 858 (by decide +kernel) (by decide +kernel)
theorem ml_X9_252 : Cond.methodLink RX9 252 yX7_takeOver ∈ x_GW := x_in0 871 (by decide +kernel) (by decide +kernel)
theorem ml_X9_256 : Cond.methodLink RX9 256 yX1_start ∈ x_GW := x_in0 884 (by decide +kernel) (by decide +kernel)
theorem ml_X9_260 : Cond.methodLink RX9 260 yX1_carry ∈ x_GW := x_in0 893 (by decide +kernel) (by decide +kernel)
theorem ml_X9_263 : Cond.methodLink RX9 263 yX1_noteEnd ∈ x_GW := x_in0 945 (by decide +kernel) (by decide +kernel)
theorem ml_X9_269 : Cond.methodLink RX9 269 yX1_hops ∈ x_GW := x_in0 953 (by decide +kernel) (by decide +kernel)
theorem ml_X9_278 : Cond.methodLink RX9 278 yX2_behind ∈ x_GW := x_in0 958 (by decide +kernel) (by decide +kernel)
theorem ml_X9_281 : Cond.methodLink RX9 281 yX1_tally ∈ x_GW := x_in0 959 (by decide +kernel) (by decide +kernel)
theorem cl_L_7 : Cond.classLink RL 7 RX9 ∈ x_GW := x_in0 87 (by decide +kernel) (by decide +kernel)
theorem cl_L_10 : Cond.classLink RL 10 RX10 ∈ x_GW := x_in0 963 (by decide +kernel) (by decide +kernel)
theorem cl_X0_9 : Cond.classLink RX0 9 RX6 ∈ x_GW := x_in0 319 (by decide +kernel) (by decide +kernel)
theorem cl_X0_39 : Cond.classLink RX0 39 RX7 ∈ x_GW := x_in0 321 (by decide +kernel) (by decide +kernel)
theorem cl_X1_9 : Cond.classLink RX1 9 RX7 ∈ x_GW := x_in0 362 (by decide +kernel) (by decide +kernel)
theorem cl_X1_20 : Cond.classLink RX1 20 RX6 ∈ x_GW := x_in0 364 (by decide +kernel) (by decide +kernel)
theorem cl_X4_22 : Cond.classLink RX4 22 RX6 ∈ x_GW := x_in0 246 (by decide +kernel) (by decide +kernel)
theorem cl_X9_7 : Cond.classLink RX9 7 RX2 ∈ x_GW := x_in0 95 (by decide +kernel) (by decide +kernel)
theorem cl_X9_16 : Cond.classLink RX9 16 RX8 ∈ x_GW := x_in0 156 (by decide +kernel) (by decide +kernel)
theorem cl_X9_25 : Cond.classLink RX9 25 RX3 ∈ x_GW := x_in0 192 (by decide +kernel) (by decide +kernel)
theorem cl_X9_32 : Cond.classLink RX9 32 RX5 ∈ x_GW := x_in0 221 (by decide +kernel) (by decide +kernel)
theorem cl_X9_39 : Cond.classLink RX9 39 RX4 ∈ x_GW := x_in0 240 (by decide +kernel) (by decide +kernel)
theorem cl_X9_48 : Cond.classLink RX9 48 RX7 ∈ x_GW := x_in0 289 (by decide +kernel) (by decide +kernel)
theorem cl_X9_57 : Cond.classLink RX9 57 RX6 ∈ x_GW := x_in0 311 (by decide +kernel) (by decide +kernel)
theorem cl_X9_64 : Cond.classLink RX9 64 RX0 ∈ x_GW := x_in0 313 (by decide +kernel) (by decide +kernel)
theorem cl_X9_71 : Cond.classLink RX9 71 RX1 ∈ x_GW := x_in0 356 (by decide +kernel) (by decide +kernel)
theorem ct_J13_314 : Cond.constantLong RJ13 314 6148914691236517205 ∈ x_GW := x_in0 559 (by decide +kernel) (by decide +kernel)
theorem ct_J13_316 : Cond.constantLong RJ13 316 3689348814741910323 ∈ x_GW := x_in0 560 (by decide +kernel) (by decide +kernel)
theorem ct_J13_318 : Cond.constantLong RJ13 318 1085102592571150095 ∈ x_GW := x_in0 561 (by decide +kernel) (by decide +kernel)
theorem ct_J6_265 : Cond.constant RJ6 265 1431655765 ∈ x_GW := x_in0 636 (by decide +kernel) (by decide +kernel)
theorem ct_J6_266 : Cond.constant RJ6 266 858993459 ∈ x_GW := x_in0 637 (by decide +kernel) (by decide +kernel)
theorem ct_J6_267 : Cond.constant RJ6 267 252645135 ∈ x_GW := x_in0 638 (by decide +kernel) (by decide +kernel)
theorem qm_max : Cond.static Lib.Math.max.name ∈ x_GW ∧ Cond.initialized "java/lang/Math" ∈ x_GW ∧ Cond.code Lib.Math.max.name Lib.Math.max.code 2 (some .int) ∈ x_GW := ⟨x_in0 253 (by decide +kernel) (by decide +kernel), x_in0 75 (by decide +kernel) (by decide +kernel), x_in0 254 (by decide +kernel) (by decide +kernel)⟩
theorem qm_min : Cond.static Lib.Math.min.name ∈ x_GW ∧ Cond.initialized "java/lang/Math" ∈ x_GW ∧ Cond.code Lib.Math.min.name Lib.Math.min.code 2 (some .int) ∈ x_GW := ⟨x_in0 459 (by decide +kernel) (by decide +kernel), x_in0 75 (by decide +kernel) (by decide +kernel), x_in0 460 (by decide +kernel) (by decide +kernel)⟩
end
section
theorem dX0_init_0 : decode cX0_init 0 = .ok (.aload_n 0, 1) := by decide +kernel
theorem dX0_init_1 : decode cX0_init 1 = .ok (.invokespecial 3, 3) := by decide +kernel
theorem dX0_init_4 : decode cX0_init 4 = .ok (.aload_n 0, 1) := by decide +kernel
theorem dX0_init_5 : decode cX0_init 5 = .ok (.new 9, 3) := by decide +kernel
theorem dX0_init_8 : decode cX0_init 8 = .ok (.dup, 1) := by decide +kernel
theorem dX0_init_9 : decode cX0_init 9 = .ok (.bipush 8, 2) := by decide +kernel
theorem dX0_init_11 : decode cX0_init 11 = .ok (.invokespecial 11, 3) := by decide +kernel
theorem dX0_init_14 : decode cX0_init 14 = .ok (.putfield 14, 3) := by decide +kernel
theorem dX0_init_17 : decode cX0_init 17 = .ok (.aload_n 0, 1) := by decide +kernel
theorem dX0_init_18 : decode cX0_init 18 = .ok (.bipush 8, 2) := by decide +kernel
theorem dX0_init_20 : decode cX0_init 20 = .ok (.newarray .int, 2) := by decide +kernel
theorem dX0_init_22 : decode cX0_init 22 = .ok (.putfield 20, 3) := by decide +kernel
theorem dX0_init_25 : decode cX0_init 25 = .ok (.aload_n 0, 1) := by decide +kernel
theorem dX0_init_26 : decode cX0_init 26 = .ok (.bipush 8, 2) := by decide +kernel
theorem dX0_init_28 : decode cX0_init 28 = .ok (.newarray .int, 2) := by decide +kernel
theorem dX0_init_30 : decode cX0_init 30 = .ok (.putfield 24, 3) := by decide +kernel
theorem dX0_init_33 : decode cX0_init 33 = .ok (.aload_n 0, 1) := by decide +kernel
theorem dX0_init_34 : decode cX0_init 34 = .ok (.bipush 8, 2) := by decide +kernel
theorem dX0_init_36 : decode cX0_init 36 = .ok (.newarray .int, 2) := by decide +kernel
theorem dX0_init_38 : decode cX0_init 38 = .ok (.putfield 27, 3) := by decide +kernel
theorem dX0_init_41 : decode cX0_init 41 = .ok (.aload_n 0, 1) := by decide +kernel
theorem dX0_init_42 : decode cX0_init 42 = .ok (.bipush 8, 2) := by decide +kernel
theorem dX0_init_44 : decode cX0_init 44 = .ok (.newarray .int, 2) := by decide +kernel
theorem dX0_init_46 : decode cX0_init 46 = .ok (.putfield 30, 3) := by decide +kernel
theorem dX0_init_49 : decode cX0_init 49 = .ok (.aload_n 0, 1) := by decide +kernel
theorem dX0_init_50 : decode cX0_init 50 = .ok (.bipush 8, 2) := by decide +kernel
theorem dX0_init_52 : decode cX0_init 52 = .ok (.newarray .int, 2) := by decide +kernel
theorem dX0_init_54 : decode cX0_init 54 = .ok (.putfield 33, 3) := by decide +kernel
theorem dX0_init_57 : decode cX0_init 57 = .ok (.aload_n 0, 1) := by decide +kernel
theorem dX0_init_58 : decode cX0_init 58 = .ok (.bipush 8, 2) := by decide +kernel
theorem dX0_init_60 : decode cX0_init 60 = .ok (.newarray .int, 2) := by decide +kernel
theorem dX0_init_62 : decode cX0_init 62 = .ok (.putfield 36, 3) := by decide +kernel
theorem dX0_init_65 : decode cX0_init 65 = .ok (.aload_n 0, 1) := by decide +kernel
theorem dX0_init_66 : decode cX0_init 66 = .ok (.new 39, 3) := by decide +kernel
theorem dX0_init_69 : decode cX0_init 69 = .ok (.dup, 1) := by decide +kernel
theorem dX0_init_70 : decode cX0_init 70 = .ok (.bipush 8, 2) := by decide +kernel
theorem dX0_init_72 : decode cX0_init 72 = .ok (.invokespecial 41, 3) := by decide +kernel
theorem dX0_init_75 : decode cX0_init 75 = .ok (.putfield 42, 3) := by decide +kernel
theorem dX0_init_78 : decode cX0_init 78 = .ok (.aload_n 0, 1) := by decide +kernel
theorem dX0_init_79 : decode cX0_init 79 = .ok (.aload_n 1, 1) := by decide +kernel
theorem dX0_init_80 : decode cX0_init 80 = .ok (.putfield 46, 3) := by decide +kernel
theorem dX0_init_83 : decode cX0_init 83 = .ok (.aload_n 0, 1) := by decide +kernel
theorem dX0_init_84 : decode cX0_init 84 = .ok (.aload_n 2, 1) := by decide +kernel
theorem dX0_init_85 : decode cX0_init 85 = .ok (.putfield 50, 3) := by decide +kernel
theorem dX0_init_88 : decode cX0_init 88 = .ok (.return_, 1) := by decide +kernel
theorem dX0_findRepair_0 : decode cX0_findRepair 0 = .ok (.aload_n 0, 1) := by decide +kernel
theorem dX0_findRepair_1 : decode cX0_findRepair 1 = .ok (.getfield 46, 3) := by decide +kernel
theorem dX0_findRepair_4 : decode cX0_findRepair 4 = .ok (.getfield 54, 3) := by decide +kernel
theorem dX0_findRepair_7 : decode cX0_findRepair 7 = .ok (.iload_n 1, 1) := by decide +kernel
theorem dX0_findRepair_8 : decode cX0_findRepair 8 = .ok (.iaload, 1) := by decide +kernel
theorem dX0_findRepair_9 : decode cX0_findRepair 9 = .ok (.istore 4, 2) := by decide +kernel
theorem dX0_findRepair_11 : decode cX0_findRepair 11 = .ok (.aload_n 0, 1) := by decide +kernel
theorem dX0_findRepair_12 : decode cX0_findRepair 12 = .ok (.getfield 50, 3) := by decide +kernel
theorem dX0_findRepair_15 : decode cX0_findRepair 15 = .ok (.iload_n 1, 1) := by decide +kernel
theorem dX0_findRepair_16 : decode cX0_findRepair 16 = .ok (.iload_n 3, 1) := by decide +kernel
theorem dX0_findRepair_17 : decode cX0_findRepair 17 = .ok (.iload 4, 2) := by decide +kernel
theorem dX0_findRepair_19 : decode cX0_findRepair 19 = .ok (.iconst 1, 1) := by decide +kernel
theorem dX0_findRepair_20 : decode cX0_findRepair 20 = .ok (.iload_n 2, 1) := by decide +kernel
theorem dX0_findRepair_21 : decode cX0_findRepair 21 = .ok (.ishl, 1) := by decide +kernel
theorem dX0_findRepair_22 : decode cX0_findRepair 22 = .ok (.iconst (-1), 1) := by decide +kernel
theorem dX0_findRepair_23 : decode cX0_findRepair 23 = .ok (.ixor, 1) := by decide +kernel
theorem dX0_findRepair_24 : decode cX0_findRepair 24 = .ok (.iand, 1) := by decide +kernel
theorem dX0_findRepair_25 : decode cX0_findRepair 25 = .ok (.aload_n 0, 1) := by decide +kernel
theorem dX0_findRepair_26 : decode cX0_findRepair 26 = .ok (.getfield 14, 3) := by decide +kernel
theorem dX0_findRepair_29 : decode cX0_findRepair 29 = .ok (.invokevirtual 59, 3) := by decide +kernel
theorem dX0_findRepair_32 : decode cX0_findRepair 32 = .ok (.ifCond .eq 17, 3) := by decide +kernel
theorem dX0_findRepair_35 : decode cX0_findRepair 35 = .ok (.aload_n 0, 1) := by decide +kernel
theorem dX0_findRepair_36 : decode cX0_findRepair 36 = .ok (.iload 4, 2) := by decide +kernel
theorem dX0_findRepair_38 : decode cX0_findRepair 38 = .ok (.iconst 0, 1) := by decide +kernel
theorem dX0_findRepair_39 : decode cX0_findRepair 39 = .ok (.invokevirtual 65, 3) := by decide +kernel
theorem dX0_findRepair_42 : decode cX0_findRepair 42 = .ok (.ifCond .eq 7, 3) := by decide +kernel
theorem dX0_findRepair_45 : decode cX0_findRepair 45 = .ok (.iconst 1, 1) := by decide +kernel
theorem dX0_findRepair_46 : decode cX0_findRepair 46 = .ok (.goto 4, 3) := by decide +kernel
theorem dX0_findRepair_49 : decode cX0_findRepair 49 = .ok (.iconst 0, 1) := by decide +kernel
theorem dX0_findRepair_50 : decode cX0_findRepair 50 = .ok (.ireturn, 1) := by decide +kernel
theorem dX0_findBrief_0 : decode cX0_findBrief 0 = .ok (.aload_n 0, 1) := by decide +kernel
theorem dX0_findBrief_1 : decode cX0_findBrief 1 = .ok (.getfield 14, 3) := by decide +kernel
theorem dX0_findBrief_4 : decode cX0_findBrief 4 = .ok (.aload_n 1, 1) := by decide +kernel
theorem dX0_findBrief_5 : decode cX0_findBrief 5 = .ok (.invokevirtual 69, 3) := by decide +kernel
theorem dX0_findBrief_8 : decode cX0_findBrief 8 = .ok (.aload_n 0, 1) := by decide +kernel
theorem dX0_findBrief_9 : decode cX0_findBrief 9 = .ok (.getfield 14, 3) := by decide +kernel
theorem dX0_findBrief_12 : decode cX0_findBrief 12 = .ok (.getfield 73, 3) := by decide +kernel
theorem dX0_findBrief_15 : decode cX0_findBrief 15 = .ok (.ifCond .le 32, 3) := by decide +kernel
theorem dX0_findBrief_18 : decode cX0_findBrief 18 = .ok (.aload_n 0, 1) := by decide +kernel
theorem dX0_findBrief_19 : decode cX0_findBrief 19 = .ok (.aload_n 0, 1) := by decide +kernel
theorem dX0_findBrief_20 : decode cX0_findBrief 20 = .ok (.getfield 46, 3) := by decide +kernel
theorem dX0_findBrief_23 : decode cX0_findBrief 23 = .ok (.getfield 54, 3) := by decide +kernel
theorem dX0_findBrief_26 : decode cX0_findBrief 26 = .ok (.aload_n 0, 1) := by decide +kernel
theorem dX0_findBrief_27 : decode cX0_findBrief 27 = .ok (.getfield 14, 3) := by decide +kernel
theorem dX0_findBrief_30 : decode cX0_findBrief 30 = .ok (.getfield 77, 3) := by decide +kernel
theorem dX0_findBrief_33 : decode cX0_findBrief 33 = .ok (.iconst 0, 1) := by decide +kernel
theorem dX0_findBrief_34 : decode cX0_findBrief 34 = .ok (.iaload, 1) := by decide +kernel
theorem dX0_findBrief_35 : decode cX0_findBrief 35 = .ok (.iaload, 1) := by decide +kernel
theorem dX0_findBrief_36 : decode cX0_findBrief 36 = .ok (.iconst 1, 1) := by decide +kernel
theorem dX0_findBrief_37 : decode cX0_findBrief 37 = .ok (.invokevirtual 65, 3) := by decide +kernel
theorem dX0_findBrief_40 : decode cX0_findBrief 40 = .ok (.ifCond .eq 7, 3) := by decide +kernel
theorem dX0_findBrief_43 : decode cX0_findBrief 43 = .ok (.iconst 1, 1) := by decide +kernel
theorem dX0_findBrief_44 : decode cX0_findBrief 44 = .ok (.goto 4, 3) := by decide +kernel
theorem dX0_findBrief_47 : decode cX0_findBrief 47 = .ok (.iconst 0, 1) := by decide +kernel
theorem dX0_findBrief_48 : decode cX0_findBrief 48 = .ok (.ireturn, 1) := by decide +kernel
theorem dX0_shorten_0 : decode cX0_shorten 0 = .ok (.iconst 0, 1) := by decide +kernel
theorem dX0_shorten_1 : decode cX0_shorten 1 = .ok (.istore_n 3, 1) := by decide +kernel
theorem dX0_shorten_2 : decode cX0_shorten 2 = .ok (.iload_n 3, 1) := by decide +kernel
theorem dX0_shorten_3 : decode cX0_shorten 3 = .ok (.aload_n 0, 1) := by decide +kernel
theorem dX0_shorten_4 : decode cX0_shorten 4 = .ok (.getfield 14, 3) := by decide +kernel
theorem dX0_shorten_7 : decode cX0_shorten 7 = .ok (.getfield 73, 3) := by decide +kernel
theorem dX0_shorten_10 : decode cX0_shorten 10 = .ok (.if_icmp .ge 78, 3) := by decide +kernel
theorem dX0_shorten_13 : decode cX0_shorten 13 = .ok (.aload_n 0, 1) := by decide +kernel
theorem dX0_shorten_14 : decode cX0_shorten 14 = .ok (.getfield 50, 3) := by decide +kernel
theorem dX0_shorten_17 : decode cX0_shorten 17 = .ok (.aload_n 0, 1) := by decide +kernel
theorem dX0_shorten_18 : decode cX0_shorten 18 = .ok (.getfield 14, 3) := by decide +kernel
theorem dX0_shorten_21 : decode cX0_shorten 21 = .ok (.getfield 77, 3) := by decide +kernel
theorem dX0_shorten_24 : decode cX0_shorten 24 = .ok (.iload_n 3, 1) := by decide +kernel
theorem dX0_shorten_25 : decode cX0_shorten 25 = .ok (.iaload, 1) := by decide +kernel
theorem dX0_shorten_26 : decode cX0_shorten 26 = .ok (.iconst 0, 1) := by decide +kernel
theorem dX0_shorten_27 : decode cX0_shorten 27 = .ok (.iload_n 1, 1) := by decide +kernel
theorem dX0_shorten_28 : decode cX0_shorten 28 = .ok (.invokevirtual 80, 3) := by decide +kernel
theorem dX0_shorten_31 : decode cX0_shorten 31 = .ok (.aload_n 0, 1) := by decide +kernel
theorem dX0_shorten_32 : decode cX0_shorten 32 = .ok (.getfield 20, 3) := by decide +kernel
theorem dX0_shorten_35 : decode cX0_shorten 35 = .ok (.iload_n 3, 1) := by decide +kernel
theorem dX0_shorten_36 : decode cX0_shorten 36 = .ok (.aload_n 0, 1) := by decide +kernel
theorem dX0_shorten_37 : decode cX0_shorten 37 = .ok (.iload_n 3, 1) := by decide +kernel
theorem dX0_shorten_38 : decode cX0_shorten 38 = .ok (.invokevirtual 84, 3) := by decide +kernel
theorem dX0_shorten_41 : decode cX0_shorten 41 = .ok (.iastore, 1) := by decide +kernel
theorem dX0_shorten_42 : decode cX0_shorten 42 = .ok (.aload_n 0, 1) := by decide +kernel
theorem dX0_shorten_43 : decode cX0_shorten 43 = .ok (.getfield 24, 3) := by decide +kernel
theorem dX0_shorten_46 : decode cX0_shorten 46 = .ok (.iload_n 3, 1) := by decide +kernel
theorem dX0_shorten_47 : decode cX0_shorten 47 = .ok (.iload_n 3, 1) := by decide +kernel
theorem dX0_shorten_48 : decode cX0_shorten 48 = .ok (.iastore, 1) := by decide +kernel
theorem dX0_shorten_49 : decode cX0_shorten 49 = .ok (.iload_n 2, 1) := by decide +kernel
theorem dX0_shorten_50 : decode cX0_shorten 50 = .ok (.ifCond .eq 32, 3) := by decide +kernel
theorem dX0_shorten_53 : decode cX0_shorten 53 = .ok (.aload_n 0, 1) := by decide +kernel
theorem dX0_shorten_54 : decode cX0_shorten 54 = .ok (.getfield 50, 3) := by decide +kernel
theorem dX0_shorten_57 : decode cX0_shorten 57 = .ok (.aload_n 0, 1) := by decide +kernel
theorem dX0_shorten_58 : decode cX0_shorten 58 = .ok (.getfield 14, 3) := by decide +kernel
theorem dX0_shorten_61 : decode cX0_shorten 61 = .ok (.getfield 77, 3) := by decide +kernel
theorem dX0_shorten_64 : decode cX0_shorten 64 = .ok (.iload_n 3, 1) := by decide +kernel
theorem dX0_shorten_65 : decode cX0_shorten 65 = .ok (.iaload, 1) := by decide +kernel
theorem dX0_shorten_66 : decode cX0_shorten 66 = .ok (.iconst 1, 1) := by decide +kernel
theorem dX0_shorten_67 : decode cX0_shorten 67 = .ok (.iload_n 1, 1) := by decide +kernel
theorem dX0_shorten_68 : decode cX0_shorten 68 = .ok (.invokevirtual 80, 3) := by decide +kernel
theorem dX0_shorten_71 : decode cX0_shorten 71 = .ok (.aload_n 0, 1) := by decide +kernel
theorem dX0_shorten_72 : decode cX0_shorten 72 = .ok (.getfield 24, 3) := by decide +kernel
theorem dX0_shorten_75 : decode cX0_shorten 75 = .ok (.iload_n 3, 1) := by decide +kernel
theorem dX0_shorten_76 : decode cX0_shorten 76 = .ok (.aload_n 0, 1) := by decide +kernel
theorem dX0_shorten_77 : decode cX0_shorten 77 = .ok (.iload_n 3, 1) := by decide +kernel
theorem dX0_shorten_78 : decode cX0_shorten 78 = .ok (.invokevirtual 84, 3) := by decide +kernel
theorem dX0_shorten_81 : decode cX0_shorten 81 = .ok (.iastore, 1) := by decide +kernel
theorem dX0_shorten_82 : decode cX0_shorten 82 = .ok (.iinc 3 1, 3) := by decide +kernel
theorem dX0_shorten_85 : decode cX0_shorten 85 = .ok (.goto (-83), 3) := by decide +kernel
theorem dX0_shorten_88 : decode cX0_shorten 88 = .ok (.aload_n 0, 1) := by decide +kernel
theorem dX0_shorten_89 : decode cX0_shorten 89 = .ok (.getfield 14, 3) := by decide +kernel
theorem dX0_shorten_92 : decode cX0_shorten 92 = .ok (.getfield 73, 3) := by decide +kernel
theorem dX0_shorten_95 : decode cX0_shorten 95 = .ok (.iconst 1, 1) := by decide +kernel
theorem dX0_shorten_96 : decode cX0_shorten 96 = .ok (.isub, 1) := by decide +kernel
theorem dX0_shorten_97 : decode cX0_shorten 97 = .ok (.istore_n 3, 1) := by decide +kernel
theorem dX0_shorten_98 : decode cX0_shorten 98 = .ok (.aload_n 0, 1) := by decide +kernel
theorem dX0_shorten_99 : decode cX0_shorten 99 = .ok (.getfield 30, 3) := by decide +kernel
theorem dX0_shorten_102 : decode cX0_shorten 102 = .ok (.iload_n 3, 1) := by decide +kernel
theorem dX0_shorten_103 : decode cX0_shorten 103 = .ok (.iconst 0, 1) := by decide +kernel
theorem dX0_shorten_104 : decode cX0_shorten 104 = .ok (.iastore, 1) := by decide +kernel
theorem dX0_shorten_105 : decode cX0_shorten 105 = .ok (.iload_n 3, 1) := by decide +kernel
theorem dX0_shorten_106 : decode cX0_shorten 106 = .ok (.iconst 1, 1) := by decide +kernel
theorem dX0_shorten_107 : decode cX0_shorten 107 = .ok (.isub, 1) := by decide +kernel
theorem dX0_shorten_108 : decode cX0_shorten 108 = .ok (.istore 4, 2) := by decide +kernel
theorem dX0_shorten_110 : decode cX0_shorten 110 = .ok (.iload 4, 2) := by decide +kernel
theorem dX0_shorten_112 : decode cX0_shorten 112 = .ok (.ifCond .lt 49, 3) := by decide +kernel
theorem dX0_shorten_115 : decode cX0_shorten 115 = .ok (.aload_n 0, 1) := by decide +kernel
theorem dX0_shorten_116 : decode cX0_shorten 116 = .ok (.getfield 27, 3) := by decide +kernel
theorem dX0_shorten_119 : decode cX0_shorten 119 = .ok (.iload 4, 2) := by decide +kernel
theorem dX0_shorten_121 : decode cX0_shorten 121 = .ok (.aload_n 0, 1) := by decide +kernel
theorem dX0_shorten_122 : decode cX0_shorten 122 = .ok (.iload_n 1, 1) := by decide +kernel
theorem dX0_shorten_123 : decode cX0_shorten 123 = .ok (.aload_n 0, 1) := by decide +kernel
theorem dX0_shorten_124 : decode cX0_shorten 124 = .ok (.getfield 14, 3) := by decide +kernel
theorem dX0_shorten_127 : decode cX0_shorten 127 = .ok (.getfield 77, 3) := by decide +kernel
theorem dX0_shorten_130 : decode cX0_shorten 130 = .ok (.iload 4, 2) := by decide +kernel
theorem dX0_shorten_132 : decode cX0_shorten 132 = .ok (.iaload, 1) := by decide +kernel
theorem dX0_shorten_133 : decode cX0_shorten 133 = .ok (.aload_n 0, 1) := by decide +kernel
theorem dX0_shorten_134 : decode cX0_shorten 134 = .ok (.getfield 14, 3) := by decide +kernel
theorem dX0_shorten_137 : decode cX0_shorten 137 = .ok (.getfield 77, 3) := by decide +kernel
theorem dX0_shorten_140 : decode cX0_shorten 140 = .ok (.iload 4, 2) := by decide +kernel
theorem dX0_shorten_142 : decode cX0_shorten 142 = .ok (.iconst 1, 1) := by decide +kernel
theorem dX0_shorten_143 : decode cX0_shorten 143 = .ok (.iadd, 1) := by decide +kernel
theorem dX0_shorten_144 : decode cX0_shorten 144 = .ok (.iaload, 1) := by decide +kernel
theorem dX0_shorten_145 : decode cX0_shorten 145 = .ok (.invokevirtual 88, 3) := by decide +kernel
theorem dX0_shorten_148 : decode cX0_shorten 148 = .ok (.iastore, 1) := by decide +kernel
theorem dX0_shorten_149 : decode cX0_shorten 149 = .ok (.aload_n 0, 1) := by decide +kernel
theorem dX0_shorten_150 : decode cX0_shorten 150 = .ok (.iload 4, 2) := by decide +kernel
theorem dX0_shorten_152 : decode cX0_shorten 152 = .ok (.invokevirtual 92, 3) := by decide +kernel
theorem dX0_shorten_155 : decode cX0_shorten 155 = .ok (.iinc 4 (-1), 3) := by decide +kernel
theorem dX0_shorten_158 : decode cX0_shorten 158 = .ok (.goto (-48), 3) := by decide +kernel
theorem dX0_shorten_161 : decode cX0_shorten 161 = .ok (.aload_n 0, 1) := by decide +kernel
theorem dX0_shorten_162 : decode cX0_shorten 162 = .ok (.getfield 30, 3) := by decide +kernel
theorem dX0_shorten_165 : decode cX0_shorten 165 = .ok (.iconst 0, 1) := by decide +kernel
theorem dX0_shorten_166 : decode cX0_shorten 166 = .ok (.iaload, 1) := by decide +kernel
theorem dX0_shorten_167 : decode cX0_shorten 167 = .ok (.sipush 1000, 3) := by decide +kernel
theorem dX0_shorten_170 : decode cX0_shorten 170 = .ok (.if_icmp .lt 5, 3) := by decide +kernel
theorem dX0_shorten_173 : decode cX0_shorten 173 = .ok (.iconst 0, 1) := by decide +kernel
theorem dX0_shorten_174 : decode cX0_shorten 174 = .ok (.ireturn, 1) := by decide +kernel
theorem dX0_shorten_175 : decode cX0_shorten 175 = .ok (.aload_n 0, 1) := by decide +kernel
theorem dX0_shorten_176 : decode cX0_shorten 176 = .ok (.invokevirtual 95, 3) := by decide +kernel
theorem dX0_shorten_179 : decode cX0_shorten 179 = .ok (.iconst 1, 1) := by decide +kernel
theorem dX0_shorten_180 : decode cX0_shorten 180 = .ok (.ireturn, 1) := by decide +kernel
theorem dX0_followedFrom_0 : decode cX0_followedFrom 0 = .ok (.iload_n 1, 1) := by decide +kernel
theorem dX0_followedFrom_1 : decode cX0_followedFrom 1 = .ok (.istore_n 2, 1) := by decide +kernel
theorem dX0_followedFrom_2 : decode cX0_followedFrom 2 = .ok (.iload_n 2, 1) := by decide +kernel
theorem dX0_followedFrom_3 : decode cX0_followedFrom 3 = .ok (.ifCond .le 39, 3) := by decide +kernel
theorem dX0_followedFrom_6 : decode cX0_followedFrom 6 = .ok (.aload_n 0, 1) := by decide +kernel
theorem dX0_followedFrom_7 : decode cX0_followedFrom 7 = .ok (.getfield 50, 3) := by decide +kernel
theorem dX0_followedFrom_10 : decode cX0_followedFrom 10 = .ok (.aload_n 0, 1) := by decide +kernel
theorem dX0_followedFrom_11 : decode cX0_followedFrom 11 = .ok (.getfield 14, 3) := by decide +kernel
theorem dX0_followedFrom_14 : decode cX0_followedFrom 14 = .ok (.getfield 77, 3) := by decide +kernel
theorem dX0_followedFrom_17 : decode cX0_followedFrom 17 = .ok (.iload_n 2, 1) := by decide +kernel
theorem dX0_followedFrom_18 : decode cX0_followedFrom 18 = .ok (.iconst 1, 1) := by decide +kernel
theorem dX0_followedFrom_19 : decode cX0_followedFrom 19 = .ok (.isub, 1) := by decide +kernel
theorem dX0_followedFrom_20 : decode cX0_followedFrom 20 = .ok (.iaload, 1) := by decide +kernel
theorem dX0_followedFrom_21 : decode cX0_followedFrom 21 = .ok (.invokevirtual 98, 3) := by decide +kernel
theorem dX0_followedFrom_24 : decode cX0_followedFrom 24 = .ok (.aload_n 0, 1) := by decide +kernel
theorem dX0_followedFrom_25 : decode cX0_followedFrom 25 = .ok (.getfield 14, 3) := by decide +kernel
theorem dX0_followedFrom_28 : decode cX0_followedFrom 28 = .ok (.getfield 77, 3) := by decide +kernel
theorem dX0_followedFrom_31 : decode cX0_followedFrom 31 = .ok (.iload_n 2, 1) := by decide +kernel
theorem dX0_followedFrom_32 : decode cX0_followedFrom 32 = .ok (.iaload, 1) := by decide +kernel
theorem dX0_followedFrom_33 : decode cX0_followedFrom 33 = .ok (.if_icmp .ne 9, 3) := by decide +kernel
theorem dX0_followedFrom_36 : decode cX0_followedFrom 36 = .ok (.iinc 2 (-1), 3) := by decide +kernel
theorem dX0_followedFrom_39 : decode cX0_followedFrom 39 = .ok (.goto (-37), 3) := by decide +kernel
theorem dX0_followedFrom_42 : decode cX0_followedFrom 42 = .ok (.iload_n 2, 1) := by decide +kernel
theorem dX0_followedFrom_43 : decode cX0_followedFrom 43 = .ok (.ireturn, 1) := by decide +kernel
theorem dX0_chooseFirst_0 : decode cX0_chooseFirst 0 = .ok (.aload_n 0, 1) := by decide +kernel
theorem dX0_chooseFirst_1 : decode cX0_chooseFirst 1 = .ok (.getfield 30, 3) := by decide +kernel
theorem dX0_chooseFirst_4 : decode cX0_chooseFirst 4 = .ok (.iload_n 1, 1) := by decide +kernel
theorem dX0_chooseFirst_5 : decode cX0_chooseFirst 5 = .ok (.sipush 1000, 3) := by decide +kernel
theorem dX0_chooseFirst_8 : decode cX0_chooseFirst 8 = .ok (.iastore, 1) := by decide +kernel
theorem dX0_chooseFirst_9 : decode cX0_chooseFirst 9 = .ok (.aload_n 0, 1) := by decide +kernel
theorem dX0_chooseFirst_10 : decode cX0_chooseFirst 10 = .ok (.getfield 14, 3) := by decide +kernel
theorem dX0_chooseFirst_13 : decode cX0_chooseFirst 13 = .ok (.getfield 73, 3) := by decide +kernel
theorem dX0_chooseFirst_16 : decode cX0_chooseFirst 16 = .ok (.iconst 1, 1) := by decide +kernel
theorem dX0_chooseFirst_17 : decode cX0_chooseFirst 17 = .ok (.isub, 1) := by decide +kernel
theorem dX0_chooseFirst_18 : decode cX0_chooseFirst 18 = .ok (.istore_n 2, 1) := by decide +kernel
theorem dX0_chooseFirst_19 : decode cX0_chooseFirst 19 = .ok (.iload_n 2, 1) := by decide +kernel
theorem dX0_chooseFirst_20 : decode cX0_chooseFirst 20 = .ok (.iload_n 1, 1) := by decide +kernel
theorem dX0_chooseFirst_21 : decode cX0_chooseFirst 21 = .ok (.if_icmp .le 66, 3) := by decide +kernel
theorem dX0_chooseFirst_24 : decode cX0_chooseFirst 24 = .ok (.aload_n 0, 1) := by decide +kernel
theorem dX0_chooseFirst_25 : decode cX0_chooseFirst 25 = .ok (.iload_n 1, 1) := by decide +kernel
theorem dX0_chooseFirst_26 : decode cX0_chooseFirst 26 = .ok (.iload_n 2, 1) := by decide +kernel
theorem dX0_chooseFirst_27 : decode cX0_chooseFirst 27 = .ok (.invokevirtual 101, 3) := by decide +kernel
theorem dX0_chooseFirst_30 : decode cX0_chooseFirst 30 = .ok (.istore_n 3, 1) := by decide +kernel
theorem dX0_chooseFirst_31 : decode cX0_chooseFirst 31 = .ok (.iload_n 3, 1) := by decide +kernel
theorem dX0_chooseFirst_32 : decode cX0_chooseFirst 32 = .ok (.iconst (-1), 1) := by decide +kernel
theorem dX0_chooseFirst_33 : decode cX0_chooseFirst 33 = .ok (.if_icmp .eq 48, 3) := by decide +kernel
theorem dX0_chooseFirst_36 : decode cX0_chooseFirst 36 = .ok (.aload_n 0, 1) := by decide +kernel
theorem dX0_chooseFirst_37 : decode cX0_chooseFirst 37 = .ok (.getfield 30, 3) := by decide +kernel
theorem dX0_chooseFirst_40 : decode cX0_chooseFirst 40 = .ok (.iload_n 2, 1) := by decide +kernel
theorem dX0_chooseFirst_41 : decode cX0_chooseFirst 41 = .ok (.iaload, 1) := by decide +kernel
theorem dX0_chooseFirst_42 : decode cX0_chooseFirst 42 = .ok (.iconst 1, 1) := by decide +kernel
theorem dX0_chooseFirst_43 : decode cX0_chooseFirst 43 = .ok (.iadd, 1) := by decide +kernel
theorem dX0_chooseFirst_44 : decode cX0_chooseFirst 44 = .ok (.aload_n 0, 1) := by decide +kernel
theorem dX0_chooseFirst_45 : decode cX0_chooseFirst 45 = .ok (.getfield 30, 3) := by decide +kernel
theorem dX0_chooseFirst_48 : decode cX0_chooseFirst 48 = .ok (.iload_n 1, 1) := by decide +kernel
theorem dX0_chooseFirst_49 : decode cX0_chooseFirst 49 = .ok (.iaload, 1) := by decide +kernel
theorem dX0_chooseFirst_50 : decode cX0_chooseFirst 50 = .ok (.if_icmp .ge 31, 3) := by decide +kernel
theorem dX0_chooseFirst_53 : decode cX0_chooseFirst 53 = .ok (.aload_n 0, 1) := by decide +kernel
theorem dX0_chooseFirst_54 : decode cX0_chooseFirst 54 = .ok (.getfield 30, 3) := by decide +kernel
theorem dX0_chooseFirst_57 : decode cX0_chooseFirst 57 = .ok (.iload_n 1, 1) := by decide +kernel
theorem dX0_chooseFirst_58 : decode cX0_chooseFirst 58 = .ok (.aload_n 0, 1) := by decide +kernel
theorem dX0_chooseFirst_59 : decode cX0_chooseFirst 59 = .ok (.getfield 30, 3) := by decide +kernel
theorem dX0_chooseFirst_62 : decode cX0_chooseFirst 62 = .ok (.iload_n 2, 1) := by decide +kernel
theorem dX0_chooseFirst_63 : decode cX0_chooseFirst 63 = .ok (.iaload, 1) := by decide +kernel
theorem dX0_chooseFirst_64 : decode cX0_chooseFirst 64 = .ok (.iconst 1, 1) := by decide +kernel
theorem dX0_chooseFirst_65 : decode cX0_chooseFirst 65 = .ok (.iadd, 1) := by decide +kernel
theorem dX0_chooseFirst_66 : decode cX0_chooseFirst 66 = .ok (.iastore, 1) := by decide +kernel
theorem dX0_chooseFirst_67 : decode cX0_chooseFirst 67 = .ok (.aload_n 0, 1) := by decide +kernel
theorem dX0_chooseFirst_68 : decode cX0_chooseFirst 68 = .ok (.getfield 33, 3) := by decide +kernel
theorem dX0_chooseFirst_71 : decode cX0_chooseFirst 71 = .ok (.iload_n 1, 1) := by decide +kernel
theorem dX0_chooseFirst_72 : decode cX0_chooseFirst 72 = .ok (.iload_n 2, 1) := by decide +kernel
theorem dX0_chooseFirst_73 : decode cX0_chooseFirst 73 = .ok (.iastore, 1) := by decide +kernel
theorem dX0_chooseFirst_74 : decode cX0_chooseFirst 74 = .ok (.aload_n 0, 1) := by decide +kernel
theorem dX0_chooseFirst_75 : decode cX0_chooseFirst 75 = .ok (.getfield 36, 3) := by decide +kernel
theorem dX0_chooseFirst_78 : decode cX0_chooseFirst 78 = .ok (.iload_n 1, 1) := by decide +kernel
theorem dX0_chooseFirst_79 : decode cX0_chooseFirst 79 = .ok (.iload_n 3, 1) := by decide +kernel
theorem dX0_chooseFirst_80 : decode cX0_chooseFirst 80 = .ok (.iastore, 1) := by decide +kernel
theorem dX0_chooseFirst_81 : decode cX0_chooseFirst 81 = .ok (.iinc 2 (-1), 3) := by decide +kernel
theorem dX0_chooseFirst_84 : decode cX0_chooseFirst 84 = .ok (.goto (-65), 3) := by decide +kernel
theorem dX0_chooseFirst_87 : decode cX0_chooseFirst 87 = .ok (.return_, 1) := by decide +kernel
theorem dX0_lowestKind_0 : decode cX0_lowestKind 0 = .ok (.aload_n 0, 1) := by decide +kernel
theorem dX0_lowestKind_1 : decode cX0_lowestKind 1 = .ok (.getfield 20, 3) := by decide +kernel
theorem dX0_lowestKind_4 : decode cX0_lowestKind 4 = .ok (.iload_n 2, 1) := by decide +kernel
theorem dX0_lowestKind_5 : decode cX0_lowestKind 5 = .ok (.iaload, 1) := by decide +kernel
theorem dX0_lowestKind_6 : decode cX0_lowestKind 6 = .ok (.iload_n 1, 1) := by decide +kernel
theorem dX0_lowestKind_7 : decode cX0_lowestKind 7 = .ok (.if_icmp .gt 5, 3) := by decide +kernel
theorem dX0_lowestKind_10 : decode cX0_lowestKind 10 = .ok (.iconst 0, 1) := by decide +kernel
theorem dX0_lowestKind_11 : decode cX0_lowestKind 11 = .ok (.ireturn, 1) := by decide +kernel
theorem dX0_lowestKind_12 : decode cX0_lowestKind 12 = .ok (.aload_n 0, 1) := by decide +kernel
theorem dX0_lowestKind_13 : decode cX0_lowestKind 13 = .ok (.getfield 24, 3) := by decide +kernel
theorem dX0_lowestKind_16 : decode cX0_lowestKind 16 = .ok (.iload_n 2, 1) := by decide +kernel
theorem dX0_lowestKind_17 : decode cX0_lowestKind 17 = .ok (.iaload, 1) := by decide +kernel
theorem dX0_lowestKind_18 : decode cX0_lowestKind 18 = .ok (.iload_n 1, 1) := by decide +kernel
theorem dX0_lowestKind_19 : decode cX0_lowestKind 19 = .ok (.if_icmp .gt 5, 3) := by decide +kernel
theorem dX0_lowestKind_22 : decode cX0_lowestKind 22 = .ok (.iconst 1, 1) := by decide +kernel
theorem dX0_lowestKind_23 : decode cX0_lowestKind 23 = .ok (.ireturn, 1) := by decide +kernel
theorem dX0_lowestKind_24 : decode cX0_lowestKind 24 = .ok (.iload_n 2, 1) := by decide +kernel
theorem dX0_lowestKind_25 : decode cX0_lowestKind 25 = .ok (.iload_n 1, 1) := by decide +kernel
theorem dX0_lowestKind_26 : decode cX0_lowestKind 26 = .ok (.iconst 1, 1) := by decide +kernel
theorem dX0_lowestKind_27 : decode cX0_lowestKind 27 = .ok (.iadd, 1) := by decide +kernel
theorem dX0_lowestKind_28 : decode cX0_lowestKind 28 = .ok (.if_icmp .ne 17, 3) := by decide +kernel
theorem dX0_lowestKind_31 : decode cX0_lowestKind 31 = .ok (.aload_n 0, 1) := by decide +kernel
theorem dX0_lowestKind_32 : decode cX0_lowestKind 32 = .ok (.getfield 27, 3) := by decide +kernel
theorem dX0_lowestKind_35 : decode cX0_lowestKind 35 = .ok (.iload_n 1, 1) := by decide +kernel
theorem dX0_lowestKind_36 : decode cX0_lowestKind 36 = .ok (.iaload, 1) := by decide +kernel
theorem dX0_lowestKind_37 : decode cX0_lowestKind 37 = .ok (.iconst (-1), 1) := by decide +kernel
theorem dX0_lowestKind_38 : decode cX0_lowestKind 38 = .ok (.if_icmp .eq 7, 3) := by decide +kernel
theorem dX0_lowestKind_41 : decode cX0_lowestKind 41 = .ok (.iconst 2, 1) := by decide +kernel
theorem dX0_lowestKind_42 : decode cX0_lowestKind 42 = .ok (.goto 4, 3) := by decide +kernel
theorem dX0_lowestKind_45 : decode cX0_lowestKind 45 = .ok (.iconst (-1), 1) := by decide +kernel
theorem dX0_lowestKind_46 : decode cX0_lowestKind 46 = .ok (.ireturn, 1) := by decide +kernel
theorem dX0_linkIn_0 : decode cX0_linkIn 0 = .ok (.aload_n 0, 1) := by decide +kernel
theorem dX0_linkIn_1 : decode cX0_linkIn 1 = .ok (.getfield 46, 3) := by decide +kernel
theorem dX0_linkIn_4 : decode cX0_linkIn 4 = .ok (.iload_n 2, 1) := by decide +kernel
theorem dX0_linkIn_5 : decode cX0_linkIn 5 = .ok (.iload_n 3, 1) := by decide +kernel
theorem dX0_linkIn_6 : decode cX0_linkIn 6 = .ok (.invokevirtual 105, 3) := by decide +kernel
theorem dX0_linkIn_9 : decode cX0_linkIn 9 = .ok (.istore 4, 2) := by decide +kernel
theorem dX0_linkIn_11 : decode cX0_linkIn 11 = .ok (.iload 4, 2) := by decide +kernel
theorem dX0_linkIn_13 : decode cX0_linkIn 13 = .ok (.iconst (-1), 1) := by decide +kernel
theorem dX0_linkIn_14 : decode cX0_linkIn 14 = .ok (.if_icmp .eq 18, 3) := by decide +kernel
theorem dX0_linkIn_17 : decode cX0_linkIn 17 = .ok (.iload_n 1, 1) := by decide +kernel
theorem dX0_linkIn_18 : decode cX0_linkIn 18 = .ok (.iload 4, 2) := by decide +kernel
theorem dX0_linkIn_20 : decode cX0_linkIn 20 = .ok (.ishr, 1) := by decide +kernel
theorem dX0_linkIn_21 : decode cX0_linkIn 21 = .ok (.iconst 1, 1) := by decide +kernel
theorem dX0_linkIn_22 : decode cX0_linkIn 22 = .ok (.iand, 1) := by decide +kernel
theorem dX0_linkIn_23 : decode cX0_linkIn 23 = .ok (.iconst 1, 1) := by decide +kernel
theorem dX0_linkIn_24 : decode cX0_linkIn 24 = .ok (.if_icmp .ne 8, 3) := by decide +kernel
theorem dX0_linkIn_27 : decode cX0_linkIn 27 = .ok (.iload 4, 2) := by decide +kernel
theorem dX0_linkIn_29 : decode cX0_linkIn 29 = .ok (.goto 4, 3) := by decide +kernel
theorem dX0_linkIn_32 : decode cX0_linkIn 32 = .ok (.iconst (-1), 1) := by decide +kernel
theorem dX0_linkIn_33 : decode cX0_linkIn 33 = .ok (.ireturn, 1) := by decide +kernel
theorem dX0_writeFound_0 : decode cX0_writeFound 0 = .ok (.aload_n 0, 1) := by decide +kernel
theorem dX0_writeFound_1 : decode cX0_writeFound 1 = .ok (.getfield 42, 3) := by decide +kernel
theorem dX0_writeFound_4 : decode cX0_writeFound 4 = .ok (.iconst 0, 1) := by decide +kernel
theorem dX0_writeFound_5 : decode cX0_writeFound 5 = .ok (.putfield 108, 3) := by decide +kernel
theorem dX0_writeFound_8 : decode cX0_writeFound 8 = .ok (.iconst 0, 1) := by decide +kernel
theorem dX0_writeFound_9 : decode cX0_writeFound 9 = .ok (.istore_n 1, 1) := by decide +kernel
theorem dX0_writeFound_10 : decode cX0_writeFound 10 = .ok (.iconst 0, 1) := by decide +kernel
theorem dX0_writeFound_11 : decode cX0_writeFound 11 = .ok (.istore_n 2, 1) := by decide +kernel
theorem dX0_writeFound_12 : decode cX0_writeFound 12 = .ok (.iload_n 2, 1) := by decide +kernel
theorem dX0_writeFound_13 : decode cX0_writeFound 13 = .ok (.bipush 8, 2) := by decide +kernel
theorem dX0_writeFound_15 : decode cX0_writeFound 15 = .ok (.if_icmp .ge 85, 3) := by decide +kernel
theorem dX0_writeFound_18 : decode cX0_writeFound 18 = .ok (.iload_n 1, 1) := by decide +kernel
theorem dX0_writeFound_19 : decode cX0_writeFound 19 = .ok (.aload_n 0, 1) := by decide +kernel
theorem dX0_writeFound_20 : decode cX0_writeFound 20 = .ok (.getfield 14, 3) := by decide +kernel
theorem dX0_writeFound_23 : decode cX0_writeFound 23 = .ok (.getfield 73, 3) := by decide +kernel
theorem dX0_writeFound_26 : decode cX0_writeFound 26 = .ok (.iconst 1, 1) := by decide +kernel
theorem dX0_writeFound_27 : decode cX0_writeFound 27 = .ok (.isub, 1) := by decide +kernel
theorem dX0_writeFound_28 : decode cX0_writeFound 28 = .ok (.if_icmp .ge 72, 3) := by decide +kernel
theorem dX0_writeFound_31 : decode cX0_writeFound 31 = .ok (.aload_n 0, 1) := by decide +kernel
theorem dX0_writeFound_32 : decode cX0_writeFound 32 = .ok (.getfield 36, 3) := by decide +kernel
theorem dX0_writeFound_35 : decode cX0_writeFound 35 = .ok (.iload_n 1, 1) := by decide +kernel
theorem dX0_writeFound_36 : decode cX0_writeFound 36 = .ok (.iaload, 1) := by decide +kernel
theorem dX0_writeFound_37 : decode cX0_writeFound 37 = .ok (.iconst 2, 1) := by decide +kernel
theorem dX0_writeFound_38 : decode cX0_writeFound 38 = .ok (.if_icmp .ne 7, 3) := by decide +kernel
theorem dX0_writeFound_41 : decode cX0_writeFound 41 = .ok (.iconst 1, 1) := by decide +kernel
theorem dX0_writeFound_42 : decode cX0_writeFound 42 = .ok (.goto 4, 3) := by decide +kernel
theorem dX0_writeFound_45 : decode cX0_writeFound 45 = .ok (.iconst 0, 1) := by decide +kernel
theorem dX0_writeFound_46 : decode cX0_writeFound 46 = .ok (.istore_n 3, 1) := by decide +kernel
theorem dX0_writeFound_47 : decode cX0_writeFound 47 = .ok (.aload_n 0, 1) := by decide +kernel
theorem dX0_writeFound_48 : decode cX0_writeFound 48 = .ok (.getfield 42, 3) := by decide +kernel
theorem dX0_writeFound_51 : decode cX0_writeFound 51 = .ok (.aload_n 0, 1) := by decide +kernel
theorem dX0_writeFound_52 : decode cX0_writeFound 52 = .ok (.getfield 36, 3) := by decide +kernel
theorem dX0_writeFound_55 : decode cX0_writeFound 55 = .ok (.iload_n 1, 1) := by decide +kernel
theorem dX0_writeFound_56 : decode cX0_writeFound 56 = .ok (.iaload, 1) := by decide +kernel
theorem dX0_writeFound_57 : decode cX0_writeFound 57 = .ok (.iload_n 3, 1) := by decide +kernel
theorem dX0_writeFound_58 : decode cX0_writeFound 58 = .ok (.ifCond .eq 12, 3) := by decide +kernel
theorem dX0_writeFound_61 : decode cX0_writeFound 61 = .ok (.aload_n 0, 1) := by decide +kernel
theorem dX0_writeFound_62 : decode cX0_writeFound 62 = .ok (.getfield 27, 3) := by decide +kernel
theorem dX0_writeFound_65 : decode cX0_writeFound 65 = .ok (.iload_n 1, 1) := by decide +kernel
theorem dX0_writeFound_66 : decode cX0_writeFound 66 = .ok (.iaload, 1) := by decide +kernel
theorem dX0_writeFound_67 : decode cX0_writeFound 67 = .ok (.goto 17, 3) := by decide +kernel
theorem dX0_writeFound_70 : decode cX0_writeFound 70 = .ok (.aload_n 0, 1) := by decide +kernel
theorem dX0_writeFound_71 : decode cX0_writeFound 71 = .ok (.getfield 14, 3) := by decide +kernel
theorem dX0_writeFound_74 : decode cX0_writeFound 74 = .ok (.getfield 77, 3) := by decide +kernel
theorem dX0_writeFound_77 : decode cX0_writeFound 77 = .ok (.aload_n 0, 1) := by decide +kernel
theorem dX0_writeFound_78 : decode cX0_writeFound 78 = .ok (.getfield 33, 3) := by decide +kernel
theorem dX0_writeFound_81 : decode cX0_writeFound 81 = .ok (.iload_n 1, 1) := by decide +kernel
theorem dX0_writeFound_82 : decode cX0_writeFound 82 = .ok (.iaload, 1) := by decide +kernel
theorem dX0_writeFound_83 : decode cX0_writeFound 83 = .ok (.iaload, 1) := by decide +kernel
theorem dX0_writeFound_84 : decode cX0_writeFound 84 = .ok (.invokevirtual 111, 3) := by decide +kernel
theorem dX0_writeFound_87 : decode cX0_writeFound 87 = .ok (.aload_n 0, 1) := by decide +kernel
theorem dX0_writeFound_88 : decode cX0_writeFound 88 = .ok (.getfield 33, 3) := by decide +kernel
theorem dX0_writeFound_91 : decode cX0_writeFound 91 = .ok (.iload_n 1, 1) := by decide +kernel
theorem dX0_writeFound_92 : decode cX0_writeFound 92 = .ok (.iaload, 1) := by decide +kernel
theorem dX0_writeFound_93 : decode cX0_writeFound 93 = .ok (.istore_n 1, 1) := by decide +kernel
theorem dX0_writeFound_94 : decode cX0_writeFound 94 = .ok (.iinc 2 1, 3) := by decide +kernel
theorem dX0_writeFound_97 : decode cX0_writeFound 97 = .ok (.goto (-85), 3) := by decide +kernel
theorem dX0_writeFound_100 : decode cX0_writeFound 100 = .ok (.return_, 1) := by decide +kernel
theorem dX1_init_0 : decode cX1_init 0 = .ok (.aload_n 0, 1) := by decide +kernel
theorem dX1_init_1 : decode cX1_init 1 = .ok (.invokespecial 3, 3) := by decide +kernel
theorem dX1_init_4 : decode cX1_init 4 = .ok (.aload_n 0, 1) := by decide +kernel
theorem dX1_init_5 : decode cX1_init 5 = .ok (.new 9, 3) := by decide +kernel
theorem dX1_init_8 : decode cX1_init 8 = .ok (.dup, 1) := by decide +kernel
theorem dX1_init_9 : decode cX1_init 9 = .ok (.bipush 16, 2) := by decide +kernel
theorem dX1_init_11 : decode cX1_init 11 = .ok (.invokespecial 11, 3) := by decide +kernel
theorem dX1_init_14 : decode cX1_init 14 = .ok (.putfield 14, 3) := by decide +kernel
theorem dX1_init_17 : decode cX1_init 17 = .ok (.aload_n 0, 1) := by decide +kernel
theorem dX1_init_18 : decode cX1_init 18 = .ok (.new 20, 3) := by decide +kernel
theorem dX1_init_21 : decode cX1_init 21 = .ok (.dup, 1) := by decide +kernel
theorem dX1_init_22 : decode cX1_init 22 = .ok (.bipush 21, 2) := by decide +kernel
theorem dX1_init_24 : decode cX1_init 24 = .ok (.invokespecial 22, 3) := by decide +kernel
theorem dX1_init_27 : decode cX1_init 27 = .ok (.putfield 23, 3) := by decide +kernel
theorem dX1_init_30 : decode cX1_init 30 = .ok (.aload_n 0, 1) := by decide +kernel
theorem dX1_init_31 : decode cX1_init 31 = .ok (.iconst 0, 1) := by decide +kernel
theorem dX1_init_32 : decode cX1_init 32 = .ok (.putfield 27, 3) := by decide +kernel
theorem dX1_init_35 : decode cX1_init 35 = .ok (.aload_n 0, 1) := by decide +kernel
theorem dX1_init_36 : decode cX1_init 36 = .ok (.iconst 0, 1) := by decide +kernel
theorem dX1_init_37 : decode cX1_init 37 = .ok (.putfield 31, 3) := by decide +kernel
theorem dX1_init_40 : decode cX1_init 40 = .ok (.aload_n 0, 1) := by decide +kernel
theorem dX1_init_41 : decode cX1_init 41 = .ok (.iconst 0, 1) := by decide +kernel
theorem dX1_init_42 : decode cX1_init 42 = .ok (.putfield 34, 3) := by decide +kernel
theorem dX1_init_45 : decode cX1_init 45 = .ok (.aload_n 0, 1) := by decide +kernel
theorem dX1_init_46 : decode cX1_init 46 = .ok (.iconst 0, 1) := by decide +kernel
theorem dX1_init_47 : decode cX1_init 47 = .ok (.putfield 37, 3) := by decide +kernel
theorem dX1_init_50 : decode cX1_init 50 = .ok (.aload_n 0, 1) := by decide +kernel
theorem dX1_init_51 : decode cX1_init 51 = .ok (.iconst 0, 1) := by decide +kernel
theorem dX1_init_52 : decode cX1_init 52 = .ok (.putfield 40, 3) := by decide +kernel
theorem dX1_init_55 : decode cX1_init 55 = .ok (.aload_n 0, 1) := by decide +kernel
theorem dX1_init_56 : decode cX1_init 56 = .ok (.iconst 0, 1) := by decide +kernel
theorem dX1_init_57 : decode cX1_init 57 = .ok (.putfield 43, 3) := by decide +kernel
theorem dX1_init_60 : decode cX1_init 60 = .ok (.aload_n 0, 1) := by decide +kernel
theorem dX1_init_61 : decode cX1_init 61 = .ok (.aload_n 1, 1) := by decide +kernel
theorem dX1_init_62 : decode cX1_init 62 = .ok (.putfield 47, 3) := by decide +kernel
theorem dX1_init_65 : decode cX1_init 65 = .ok (.aload_n 0, 1) := by decide +kernel
theorem dX1_init_66 : decode cX1_init 66 = .ok (.aload_n 2, 1) := by decide +kernel
theorem dX1_init_67 : decode cX1_init 67 = .ok (.putfield 51, 3) := by decide +kernel
theorem dX1_init_70 : decode cX1_init 70 = .ok (.aload_n 0, 1) := by decide +kernel
theorem dX1_init_71 : decode cX1_init 71 = .ok (.aload_n 3, 1) := by decide +kernel
theorem dX1_init_72 : decode cX1_init 72 = .ok (.putfield 55, 3) := by decide +kernel
theorem dX1_init_75 : decode cX1_init 75 = .ok (.return_, 1) := by decide +kernel
theorem dX1_forgetAll_0 : decode cX1_forgetAll 0 = .ok (.aload_n 0, 1) := by decide +kernel
theorem dX1_forgetAll_1 : decode cX1_forgetAll 1 = .ok (.iconst 0, 1) := by decide +kernel
theorem dX1_forgetAll_2 : decode cX1_forgetAll 2 = .ok (.putfield 31, 3) := by decide +kernel
theorem dX1_forgetAll_5 : decode cX1_forgetAll 5 = .ok (.aload_n 0, 1) := by decide +kernel
theorem dX1_forgetAll_6 : decode cX1_forgetAll 6 = .ok (.iconst 0, 1) := by decide +kernel
theorem dX1_forgetAll_7 : decode cX1_forgetAll 7 = .ok (.putfield 34, 3) := by decide +kernel
theorem dX1_forgetAll_10 : decode cX1_forgetAll 10 = .ok (.aload_n 0, 1) := by decide +kernel
theorem dX1_forgetAll_11 : decode cX1_forgetAll 11 = .ok (.iconst 0, 1) := by decide +kernel
theorem dX1_forgetAll_12 : decode cX1_forgetAll 12 = .ok (.putfield 37, 3) := by decide +kernel
theorem dX1_forgetAll_15 : decode cX1_forgetAll 15 = .ok (.aload_n 0, 1) := by decide +kernel
theorem dX1_forgetAll_16 : decode cX1_forgetAll 16 = .ok (.iconst 0, 1) := by decide +kernel
theorem dX1_forgetAll_17 : decode cX1_forgetAll 17 = .ok (.putfield 40, 3) := by decide +kernel
theorem dX1_forgetAll_20 : decode cX1_forgetAll 20 = .ok (.aload_n 0, 1) := by decide +kernel
theorem dX1_forgetAll_21 : decode cX1_forgetAll 21 = .ok (.iconst 0, 1) := by decide +kernel
theorem dX1_forgetAll_22 : decode cX1_forgetAll 22 = .ok (.putfield 43, 3) := by decide +kernel
theorem dX1_forgetAll_25 : decode cX1_forgetAll 25 = .ok (.aload_n 0, 1) := by decide +kernel
theorem dX1_forgetAll_26 : decode cX1_forgetAll 26 = .ok (.getfield 23, 3) := by decide +kernel
theorem dX1_forgetAll_29 : decode cX1_forgetAll 29 = .ok (.iconst 0, 1) := by decide +kernel
theorem dX1_forgetAll_30 : decode cX1_forgetAll 30 = .ok (.putfield 59, 3) := by decide +kernel
theorem dX1_forgetAll_33 : decode cX1_forgetAll 33 = .ok (.return_, 1) := by decide +kernel
theorem dX1_hops_0 : decode cX1_hops 0 = .ok (.aload_n 0, 1) := by decide +kernel
theorem dX1_hops_1 : decode cX1_hops 1 = .ok (.getfield 23, 3) := by decide +kernel
theorem dX1_hops_4 : decode cX1_hops 4 = .ok (.getfield 59, 3) := by decide +kernel
theorem dX1_hops_7 : decode cX1_hops 7 = .ok (.iconst 1, 1) := by decide +kernel
theorem dX1_hops_8 : decode cX1_hops 8 = .ok (.isub, 1) := by decide +kernel
theorem dX1_hops_9 : decode cX1_hops 9 = .ok (.ireturn, 1) := by decide +kernel
theorem dX1_tally_0 : decode cX1_tally 0 = .ok (.iload_n 1, 1) := by decide +kernel
theorem dX1_tally_1 : decode cX1_tally 1 = .ok (.tableswitch 85 6 13 #[47, 52, 57, 62, 67, 85, 85, 72], 47) := by decide +kernel
theorem dX1_tally_48 : decode cX1_tally 48 = .ok (.aload_n 0, 1) := by decide +kernel
theorem dX1_tally_49 : decode cX1_tally 49 = .ok (.getfield 27, 3) := by decide +kernel
theorem dX1_tally_52 : decode cX1_tally 52 = .ok (.ireturn, 1) := by decide +kernel
theorem dX1_tally_53 : decode cX1_tally 53 = .ok (.aload_n 0, 1) := by decide +kernel
theorem dX1_tally_54 : decode cX1_tally 54 = .ok (.getfield 31, 3) := by decide +kernel
theorem dX1_tally_57 : decode cX1_tally 57 = .ok (.ireturn, 1) := by decide +kernel
theorem dX1_tally_58 : decode cX1_tally 58 = .ok (.aload_n 0, 1) := by decide +kernel
theorem dX1_tally_59 : decode cX1_tally 59 = .ok (.getfield 34, 3) := by decide +kernel
theorem dX1_tally_62 : decode cX1_tally 62 = .ok (.ireturn, 1) := by decide +kernel
theorem dX1_tally_63 : decode cX1_tally 63 = .ok (.aload_n 0, 1) := by decide +kernel
theorem dX1_tally_64 : decode cX1_tally 64 = .ok (.getfield 37, 3) := by decide +kernel
theorem dX1_tally_67 : decode cX1_tally 67 = .ok (.ireturn, 1) := by decide +kernel
theorem dX1_tally_68 : decode cX1_tally 68 = .ok (.aload_n 0, 1) := by decide +kernel
theorem dX1_tally_69 : decode cX1_tally 69 = .ok (.getfield 40, 3) := by decide +kernel
theorem dX1_tally_72 : decode cX1_tally 72 = .ok (.ireturn, 1) := by decide +kernel
theorem dX1_tally_73 : decode cX1_tally 73 = .ok (.aload_n 0, 1) := by decide +kernel
theorem dX1_tally_74 : decode cX1_tally 74 = .ok (.getfield 43, 3) := by decide +kernel
theorem dX1_tally_77 : decode cX1_tally 77 = .ok (.ifCond .eq 7, 3) := by decide +kernel
theorem dX1_tally_80 : decode cX1_tally 80 = .ok (.iconst 1, 1) := by decide +kernel
theorem dX1_tally_81 : decode cX1_tally 81 = .ok (.goto 4, 3) := by decide +kernel
theorem dX1_tally_84 : decode cX1_tally 84 = .ok (.iconst 0, 1) := by decide +kernel
theorem dX1_tally_85 : decode cX1_tally 85 = .ok (.ireturn, 1) := by decide +kernel
theorem dX1_tally_86 : decode cX1_tally 86 = .ok (.bipush (-3), 2) := by decide +kernel
theorem dX1_tally_88 : decode cX1_tally 88 = .ok (.ireturn, 1) := by decide +kernel
theorem dX1_start_0 : decode cX1_start 0 = .ok (.aload_n 0, 1) := by decide +kernel
theorem dX1_start_1 : decode cX1_start 1 = .ok (.getfield 14, 3) := by decide +kernel
theorem dX1_start_4 : decode cX1_start 4 = .ok (.iconst 0, 1) := by decide +kernel
theorem dX1_start_5 : decode cX1_start 5 = .ok (.putfield 62, 3) := by decide +kernel
theorem dX1_start_8 : decode cX1_start 8 = .ok (.aload_n 0, 1) := by decide +kernel
theorem dX1_start_9 : decode cX1_start 9 = .ok (.getfield 14, 3) := by decide +kernel
theorem dX1_start_12 : decode cX1_start 12 = .ok (.aload_n 2, 1) := by decide +kernel
theorem dX1_start_13 : decode cX1_start 13 = .ok (.invokevirtual 65, 3) := by decide +kernel
theorem dX1_start_16 : decode cX1_start 16 = .ok (.aload_n 0, 1) := by decide +kernel
theorem dX1_start_17 : decode cX1_start 17 = .ok (.getfield 23, 3) := by decide +kernel
theorem dX1_start_20 : decode cX1_start 20 = .ok (.iconst 0, 1) := by decide +kernel
theorem dX1_start_21 : decode cX1_start 21 = .ok (.putfield 59, 3) := by decide +kernel
theorem dX1_start_24 : decode cX1_start 24 = .ok (.aload_n 0, 1) := by decide +kernel
theorem dX1_start_25 : decode cX1_start 25 = .ok (.getfield 23, 3) := by decide +kernel
theorem dX1_start_28 : decode cX1_start 28 = .ok (.iload_n 1, 1) := by decide +kernel
theorem dX1_start_29 : decode cX1_start 29 = .ok (.invokevirtual 69, 3) := by decide +kernel
theorem dX1_start_32 : decode cX1_start 32 = .ok (.aload_n 0, 1) := by decide +kernel
theorem dX1_start_33 : decode cX1_start 33 = .ok (.iconst 0, 1) := by decide +kernel
theorem dX1_start_34 : decode cX1_start 34 = .ok (.putfield 43, 3) := by decide +kernel
theorem dX1_start_37 : decode cX1_start 37 = .ok (.aload_n 0, 1) := by decide +kernel
theorem dX1_start_38 : decode cX1_start 38 = .ok (.dup, 1) := by decide +kernel
theorem dX1_start_39 : decode cX1_start 39 = .ok (.getfield 31, 3) := by decide +kernel
theorem dX1_start_42 : decode cX1_start 42 = .ok (.iconst 1, 1) := by decide +kernel
theorem dX1_start_43 : decode cX1_start 43 = .ok (.iadd, 1) := by decide +kernel
theorem dX1_start_44 : decode cX1_start 44 = .ok (.putfield 31, 3) := by decide +kernel
theorem dX1_start_47 : decode cX1_start 47 = .ok (.return_, 1) := by decide +kernel
theorem dX1_noteEnd_0 : decode cX1_noteEnd 0 = .ok (.iload_n 1, 1) := by decide +kernel
theorem dX1_noteEnd_1 : decode cX1_noteEnd 1 = .ok (.ifCond .lt 16, 3) := by decide +kernel
theorem dX1_noteEnd_4 : decode cX1_noteEnd 4 = .ok (.aload_n 0, 1) := by decide +kernel
theorem dX1_noteEnd_5 : decode cX1_noteEnd 5 = .ok (.dup, 1) := by decide +kernel
theorem dX1_noteEnd_6 : decode cX1_noteEnd 6 = .ok (.getfield 34, 3) := by decide +kernel
theorem dX1_noteEnd_9 : decode cX1_noteEnd 9 = .ok (.iconst 1, 1) := by decide +kernel
theorem dX1_noteEnd_10 : decode cX1_noteEnd 10 = .ok (.iadd, 1) := by decide +kernel
theorem dX1_noteEnd_11 : decode cX1_noteEnd 11 = .ok (.putfield 34, 3) := by decide +kernel
theorem dX1_noteEnd_14 : decode cX1_noteEnd 14 = .ok (.goto 13, 3) := by decide +kernel
theorem dX1_noteEnd_17 : decode cX1_noteEnd 17 = .ok (.aload_n 0, 1) := by decide +kernel
theorem dX1_noteEnd_18 : decode cX1_noteEnd 18 = .ok (.dup, 1) := by decide +kernel
theorem dX1_noteEnd_19 : decode cX1_noteEnd 19 = .ok (.getfield 40, 3) := by decide +kernel
theorem dX1_noteEnd_22 : decode cX1_noteEnd 22 = .ok (.iconst 1, 1) := by decide +kernel
theorem dX1_noteEnd_23 : decode cX1_noteEnd 23 = .ok (.iadd, 1) := by decide +kernel
theorem dX1_noteEnd_24 : decode cX1_noteEnd 24 = .ok (.putfield 40, 3) := by decide +kernel
theorem dX1_noteEnd_27 : decode cX1_noteEnd 27 = .ok (.return_, 1) := by decide +kernel
theorem dX1_carry_0 : decode cX1_carry 0 = .ok (.iload_n 1, 1) := by decide +kernel
theorem dX1_carry_1 : decode cX1_carry 1 = .ok (.istore_n 2, 1) := by decide +kernel
theorem dX1_carry_2 : decode cX1_carry 2 = .ok (.iconst 0, 1) := by decide +kernel
theorem dX1_carry_3 : decode cX1_carry 3 = .ok (.istore_n 3, 1) := by decide +kernel
theorem dX1_carry_4 : decode cX1_carry 4 = .ok (.iload_n 3, 1) := by decide +kernel
theorem dX1_carry_5 : decode cX1_carry 5 = .ok (.bipush 22, 2) := by decide +kernel
theorem dX1_carry_7 : decode cX1_carry 7 = .ok (.if_icmp .ge 89, 3) := by decide +kernel
theorem dX1_carry_10 : decode cX1_carry 10 = .ok (.aload_n 0, 1) := by decide +kernel
theorem dX1_carry_11 : decode cX1_carry 11 = .ok (.iload_n 2, 1) := by decide +kernel
theorem dX1_carry_12 : decode cX1_carry 12 = .ok (.invokevirtual 72, 3) := by decide +kernel
theorem dX1_carry_15 : decode cX1_carry 15 = .ok (.aload_n 0, 1) := by decide +kernel
theorem dX1_carry_16 : decode cX1_carry 16 = .ok (.getfield 14, 3) := by decide +kernel
theorem dX1_carry_19 : decode cX1_carry 19 = .ok (.getfield 62, 3) := by decide +kernel
theorem dX1_carry_22 : decode cX1_carry 22 = .ok (.ifCond .ne 5, 3) := by decide +kernel
theorem dX1_carry_25 : decode cX1_carry 25 = .ok (.iload_n 2, 1) := by decide +kernel
theorem dX1_carry_26 : decode cX1_carry 26 = .ok (.ireturn, 1) := by decide +kernel
theorem dX1_carry_27 : decode cX1_carry 27 = .ok (.aload_n 0, 1) := by decide +kernel
theorem dX1_carry_28 : decode cX1_carry 28 = .ok (.invokevirtual 75, 3) := by decide +kernel
theorem dX1_carry_31 : decode cX1_carry 31 = .ok (.bipush 20, 2) := by decide +kernel
theorem dX1_carry_33 : decode cX1_carry 33 = .ok (.if_icmp .lt 6, 3) := by decide +kernel
theorem dX1_carry_36 : decode cX1_carry 36 = .ok (.bipush (-14), 2) := by decide +kernel
theorem dX1_carry_38 : decode cX1_carry 38 = .ok (.ireturn, 1) := by decide +kernel
theorem dX1_carry_39 : decode cX1_carry 39 = .ok (.aload_n 0, 1) := by decide +kernel
theorem dX1_carry_40 : decode cX1_carry 40 = .ok (.iload_n 2, 1) := by decide +kernel
theorem dX1_carry_41 : decode cX1_carry 41 = .ok (.invokevirtual 79, 3) := by decide +kernel
theorem dX1_carry_44 : decode cX1_carry 44 = .ok (.istore 4, 2) := by decide +kernel
theorem dX1_carry_46 : decode cX1_carry 46 = .ok (.iload 4, 2) := by decide +kernel
theorem dX1_carry_48 : decode cX1_carry 48 = .ok (.ifCond .ge 6, 3) := by decide +kernel
theorem dX1_carry_51 : decode cX1_carry 51 = .ok (.iload 4, 2) := by decide +kernel
theorem dX1_carry_53 : decode cX1_carry 53 = .ok (.ireturn, 1) := by decide +kernel
theorem dX1_carry_54 : decode cX1_carry 54 = .ok (.aload_n 0, 1) := by decide +kernel
theorem dX1_carry_55 : decode cX1_carry 55 = .ok (.getfield 47, 3) := by decide +kernel
theorem dX1_carry_58 : decode cX1_carry 58 = .ok (.iload 4, 2) := by decide +kernel
theorem dX1_carry_60 : decode cX1_carry 60 = .ok (.invokevirtual 83, 3) := by decide +kernel
theorem dX1_carry_63 : decode cX1_carry 63 = .ok (.ifCond .eq 14, 3) := by decide +kernel
theorem dX1_carry_66 : decode cX1_carry 66 = .ok (.aload_n 0, 1) := by decide +kernel
theorem dX1_carry_67 : decode cX1_carry 67 = .ok (.iload 4, 2) := by decide +kernel
theorem dX1_carry_69 : decode cX1_carry 69 = .ok (.iload_n 2, 1) := by decide +kernel
theorem dX1_carry_70 : decode cX1_carry 70 = .ok (.invokevirtual 89, 3) := by decide +kernel
theorem dX1_carry_73 : decode cX1_carry 73 = .ok (.istore_n 2, 1) := by decide +kernel
theorem dX1_carry_74 : decode cX1_carry 74 = .ok (.goto 16, 3) := by decide +kernel
theorem dX1_carry_77 : decode cX1_carry 77 = .ok (.aload_n 0, 1) := by decide +kernel
theorem dX1_carry_78 : decode cX1_carry 78 = .ok (.iload_n 2, 1) := by decide +kernel
theorem dX1_carry_79 : decode cX1_carry 79 = .ok (.iload 4, 2) := by decide +kernel
theorem dX1_carry_81 : decode cX1_carry 81 = .ok (.invokevirtual 93, 3) := by decide +kernel
theorem dX1_carry_84 : decode cX1_carry 84 = .ok (.ifCond .ne 6, 3) := by decide +kernel
theorem dX1_carry_87 : decode cX1_carry 87 = .ok (.bipush (-12), 2) := by decide +kernel
theorem dX1_carry_89 : decode cX1_carry 89 = .ok (.ireturn, 1) := by decide +kernel
theorem dX1_carry_90 : decode cX1_carry 90 = .ok (.iinc 3 1, 3) := by decide +kernel
theorem dX1_carry_93 : decode cX1_carry 93 = .ok (.goto (-89), 3) := by decide +kernel
theorem dX1_carry_96 : decode cX1_carry 96 = .ok (.bipush (-14), 2) := by decide +kernel
theorem dX1_carry_98 : decode cX1_carry 98 = .ok (.ireturn, 1) := by decide +kernel
theorem dX1_takeOffReached_0 : decode cX1_takeOffReached 0 = .ok (.aload_n 0, 1) := by decide +kernel
theorem dX1_takeOffReached_1 : decode cX1_takeOffReached 1 = .ok (.getfield 14, 3) := by decide +kernel
theorem dX1_takeOffReached_4 : decode cX1_takeOffReached 4 = .ok (.getfield 62, 3) := by decide +kernel
theorem dX1_takeOffReached_7 : decode cX1_takeOffReached 7 = .ok (.istore_n 2, 1) := by decide +kernel
theorem dX1_takeOffReached_8 : decode cX1_takeOffReached 8 = .ok (.iload_n 2, 1) := by decide +kernel
theorem dX1_takeOffReached_9 : decode cX1_takeOffReached 9 = .ok (.ifCond .le 27, 3) := by decide +kernel
theorem dX1_takeOffReached_12 : decode cX1_takeOffReached 12 = .ok (.aload_n 0, 1) := by decide +kernel
theorem dX1_takeOffReached_13 : decode cX1_takeOffReached 13 = .ok (.getfield 14, 3) := by decide +kernel
theorem dX1_takeOffReached_16 : decode cX1_takeOffReached 16 = .ok (.iload_n 1, 1) := by decide +kernel
theorem dX1_takeOffReached_17 : decode cX1_takeOffReached 17 = .ok (.invokevirtual 97, 3) := by decide +kernel
theorem dX1_takeOffReached_20 : decode cX1_takeOffReached 20 = .ok (.ifCond .eq 16, 3) := by decide +kernel
theorem dX1_takeOffReached_23 : decode cX1_takeOffReached 23 = .ok (.aload_n 0, 1) := by decide +kernel
theorem dX1_takeOffReached_24 : decode cX1_takeOffReached 24 = .ok (.getfield 14, 3) := by decide +kernel
theorem dX1_takeOffReached_27 : decode cX1_takeOffReached 27 = .ok (.invokevirtual 100, 3) := by decide +kernel
theorem dX1_takeOffReached_30 : decode cX1_takeOffReached 30 = .ok (.iinc 2 (-1), 3) := by decide +kernel
theorem dX1_takeOffReached_33 : decode cX1_takeOffReached 33 = .ok (.goto (-25), 3) := by decide +kernel
theorem dX1_takeOffReached_36 : decode cX1_takeOffReached 36 = .ok (.return_, 1) := by decide +kernel
theorem dX1_linkAhead_0 : decode cX1_linkAhead 0 = .ok (.aload_n 0, 1) := by decide +kernel
theorem dX1_linkAhead_1 : decode cX1_linkAhead 1 = .ok (.getfield 14, 3) := by decide +kernel
theorem dX1_linkAhead_4 : decode cX1_linkAhead 4 = .ok (.invokevirtual 103, 3) := by decide +kernel
theorem dX1_linkAhead_7 : decode cX1_linkAhead 7 = .ok (.istore_n 2, 1) := by decide +kernel
theorem dX1_linkAhead_8 : decode cX1_linkAhead 8 = .ok (.aload_n 0, 1) := by decide +kernel
theorem dX1_linkAhead_9 : decode cX1_linkAhead 9 = .ok (.getfield 14, 3) := by decide +kernel
theorem dX1_linkAhead_12 : decode cX1_linkAhead 12 = .ok (.invokevirtual 106, 3) := by decide +kernel
theorem dX1_linkAhead_15 : decode cX1_linkAhead 15 = .ok (.iconst 2, 1) := by decide +kernel
theorem dX1_linkAhead_16 : decode cX1_linkAhead 16 = .ok (.if_icmp .ne 23, 3) := by decide +kernel
theorem dX1_linkAhead_19 : decode cX1_linkAhead 19 = .ok (.aload_n 0, 1) := by decide +kernel
theorem dX1_linkAhead_20 : decode cX1_linkAhead 20 = .ok (.getfield 47, 3) := by decide +kernel
theorem dX1_linkAhead_23 : decode cX1_linkAhead 23 = .ok (.iload_n 2, 1) := by decide +kernel
theorem dX1_linkAhead_24 : decode cX1_linkAhead 24 = .ok (.iload_n 1, 1) := by decide +kernel
theorem dX1_linkAhead_25 : decode cX1_linkAhead 25 = .ok (.invokevirtual 109, 3) := by decide +kernel
theorem dX1_linkAhead_28 : decode cX1_linkAhead 28 = .ok (.iconst (-1), 1) := by decide +kernel
theorem dX1_linkAhead_29 : decode cX1_linkAhead 29 = .ok (.if_icmp .ne 8, 3) := by decide +kernel
theorem dX1_linkAhead_32 : decode cX1_linkAhead 32 = .ok (.bipush (-13), 2) := by decide +kernel
theorem dX1_linkAhead_34 : decode cX1_linkAhead 34 = .ok (.goto 4, 3) := by decide +kernel
theorem dX1_linkAhead_37 : decode cX1_linkAhead 37 = .ok (.iload_n 2, 1) := by decide +kernel
theorem dX1_linkAhead_38 : decode cX1_linkAhead 38 = .ok (.ireturn, 1) := by decide +kernel
theorem dX1_linkAhead_39 : decode cX1_linkAhead 39 = .ok (.aload_n 0, 1) := by decide +kernel
theorem dX1_linkAhead_40 : decode cX1_linkAhead 40 = .ok (.getfield 51, 3) := by decide +kernel
theorem dX1_linkAhead_43 : decode cX1_linkAhead 43 = .ok (.iload_n 2, 1) := by decide +kernel
theorem dX1_linkAhead_44 : decode cX1_linkAhead 44 = .ok (.aload_n 0, 1) := by decide +kernel
theorem dX1_linkAhead_45 : decode cX1_linkAhead 45 = .ok (.getfield 14, 3) := by decide +kernel
theorem dX1_linkAhead_48 : decode cX1_linkAhead 48 = .ok (.invokevirtual 106, 3) := by decide +kernel
theorem dX1_linkAhead_51 : decode cX1_linkAhead 51 = .ok (.aload_n 0, 1) := by decide +kernel
theorem dX1_linkAhead_52 : decode cX1_linkAhead 52 = .ok (.getfield 47, 3) := by decide +kernel
theorem dX1_linkAhead_55 : decode cX1_linkAhead 55 = .ok (.getfield 112, 3) := by decide +kernel
theorem dX1_linkAhead_58 : decode cX1_linkAhead 58 = .ok (.iload_n 1, 1) := by decide +kernel
theorem dX1_linkAhead_59 : decode cX1_linkAhead 59 = .ok (.iaload, 1) := by decide +kernel
theorem dX1_linkAhead_60 : decode cX1_linkAhead 60 = .ok (.invokevirtual 116, 3) := by decide +kernel
theorem dX1_linkAhead_63 : decode cX1_linkAhead 63 = .ok (.aload_n 0, 1) := by decide +kernel
theorem dX1_linkAhead_64 : decode cX1_linkAhead 64 = .ok (.getfield 51, 3) := by decide +kernel
theorem dX1_linkAhead_67 : decode cX1_linkAhead 67 = .ok (.iload_n 1, 1) := by decide +kernel
theorem dX1_linkAhead_68 : decode cX1_linkAhead 68 = .ok (.invokevirtual 122, 3) := by decide +kernel
theorem dX1_linkAhead_71 : decode cX1_linkAhead 71 = .ok (.istore_n 3, 1) := by decide +kernel
theorem dX1_linkAhead_72 : decode cX1_linkAhead 72 = .ok (.iload_n 3, 1) := by decide +kernel
theorem dX1_linkAhead_73 : decode cX1_linkAhead 73 = .ok (.iconst (-1), 1) := by decide +kernel
theorem dX1_linkAhead_74 : decode cX1_linkAhead 74 = .ok (.if_icmp .ne 8, 3) := by decide +kernel
theorem dX1_linkAhead_77 : decode cX1_linkAhead 77 = .ok (.bipush (-11), 2) := by decide +kernel
theorem dX1_linkAhead_79 : decode cX1_linkAhead 79 = .ok (.goto 4, 3) := by decide +kernel
theorem dX1_linkAhead_82 : decode cX1_linkAhead 82 = .ok (.iload_n 3, 1) := by decide +kernel
theorem dX1_linkAhead_83 : decode cX1_linkAhead 83 = .ok (.ireturn, 1) := by decide +kernel
theorem dX1_crossLink_0 : decode cX1_crossLink 0 = .ok (.aload_n 0, 1) := by decide +kernel
theorem dX1_crossLink_1 : decode cX1_crossLink 1 = .ok (.getfield 14, 3) := by decide +kernel
theorem dX1_crossLink_4 : decode cX1_crossLink 4 = .ok (.invokevirtual 106, 3) := by decide +kernel
theorem dX1_crossLink_7 : decode cX1_crossLink 7 = .ok (.iconst 2, 1) := by decide +kernel
theorem dX1_crossLink_8 : decode cX1_crossLink 8 = .ok (.if_icmp .ne 10, 3) := by decide +kernel
theorem dX1_crossLink_11 : decode cX1_crossLink 11 = .ok (.aload_n 0, 1) := by decide +kernel
theorem dX1_crossLink_12 : decode cX1_crossLink 12 = .ok (.getfield 14, 3) := by decide +kernel
theorem dX1_crossLink_15 : decode cX1_crossLink 15 = .ok (.invokevirtual 100, 3) := by decide +kernel
theorem dX1_crossLink_18 : decode cX1_crossLink 18 = .ok (.aload_n 0, 1) := by decide +kernel
theorem dX1_crossLink_19 : decode cX1_crossLink 19 = .ok (.getfield 47, 3) := by decide +kernel
theorem dX1_crossLink_22 : decode cX1_crossLink 22 = .ok (.iload_n 1, 1) := by decide +kernel
theorem dX1_crossLink_23 : decode cX1_crossLink 23 = .ok (.iload_n 2, 1) := by decide +kernel
theorem dX1_crossLink_24 : decode cX1_crossLink 24 = .ok (.invokevirtual 109, 3) := by decide +kernel
theorem dX1_crossLink_27 : decode cX1_crossLink 27 = .ok (.istore_n 3, 1) := by decide +kernel
theorem dX1_crossLink_28 : decode cX1_crossLink 28 = .ok (.aload_n 0, 1) := by decide +kernel
theorem dX1_crossLink_29 : decode cX1_crossLink 29 = .ok (.getfield 47, 3) := by decide +kernel
theorem dX1_crossLink_32 : decode cX1_crossLink 32 = .ok (.getfield 123, 3) := by decide +kernel
theorem dX1_crossLink_35 : decode cX1_crossLink 35 = .ok (.iload_n 1, 1) := by decide +kernel
theorem dX1_crossLink_36 : decode cX1_crossLink 36 = .ok (.dup2, 1) := by decide +kernel
theorem dX1_crossLink_37 : decode cX1_crossLink 37 = .ok (.iaload, 1) := by decide +kernel
theorem dX1_crossLink_38 : decode cX1_crossLink 38 = .ok (.iconst 1, 1) := by decide +kernel
theorem dX1_crossLink_39 : decode cX1_crossLink 39 = .ok (.iadd, 1) := by decide +kernel
theorem dX1_crossLink_40 : decode cX1_crossLink 40 = .ok (.iastore, 1) := by decide +kernel
theorem dX1_crossLink_41 : decode cX1_crossLink 41 = .ok (.aload_n 0, 1) := by decide +kernel
theorem dX1_crossLink_42 : decode cX1_crossLink 42 = .ok (.getfield 23, 3) := by decide +kernel
theorem dX1_crossLink_45 : decode cX1_crossLink 45 = .ok (.iload_n 3, 1) := by decide +kernel
theorem dX1_crossLink_46 : decode cX1_crossLink 46 = .ok (.invokevirtual 69, 3) := by decide +kernel
theorem dX1_crossLink_49 : decode cX1_crossLink 49 = .ok (.iload_n 3, 1) := by decide +kernel
theorem dX1_crossLink_50 : decode cX1_crossLink 50 = .ok (.ireturn, 1) := by decide +kernel
theorem dX1_mend_0 : decode cX1_mend 0 = .ok (.aload_n 0, 1) := by decide +kernel
theorem dX1_mend_1 : decode cX1_mend 1 = .ok (.getfield 27, 3) := by decide +kernel
theorem dX1_mend_4 : decode cX1_mend 4 = .ok (.ifCond .eq 10, 3) := by decide +kernel
theorem dX1_mend_7 : decode cX1_mend 7 = .ok (.aload_n 0, 1) := by decide +kernel
theorem dX1_mend_8 : decode cX1_mend 8 = .ok (.getfield 43, 3) := by decide +kernel
theorem dX1_mend_11 : decode cX1_mend 11 = .ok (.ifCond .eq 5, 3) := by decide +kernel
theorem dX1_mend_14 : decode cX1_mend 14 = .ok (.iconst 0, 1) := by decide +kernel
theorem dX1_mend_15 : decode cX1_mend 15 = .ok (.ireturn, 1) := by decide +kernel
theorem dX1_mend_16 : decode cX1_mend 16 = .ok (.aload_n 0, 1) := by decide +kernel
theorem dX1_mend_17 : decode cX1_mend 17 = .ok (.getfield 14, 3) := by decide +kernel
theorem dX1_mend_20 : decode cX1_mend 20 = .ok (.invokevirtual 106, 3) := by decide +kernel
theorem dX1_mend_23 : decode cX1_mend 23 = .ok (.iconst 2, 1) := by decide +kernel
theorem dX1_mend_24 : decode cX1_mend 24 = .ok (.if_icmp .ne 7, 3) := by decide +kernel
theorem dX1_mend_27 : decode cX1_mend 27 = .ok (.iconst 1, 1) := by decide +kernel
theorem dX1_mend_28 : decode cX1_mend 28 = .ok (.goto 4, 3) := by decide +kernel
theorem dX1_mend_31 : decode cX1_mend 31 = .ok (.iconst 0, 1) := by decide +kernel
theorem dX1_mend_32 : decode cX1_mend 32 = .ok (.istore_n 3, 1) := by decide +kernel
theorem dX1_mend_33 : decode cX1_mend 33 = .ok (.iload_n 3, 1) := by decide +kernel
theorem dX1_mend_34 : decode cX1_mend 34 = .ok (.ifCond .eq 15, 3) := by decide +kernel
theorem dX1_mend_37 : decode cX1_mend 37 = .ok (.aload_n 0, 1) := by decide +kernel
theorem dX1_mend_38 : decode cX1_mend 38 = .ok (.getfield 47, 3) := by decide +kernel
theorem dX1_mend_41 : decode cX1_mend 41 = .ok (.iload_n 2, 1) := by decide +kernel
theorem dX1_mend_42 : decode cX1_mend 42 = .ok (.iload_n 1, 1) := by decide +kernel
theorem dX1_mend_43 : decode cX1_mend 43 = .ok (.invokevirtual 109, 3) := by decide +kernel
theorem dX1_mend_46 : decode cX1_mend 46 = .ok (.goto 10, 3) := by decide +kernel
theorem dX1_mend_49 : decode cX1_mend 49 = .ok (.aload_n 0, 1) := by decide +kernel
theorem dX1_mend_50 : decode cX1_mend 50 = .ok (.getfield 14, 3) := by decide +kernel
theorem dX1_mend_53 : decode cX1_mend 53 = .ok (.invokevirtual 103, 3) := by decide +kernel
theorem dX1_mend_56 : decode cX1_mend 56 = .ok (.istore 4, 2) := by decide +kernel
theorem dX1_mend_58 : decode cX1_mend 58 = .ok (.aload_n 0, 1) := by decide +kernel
theorem dX1_mend_59 : decode cX1_mend 59 = .ok (.getfield 55, 3) := by decide +kernel
theorem dX1_mend_62 : decode cX1_mend 62 = .ok (.iload_n 1, 1) := by decide +kernel
theorem dX1_mend_63 : decode cX1_mend 63 = .ok (.iload_n 2, 1) := by decide +kernel
theorem dX1_mend_64 : decode cX1_mend 64 = .ok (.iload 4, 2) := by decide +kernel
theorem dX1_mend_66 : decode cX1_mend 66 = .ok (.invokevirtual 126, 3) := by decide +kernel
theorem dX1_mend_69 : decode cX1_mend 69 = .ok (.ifCond .ne 5, 3) := by decide +kernel
theorem dX1_mend_72 : decode cX1_mend 72 = .ok (.iconst 0, 1) := by decide +kernel
theorem dX1_mend_73 : decode cX1_mend 73 = .ok (.ireturn, 1) := by decide +kernel
theorem dX1_mend_74 : decode cX1_mend 74 = .ok (.iload_n 3, 1) := by decide +kernel
theorem dX1_mend_75 : decode cX1_mend 75 = .ok (.ifCond .eq 10, 3) := by decide +kernel
theorem dX1_mend_78 : decode cX1_mend 78 = .ok (.aload_n 0, 1) := by decide +kernel
theorem dX1_mend_79 : decode cX1_mend 79 = .ok (.getfield 14, 3) := by decide +kernel
theorem dX1_mend_82 : decode cX1_mend 82 = .ok (.invokevirtual 100, 3) := by decide +kernel
theorem dX1_mend_85 : decode cX1_mend 85 = .ok (.aload_n 0, 1) := by decide +kernel
theorem dX1_mend_86 : decode cX1_mend 86 = .ok (.getfield 14, 3) := by decide +kernel
theorem dX1_mend_89 : decode cX1_mend 89 = .ok (.aload_n 0, 1) := by decide +kernel
theorem dX1_mend_90 : decode cX1_mend 90 = .ok (.getfield 55, 3) := by decide +kernel
theorem dX1_mend_93 : decode cX1_mend 93 = .ok (.getfield 132, 3) := by decide +kernel
theorem dX1_mend_96 : decode cX1_mend 96 = .ok (.invokevirtual 65, 3) := by decide +kernel
theorem dX1_mend_99 : decode cX1_mend 99 = .ok (.aload_n 0, 1) := by decide +kernel
theorem dX1_mend_100 : decode cX1_mend 100 = .ok (.iconst 1, 1) := by decide +kernel
theorem dX1_mend_101 : decode cX1_mend 101 = .ok (.putfield 43, 3) := by decide +kernel
theorem dX1_mend_104 : decode cX1_mend 104 = .ok (.aload_n 0, 1) := by decide +kernel
theorem dX1_mend_105 : decode cX1_mend 105 = .ok (.dup, 1) := by decide +kernel
theorem dX1_mend_106 : decode cX1_mend 106 = .ok (.getfield 37, 3) := by decide +kernel
theorem dX1_mend_109 : decode cX1_mend 109 = .ok (.iconst 1, 1) := by decide +kernel
theorem dX1_mend_110 : decode cX1_mend 110 = .ok (.iadd, 1) := by decide +kernel
theorem dX1_mend_111 : decode cX1_mend 111 = .ok (.putfield 37, 3) := by decide +kernel
theorem dX1_mend_114 : decode cX1_mend 114 = .ok (.iconst 1, 1) := by decide +kernel
theorem dX1_mend_115 : decode cX1_mend 115 = .ok (.ireturn, 1) := by decide +kernel
theorem dX2_init_0 : decode cX2_init 0 = .ok (.aload_n 0, 1) := by decide +kernel
theorem dX2_init_1 : decode cX2_init 1 = .ok (.invokespecial 3, 3) := by decide +kernel
theorem dX2_init_4 : decode cX2_init 4 = .ok (.aload_n 0, 1) := by decide +kernel
theorem dX2_init_5 : decode cX2_init 5 = .ok (.iconst 2, 1) := by decide +kernel
theorem dX2_init_6 : decode cX2_init 6 = .ok (.putfield 9, 3) := by decide +kernel
theorem dX2_init_9 : decode cX2_init 9 = .ok (.aload_n 0, 1) := by decide +kernel
theorem dX2_init_10 : decode cX2_init 10 = .ok (.iconst 0, 1) := by decide +kernel
theorem dX2_init_11 : decode cX2_init 11 = .ok (.putfield 15, 3) := by decide +kernel
theorem dX2_init_14 : decode cX2_init 14 = .ok (.aload_n 0, 1) := by decide +kernel
theorem dX2_init_15 : decode cX2_init 15 = .ok (.iconst 0, 1) := by decide +kernel
theorem dX2_init_16 : decode cX2_init 16 = .ok (.putfield 18, 3) := by decide +kernel
theorem dX2_init_19 : decode cX2_init 19 = .ok (.aload_n 0, 1) := by decide +kernel
theorem dX2_init_20 : decode cX2_init 20 = .ok (.bipush 14, 2) := by decide +kernel
theorem dX2_init_22 : decode cX2_init 22 = .ok (.newarray .int, 2) := by decide +kernel
theorem dX2_init_24 : decode cX2_init 24 = .ok (.putfield 21, 3) := by decide +kernel
theorem dX2_init_27 : decode cX2_init 27 = .ok (.aload_n 0, 1) := by decide +kernel
theorem dX2_init_28 : decode cX2_init 28 = .ok (.bipush 14, 2) := by decide +kernel
theorem dX2_init_30 : decode cX2_init 30 = .ok (.newarray .int, 2) := by decide +kernel
theorem dX2_init_32 : decode cX2_init 32 = .ok (.putfield 25, 3) := by decide +kernel
theorem dX2_init_35 : decode cX2_init 35 = .ok (.aload_n 0, 1) := by decide +kernel
theorem dX2_init_36 : decode cX2_init 36 = .ok (.bipush 14, 2) := by decide +kernel
theorem dX2_init_38 : decode cX2_init 38 = .ok (.newarray .int, 2) := by decide +kernel
theorem dX2_init_40 : decode cX2_init 40 = .ok (.putfield 28, 3) := by decide +kernel
theorem dX2_init_43 : decode cX2_init 43 = .ok (.aload_n 0, 1) := by decide +kernel
theorem dX2_init_44 : decode cX2_init 44 = .ok (.bipush 14, 2) := by decide +kernel
theorem dX2_init_46 : decode cX2_init 46 = .ok (.newarray .int, 2) := by decide +kernel
theorem dX2_init_48 : decode cX2_init 48 = .ok (.putfield 31, 3) := by decide +kernel
theorem dX2_init_51 : decode cX2_init 51 = .ok (.aload_n 0, 1) := by decide +kernel
theorem dX2_init_52 : decode cX2_init 52 = .ok (.bipush 14, 2) := by decide +kernel
theorem dX2_init_54 : decode cX2_init 54 = .ok (.newarray .int, 2) := by decide +kernel
theorem dX2_init_56 : decode cX2_init 56 = .ok (.putfield 34, 3) := by decide +kernel
theorem dX2_init_59 : decode cX2_init 59 = .ok (.aload_n 0, 1) := by decide +kernel
theorem dX2_init_60 : decode cX2_init 60 = .ok (.bipush 8, 2) := by decide +kernel
theorem dX2_init_62 : decode cX2_init 62 = .ok (.newarray .int, 2) := by decide +kernel
theorem dX2_init_64 : decode cX2_init 64 = .ok (.putfield 37, 3) := by decide +kernel
theorem dX2_init_67 : decode cX2_init 67 = .ok (.return_, 1) := by decide +kernel
theorem dX2_pairOf_0 : decode cX2_pairOf 0 = .ok (.lconst 1, 1) := by decide +kernel
theorem dX2_pairOf_1 : decode cX2_pairOf 1 = .ok (.iload_n 0, 1) := by decide +kernel
theorem dX2_pairOf_2 : decode cX2_pairOf 2 = .ok (.iload_n 1, 1) := by decide +kernel
theorem dX2_pairOf_3 : decode cX2_pairOf 3 = .ok (.invokestatic 40, 3) := by decide +kernel
theorem dX2_pairOf_6 : decode cX2_pairOf 6 = .ok (.bipush 8, 2) := by decide +kernel
theorem dX2_pairOf_8 : decode cX2_pairOf 8 = .ok (.imul, 1) := by decide +kernel
theorem dX2_pairOf_9 : decode cX2_pairOf 9 = .ok (.iload_n 0, 1) := by decide +kernel
theorem dX2_pairOf_10 : decode cX2_pairOf 10 = .ok (.iload_n 1, 1) := by decide +kernel
theorem dX2_pairOf_11 : decode cX2_pairOf 11 = .ok (.invokestatic 46, 3) := by decide +kernel
theorem dX2_pairOf_14 : decode cX2_pairOf 14 = .ok (.iadd, 1) := by decide +kernel
theorem dX2_pairOf_15 : decode cX2_pairOf 15 = .ok (.lshl, 1) := by decide +kernel
theorem dX2_pairOf_16 : decode cX2_pairOf 16 = .ok (.lreturn, 1) := by decide +kernel
theorem dX2_pairsWithLinks_0 : decode cX2_pairsWithLinks 0 = .ok (.lconst 0, 1) := by decide +kernel
theorem dX2_pairsWithLinks_1 : decode cX2_pairsWithLinks 1 = .ok (.lstore_n 1, 1) := by decide +kernel
theorem dX2_pairsWithLinks_2 : decode cX2_pairsWithLinks 2 = .ok (.iconst 0, 1) := by decide +kernel
theorem dX2_pairsWithLinks_3 : decode cX2_pairsWithLinks 3 = .ok (.istore_n 3, 1) := by decide +kernel
theorem dX2_pairsWithLinks_4 : decode cX2_pairsWithLinks 4 = .ok (.iload_n 3, 1) := by decide +kernel
theorem dX2_pairsWithLinks_5 : decode cX2_pairsWithLinks 5 = .ok (.aload_n 0, 1) := by decide +kernel
theorem dX2_pairsWithLinks_6 : decode cX2_pairsWithLinks 6 = .ok (.getfield 15, 3) := by decide +kernel
theorem dX2_pairsWithLinks_9 : decode cX2_pairsWithLinks 9 = .ok (.if_icmp .ge 27, 3) := by decide +kernel
theorem dX2_pairsWithLinks_12 : decode cX2_pairsWithLinks 12 = .ok (.lload_n 1, 1) := by decide +kernel
theorem dX2_pairsWithLinks_13 : decode cX2_pairsWithLinks 13 = .ok (.aload_n 0, 1) := by decide +kernel
theorem dX2_pairsWithLinks_14 : decode cX2_pairsWithLinks 14 = .ok (.getfield 21, 3) := by decide +kernel
theorem dX2_pairsWithLinks_17 : decode cX2_pairsWithLinks 17 = .ok (.iload_n 3, 1) := by decide +kernel
theorem dX2_pairsWithLinks_18 : decode cX2_pairsWithLinks 18 = .ok (.iaload, 1) := by decide +kernel
theorem dX2_pairsWithLinks_19 : decode cX2_pairsWithLinks 19 = .ok (.aload_n 0, 1) := by decide +kernel
theorem dX2_pairsWithLinks_20 : decode cX2_pairsWithLinks 20 = .ok (.getfield 25, 3) := by decide +kernel
theorem dX2_pairsWithLinks_23 : decode cX2_pairsWithLinks 23 = .ok (.iload_n 3, 1) := by decide +kernel
theorem dX2_pairsWithLinks_24 : decode cX2_pairsWithLinks 24 = .ok (.iaload, 1) := by decide +kernel
theorem dX2_pairsWithLinks_25 : decode cX2_pairsWithLinks 25 = .ok (.invokestatic 49, 3) := by decide +kernel
theorem dX2_pairsWithLinks_28 : decode cX2_pairsWithLinks 28 = .ok (.lor, 1) := by decide +kernel
theorem dX2_pairsWithLinks_29 : decode cX2_pairsWithLinks 29 = .ok (.lstore_n 1, 1) := by decide +kernel
theorem dX2_pairsWithLinks_30 : decode cX2_pairsWithLinks 30 = .ok (.iinc 3 1, 3) := by decide +kernel
theorem dX2_pairsWithLinks_33 : decode cX2_pairsWithLinks 33 = .ok (.goto (-29), 3) := by decide +kernel
theorem dX2_pairsWithLinks_36 : decode cX2_pairsWithLinks 36 = .ok (.lload_n 1, 1) := by decide +kernel
theorem dX2_pairsWithLinks_37 : decode cX2_pairsWithLinks 37 = .ok (.lreturn, 1) := by decide +kernel
theorem dX2_hasNode_0 : decode cX2_hasNode 0 = .ok (.iload_n 1, 1) := by decide +kernel
theorem dX2_hasNode_1 : decode cX2_hasNode 1 = .ok (.ifCond .lt 15, 3) := by decide +kernel
theorem dX2_hasNode_4 : decode cX2_hasNode 4 = .ok (.iload_n 1, 1) := by decide +kernel
theorem dX2_hasNode_5 : decode cX2_hasNode 5 = .ok (.aload_n 0, 1) := by decide +kernel
theorem dX2_hasNode_6 : decode cX2_hasNode 6 = .ok (.getfield 9, 3) := by decide +kernel
theorem dX2_hasNode_9 : decode cX2_hasNode 9 = .ok (.if_icmp .ge 7, 3) := by decide +kernel
theorem dX2_hasNode_12 : decode cX2_hasNode 12 = .ok (.iconst 1, 1) := by decide +kernel
theorem dX2_hasNode_13 : decode cX2_hasNode 13 = .ok (.goto 4, 3) := by decide +kernel
theorem dX2_hasNode_16 : decode cX2_hasNode 16 = .ok (.iconst 0, 1) := by decide +kernel
theorem dX2_hasNode_17 : decode cX2_hasNode 17 = .ok (.ireturn, 1) := by decide +kernel
theorem dX2_hasLink_0 : decode cX2_hasLink 0 = .ok (.iload_n 1, 1) := by decide +kernel
theorem dX2_hasLink_1 : decode cX2_hasLink 1 = .ok (.ifCond .lt 15, 3) := by decide +kernel
theorem dX2_hasLink_4 : decode cX2_hasLink 4 = .ok (.iload_n 1, 1) := by decide +kernel
theorem dX2_hasLink_5 : decode cX2_hasLink 5 = .ok (.aload_n 0, 1) := by decide +kernel
theorem dX2_hasLink_6 : decode cX2_hasLink 6 = .ok (.getfield 15, 3) := by decide +kernel
theorem dX2_hasLink_9 : decode cX2_hasLink 9 = .ok (.if_icmp .ge 7, 3) := by decide +kernel
theorem dX2_hasLink_12 : decode cX2_hasLink 12 = .ok (.iconst 1, 1) := by decide +kernel
theorem dX2_hasLink_13 : decode cX2_hasLink 13 = .ok (.goto 4, 3) := by decide +kernel
theorem dX2_hasLink_16 : decode cX2_hasLink 16 = .ok (.iconst 0, 1) := by decide +kernel
theorem dX2_hasLink_17 : decode cX2_hasLink 17 = .ok (.ireturn, 1) := by decide +kernel
theorem dX2_isUp_0 : decode cX2_isUp 0 = .ok (.aload_n 0, 1) := by decide +kernel
theorem dX2_isUp_1 : decode cX2_isUp 1 = .ok (.getfield 18, 3) := by decide +kernel
theorem dX2_isUp_4 : decode cX2_isUp 4 = .ok (.iload_n 1, 1) := by decide +kernel
theorem dX2_isUp_5 : decode cX2_isUp 5 = .ok (.ishr, 1) := by decide +kernel
theorem dX2_isUp_6 : decode cX2_isUp 6 = .ok (.iconst 1, 1) := by decide +kernel
theorem dX2_isUp_7 : decode cX2_isUp 7 = .ok (.iand, 1) := by decide +kernel
theorem dX2_isUp_8 : decode cX2_isUp 8 = .ok (.iconst 1, 1) := by decide +kernel
theorem dX2_isUp_9 : decode cX2_isUp 9 = .ok (.if_icmp .ne 7, 3) := by decide +kernel
theorem dX2_isUp_12 : decode cX2_isUp 12 = .ok (.iconst 1, 1) := by decide +kernel
theorem dX2_isUp_13 : decode cX2_isUp 13 = .ok (.goto 4, 3) := by decide +kernel
theorem dX2_isUp_16 : decode cX2_isUp 16 = .ok (.iconst 0, 1) := by decide +kernel
theorem dX2_isUp_17 : decode cX2_isUp 17 = .ok (.ireturn, 1) := by decide +kernel
theorem dX2_otherEnd_0 : decode cX2_otherEnd 0 = .ok (.aload_n 0, 1) := by decide +kernel
theorem dX2_otherEnd_1 : decode cX2_otherEnd 1 = .ok (.iload_n 1, 1) := by decide +kernel
theorem dX2_otherEnd_2 : decode cX2_otherEnd 2 = .ok (.invokevirtual 53, 3) := by decide +kernel
theorem dX2_otherEnd_5 : decode cX2_otherEnd 5 = .ok (.ifCond .ne 5, 3) := by decide +kernel
theorem dX2_otherEnd_8 : decode cX2_otherEnd 8 = .ok (.iconst (-1), 1) := by decide +kernel
theorem dX2_otherEnd_9 : decode cX2_otherEnd 9 = .ok (.ireturn, 1) := by decide +kernel
theorem dX2_otherEnd_10 : decode cX2_otherEnd 10 = .ok (.aload_n 0, 1) := by decide +kernel
theorem dX2_otherEnd_11 : decode cX2_otherEnd 11 = .ok (.getfield 21, 3) := by decide +kernel
theorem dX2_otherEnd_14 : decode cX2_otherEnd 14 = .ok (.iload_n 1, 1) := by decide +kernel
theorem dX2_otherEnd_15 : decode cX2_otherEnd 15 = .ok (.iaload, 1) := by decide +kernel
theorem dX2_otherEnd_16 : decode cX2_otherEnd 16 = .ok (.iload_n 2, 1) := by decide +kernel
theorem dX2_otherEnd_17 : decode cX2_otherEnd 17 = .ok (.if_icmp .ne 10, 3) := by decide +kernel
theorem dX2_otherEnd_20 : decode cX2_otherEnd 20 = .ok (.aload_n 0, 1) := by decide +kernel
theorem dX2_otherEnd_21 : decode cX2_otherEnd 21 = .ok (.getfield 25, 3) := by decide +kernel
theorem dX2_otherEnd_24 : decode cX2_otherEnd 24 = .ok (.iload_n 1, 1) := by decide +kernel
theorem dX2_otherEnd_25 : decode cX2_otherEnd 25 = .ok (.iaload, 1) := by decide +kernel
theorem dX2_otherEnd_26 : decode cX2_otherEnd 26 = .ok (.ireturn, 1) := by decide +kernel
theorem dX2_otherEnd_27 : decode cX2_otherEnd 27 = .ok (.aload_n 0, 1) := by decide +kernel
theorem dX2_otherEnd_28 : decode cX2_otherEnd 28 = .ok (.getfield 25, 3) := by decide +kernel
theorem dX2_otherEnd_31 : decode cX2_otherEnd 31 = .ok (.iload_n 1, 1) := by decide +kernel
theorem dX2_otherEnd_32 : decode cX2_otherEnd 32 = .ok (.iaload, 1) := by decide +kernel
theorem dX2_otherEnd_33 : decode cX2_otherEnd 33 = .ok (.iload_n 2, 1) := by decide +kernel
theorem dX2_otherEnd_34 : decode cX2_otherEnd 34 = .ok (.if_icmp .ne 12, 3) := by decide +kernel
theorem dX2_otherEnd_37 : decode cX2_otherEnd 37 = .ok (.aload_n 0, 1) := by decide +kernel
theorem dX2_otherEnd_38 : decode cX2_otherEnd 38 = .ok (.getfield 21, 3) := by decide +kernel
theorem dX2_otherEnd_41 : decode cX2_otherEnd 41 = .ok (.iload_n 1, 1) := by decide +kernel
theorem dX2_otherEnd_42 : decode cX2_otherEnd 42 = .ok (.iaload, 1) := by decide +kernel
theorem dX2_otherEnd_43 : decode cX2_otherEnd 43 = .ok (.goto 4, 3) := by decide +kernel
theorem dX2_otherEnd_46 : decode cX2_otherEnd 46 = .ok (.iconst (-1), 1) := by decide +kernel
theorem dX2_otherEnd_47 : decode cX2_otherEnd 47 = .ok (.ireturn, 1) := by decide +kernel
theorem dX2_linkBetween_0 : decode cX2_linkBetween 0 = .ok (.iconst 0, 1) := by decide +kernel
theorem dX2_linkBetween_1 : decode cX2_linkBetween 1 = .ok (.istore_n 3, 1) := by decide +kernel
theorem dX2_linkBetween_2 : decode cX2_linkBetween 2 = .ok (.iload_n 3, 1) := by decide +kernel
theorem dX2_linkBetween_3 : decode cX2_linkBetween 3 = .ok (.aload_n 0, 1) := by decide +kernel
theorem dX2_linkBetween_4 : decode cX2_linkBetween 4 = .ok (.getfield 15, 3) := by decide +kernel
theorem dX2_linkBetween_7 : decode cX2_linkBetween 7 = .ok (.if_icmp .ge 51, 3) := by decide +kernel
theorem dX2_linkBetween_10 : decode cX2_linkBetween 10 = .ok (.aload_n 0, 1) := by decide +kernel
theorem dX2_linkBetween_11 : decode cX2_linkBetween 11 = .ok (.getfield 21, 3) := by decide +kernel
theorem dX2_linkBetween_14 : decode cX2_linkBetween 14 = .ok (.iload_n 3, 1) := by decide +kernel
theorem dX2_linkBetween_15 : decode cX2_linkBetween 15 = .ok (.iaload, 1) := by decide +kernel
theorem dX2_linkBetween_16 : decode cX2_linkBetween 16 = .ok (.iload_n 1, 1) := by decide +kernel
theorem dX2_linkBetween_17 : decode cX2_linkBetween 17 = .ok (.if_icmp .ne 13, 3) := by decide +kernel
theorem dX2_linkBetween_20 : decode cX2_linkBetween 20 = .ok (.aload_n 0, 1) := by decide +kernel
theorem dX2_linkBetween_21 : decode cX2_linkBetween 21 = .ok (.getfield 25, 3) := by decide +kernel
theorem dX2_linkBetween_24 : decode cX2_linkBetween 24 = .ok (.iload_n 3, 1) := by decide +kernel
theorem dX2_linkBetween_25 : decode cX2_linkBetween 25 = .ok (.iaload, 1) := by decide +kernel
theorem dX2_linkBetween_26 : decode cX2_linkBetween 26 = .ok (.iload_n 2, 1) := by decide +kernel
theorem dX2_linkBetween_27 : decode cX2_linkBetween 27 = .ok (.if_icmp .eq 23, 3) := by decide +kernel
theorem dX2_linkBetween_30 : decode cX2_linkBetween 30 = .ok (.aload_n 0, 1) := by decide +kernel
theorem dX2_linkBetween_31 : decode cX2_linkBetween 31 = .ok (.getfield 21, 3) := by decide +kernel
theorem dX2_linkBetween_34 : decode cX2_linkBetween 34 = .ok (.iload_n 3, 1) := by decide +kernel
theorem dX2_linkBetween_35 : decode cX2_linkBetween 35 = .ok (.iaload, 1) := by decide +kernel
theorem dX2_linkBetween_36 : decode cX2_linkBetween 36 = .ok (.iload_n 2, 1) := by decide +kernel
theorem dX2_linkBetween_37 : decode cX2_linkBetween 37 = .ok (.if_icmp .ne 15, 3) := by decide +kernel
theorem dX2_linkBetween_40 : decode cX2_linkBetween 40 = .ok (.aload_n 0, 1) := by decide +kernel
theorem dX2_linkBetween_41 : decode cX2_linkBetween 41 = .ok (.getfield 25, 3) := by decide +kernel
theorem dX2_linkBetween_44 : decode cX2_linkBetween 44 = .ok (.iload_n 3, 1) := by decide +kernel
theorem dX2_linkBetween_45 : decode cX2_linkBetween 45 = .ok (.iaload, 1) := by decide +kernel
theorem dX2_linkBetween_46 : decode cX2_linkBetween 46 = .ok (.iload_n 1, 1) := by decide +kernel
theorem dX2_linkBetween_47 : decode cX2_linkBetween 47 = .ok (.if_icmp .ne 5, 3) := by decide +kernel
theorem dX2_linkBetween_50 : decode cX2_linkBetween 50 = .ok (.iload_n 3, 1) := by decide +kernel
theorem dX2_linkBetween_51 : decode cX2_linkBetween 51 = .ok (.ireturn, 1) := by decide +kernel
theorem dX2_linkBetween_52 : decode cX2_linkBetween 52 = .ok (.iinc 3 1, 3) := by decide +kernel
theorem dX2_linkBetween_55 : decode cX2_linkBetween 55 = .ok (.goto (-53), 3) := by decide +kernel
theorem dX2_linkBetween_58 : decode cX2_linkBetween 58 = .ok (.iconst (-1), 1) := by decide +kernel
theorem dX2_linkBetween_59 : decode cX2_linkBetween 59 = .ok (.ireturn, 1) := by decide +kernel
theorem dX2_behind_0 : decode cX2_behind 0 = .ok (.iconst 0, 1) := by decide +kernel
theorem dX2_behind_1 : decode cX2_behind 1 = .ok (.istore_n 1, 1) := by decide +kernel
theorem dX2_behind_2 : decode cX2_behind 2 = .ok (.iconst 0, 1) := by decide +kernel
theorem dX2_behind_3 : decode cX2_behind 3 = .ok (.istore_n 2, 1) := by decide +kernel
theorem dX2_behind_4 : decode cX2_behind 4 = .ok (.iload_n 2, 1) := by decide +kernel
theorem dX2_behind_5 : decode cX2_behind 5 = .ok (.aload_n 0, 1) := by decide +kernel
theorem dX2_behind_6 : decode cX2_behind 6 = .ok (.getfield 9, 3) := by decide +kernel
theorem dX2_behind_9 : decode cX2_behind 9 = .ok (.if_icmp .ge 28, 3) := by decide +kernel
theorem dX2_behind_12 : decode cX2_behind 12 = .ok (.aload_n 0, 1) := by decide +kernel
theorem dX2_behind_13 : decode cX2_behind 13 = .ok (.getfield 37, 3) := by decide +kernel
theorem dX2_behind_16 : decode cX2_behind 16 = .ok (.iload_n 2, 1) := by decide +kernel
theorem dX2_behind_17 : decode cX2_behind 17 = .ok (.iaload, 1) := by decide +kernel
theorem dX2_behind_18 : decode cX2_behind 18 = .ok (.aload_n 0, 1) := by decide +kernel
theorem dX2_behind_19 : decode cX2_behind 19 = .ok (.getfield 18, 3) := by decide +kernel
theorem dX2_behind_22 : decode cX2_behind 22 = .ok (.if_icmp .eq 9, 3) := by decide +kernel
theorem dX2_behind_25 : decode cX2_behind 25 = .ok (.iload_n 1, 1) := by decide +kernel
theorem dX2_behind_26 : decode cX2_behind 26 = .ok (.iconst 1, 1) := by decide +kernel
theorem dX2_behind_27 : decode cX2_behind 27 = .ok (.iload_n 2, 1) := by decide +kernel
theorem dX2_behind_28 : decode cX2_behind 28 = .ok (.ishl, 1) := by decide +kernel
theorem dX2_behind_29 : decode cX2_behind 29 = .ok (.ior, 1) := by decide +kernel
theorem dX2_behind_30 : decode cX2_behind 30 = .ok (.istore_n 1, 1) := by decide +kernel
theorem dX2_behind_31 : decode cX2_behind 31 = .ok (.iinc 2 1, 3) := by decide +kernel
theorem dX2_behind_34 : decode cX2_behind 34 = .ok (.goto (-30), 3) := by decide +kernel
theorem dX2_behind_37 : decode cX2_behind 37 = .ok (.iload_n 1, 1) := by decide +kernel
theorem dX2_behind_38 : decode cX2_behind 38 = .ok (.ireturn, 1) := by decide +kernel
theorem dX2_startAnew_0 : decode cX2_startAnew 0 = .ok (.aload_n 0, 1) := by decide +kernel
theorem dX2_startAnew_1 : decode cX2_startAnew 1 = .ok (.iload_n 1, 1) := by decide +kernel
theorem dX2_startAnew_2 : decode cX2_startAnew 2 = .ok (.putfield 9, 3) := by decide +kernel
theorem dX2_startAnew_5 : decode cX2_startAnew 5 = .ok (.aload_n 0, 1) := by decide +kernel
theorem dX2_startAnew_6 : decode cX2_startAnew 6 = .ok (.iconst 0, 1) := by decide +kernel
theorem dX2_startAnew_7 : decode cX2_startAnew 7 = .ok (.putfield 15, 3) := by decide +kernel
theorem dX2_startAnew_10 : decode cX2_startAnew 10 = .ok (.aload_n 0, 1) := by decide +kernel
theorem dX2_startAnew_11 : decode cX2_startAnew 11 = .ok (.iconst 0, 1) := by decide +kernel
theorem dX2_startAnew_12 : decode cX2_startAnew 12 = .ok (.putfield 18, 3) := by decide +kernel
theorem dX2_startAnew_15 : decode cX2_startAnew 15 = .ok (.aload_n 0, 1) := by decide +kernel
theorem dX2_startAnew_16 : decode cX2_startAnew 16 = .ok (.getfield 37, 3) := by decide +kernel
theorem dX2_startAnew_19 : decode cX2_startAnew 19 = .ok (.iconst 0, 1) := by decide +kernel
theorem dX2_startAnew_20 : decode cX2_startAnew 20 = .ok (.invokestatic 57, 3) := by decide +kernel
theorem dX2_startAnew_23 : decode cX2_startAnew 23 = .ok (.return_, 1) := by decide +kernel
theorem dX2_putLink_0 : decode cX2_putLink 0 = .ok (.aload_n 0, 1) := by decide +kernel
theorem dX2_putLink_1 : decode cX2_putLink 1 = .ok (.iload_n 1, 1) := by decide +kernel
theorem dX2_putLink_2 : decode cX2_putLink 2 = .ok (.iload_n 2, 1) := by decide +kernel
theorem dX2_putLink_3 : decode cX2_putLink 3 = .ok (.invokevirtual 63, 3) := by decide +kernel
theorem dX2_putLink_6 : decode cX2_putLink 6 = .ok (.istore 5, 2) := by decide +kernel
theorem dX2_putLink_8 : decode cX2_putLink 8 = .ok (.iload 5, 2) := by decide +kernel
theorem dX2_putLink_10 : decode cX2_putLink 10 = .ok (.iconst (-1), 1) := by decide +kernel
theorem dX2_putLink_11 : decode cX2_putLink 11 = .ok (.if_icmp .ne 11, 3) := by decide +kernel
theorem dX2_putLink_14 : decode cX2_putLink 14 = .ok (.aload_n 0, 1) := by decide +kernel
theorem dX2_putLink_15 : decode cX2_putLink 15 = .ok (.iload_n 1, 1) := by decide +kernel
theorem dX2_putLink_16 : decode cX2_putLink 16 = .ok (.iload_n 2, 1) := by decide +kernel
theorem dX2_putLink_17 : decode cX2_putLink 17 = .ok (.invokevirtual 66, 3) := by decide +kernel
theorem dX2_putLink_20 : decode cX2_putLink 20 = .ok (.istore 5, 2) := by decide +kernel
theorem dX2_putLink_22 : decode cX2_putLink 22 = .ok (.iload 5, 2) := by decide +kernel
theorem dX2_putLink_24 : decode cX2_putLink 24 = .ok (.iconst (-1), 1) := by decide +kernel
theorem dX2_putLink_25 : decode cX2_putLink 25 = .ok (.if_icmp .eq 20, 3) := by decide +kernel
theorem dX2_putLink_28 : decode cX2_putLink 28 = .ok (.aload_n 0, 1) := by decide +kernel
theorem dX2_putLink_29 : decode cX2_putLink 29 = .ok (.getfield 28, 3) := by decide +kernel
theorem dX2_putLink_32 : decode cX2_putLink 32 = .ok (.iload 5, 2) := by decide +kernel
theorem dX2_putLink_34 : decode cX2_putLink 34 = .ok (.iload_n 3, 1) := by decide +kernel
theorem dX2_putLink_35 : decode cX2_putLink 35 = .ok (.iastore, 1) := by decide +kernel
theorem dX2_putLink_36 : decode cX2_putLink 36 = .ok (.aload_n 0, 1) := by decide +kernel
theorem dX2_putLink_37 : decode cX2_putLink 37 = .ok (.getfield 31, 3) := by decide +kernel
theorem dX2_putLink_40 : decode cX2_putLink 40 = .ok (.iload 5, 2) := by decide +kernel
theorem dX2_putLink_42 : decode cX2_putLink 42 = .ok (.iload 4, 2) := by decide +kernel
theorem dX2_putLink_44 : decode cX2_putLink 44 = .ok (.iastore, 1) := by decide +kernel
theorem dX2_putLink_45 : decode cX2_putLink 45 = .ok (.return_, 1) := by decide +kernel
theorem dX2_addLink_0 : decode cX2_addLink 0 = .ok (.aload_n 0, 1) := by decide +kernel
theorem dX2_addLink_1 : decode cX2_addLink 1 = .ok (.getfield 15, 3) := by decide +kernel
theorem dX2_addLink_4 : decode cX2_addLink 4 = .ok (.bipush 14, 2) := by decide +kernel
theorem dX2_addLink_6 : decode cX2_addLink 6 = .ok (.if_icmp .lt 5, 3) := by decide +kernel
theorem dX2_addLink_9 : decode cX2_addLink 9 = .ok (.iconst (-1), 1) := by decide +kernel
theorem dX2_addLink_10 : decode cX2_addLink 10 = .ok (.ireturn, 1) := by decide +kernel
theorem dX2_addLink_11 : decode cX2_addLink 11 = .ok (.aload_n 0, 1) := by decide +kernel
theorem dX2_addLink_12 : decode cX2_addLink 12 = .ok (.getfield 15, 3) := by decide +kernel
theorem dX2_addLink_15 : decode cX2_addLink 15 = .ok (.istore_n 3, 1) := by decide +kernel
theorem dX2_addLink_16 : decode cX2_addLink 16 = .ok (.aload_n 0, 1) := by decide +kernel
theorem dX2_addLink_17 : decode cX2_addLink 17 = .ok (.getfield 21, 3) := by decide +kernel
theorem dX2_addLink_20 : decode cX2_addLink 20 = .ok (.iload_n 3, 1) := by decide +kernel
theorem dX2_addLink_21 : decode cX2_addLink 21 = .ok (.iload_n 1, 1) := by decide +kernel
theorem dX2_addLink_22 : decode cX2_addLink 22 = .ok (.iload_n 2, 1) := by decide +kernel
theorem dX2_addLink_23 : decode cX2_addLink 23 = .ok (.invokestatic 40, 3) := by decide +kernel
theorem dX2_addLink_26 : decode cX2_addLink 26 = .ok (.iastore, 1) := by decide +kernel
theorem dX2_addLink_27 : decode cX2_addLink 27 = .ok (.aload_n 0, 1) := by decide +kernel
theorem dX2_addLink_28 : decode cX2_addLink 28 = .ok (.getfield 25, 3) := by decide +kernel
theorem dX2_addLink_31 : decode cX2_addLink 31 = .ok (.iload_n 3, 1) := by decide +kernel
theorem dX2_addLink_32 : decode cX2_addLink 32 = .ok (.iload_n 1, 1) := by decide +kernel
theorem dX2_addLink_33 : decode cX2_addLink 33 = .ok (.iload_n 2, 1) := by decide +kernel
theorem dX2_addLink_34 : decode cX2_addLink 34 = .ok (.invokestatic 46, 3) := by decide +kernel
theorem dX2_addLink_37 : decode cX2_addLink 37 = .ok (.iastore, 1) := by decide +kernel
theorem dX2_addLink_38 : decode cX2_addLink 38 = .ok (.aload_n 0, 1) := by decide +kernel
theorem dX2_addLink_39 : decode cX2_addLink 39 = .ok (.dup, 1) := by decide +kernel
theorem dX2_addLink_40 : decode cX2_addLink 40 = .ok (.getfield 18, 3) := by decide +kernel
theorem dX2_addLink_43 : decode cX2_addLink 43 = .ok (.iconst 1, 1) := by decide +kernel
theorem dX2_addLink_44 : decode cX2_addLink 44 = .ok (.iload_n 3, 1) := by decide +kernel
theorem dX2_addLink_45 : decode cX2_addLink 45 = .ok (.ishl, 1) := by decide +kernel
theorem dX2_addLink_46 : decode cX2_addLink 46 = .ok (.ior, 1) := by decide +kernel
theorem dX2_addLink_47 : decode cX2_addLink 47 = .ok (.putfield 18, 3) := by decide +kernel
theorem dX2_addLink_50 : decode cX2_addLink 50 = .ok (.iconst 0, 1) := by decide +kernel
theorem dX2_addLink_51 : decode cX2_addLink 51 = .ok (.istore 4, 2) := by decide +kernel
theorem dX2_addLink_53 : decode cX2_addLink 53 = .ok (.iload 4, 2) := by decide +kernel
theorem dX2_addLink_55 : decode cX2_addLink 55 = .ok (.aload_n 0, 1) := by decide +kernel
theorem dX2_addLink_56 : decode cX2_addLink 56 = .ok (.getfield 9, 3) := by decide +kernel
theorem dX2_addLink_59 : decode cX2_addLink 59 = .ok (.if_icmp .ge 22, 3) := by decide +kernel
theorem dX2_addLink_62 : decode cX2_addLink 62 = .ok (.aload_n 0, 1) := by decide +kernel
theorem dX2_addLink_63 : decode cX2_addLink 63 = .ok (.getfield 37, 3) := by decide +kernel
theorem dX2_addLink_66 : decode cX2_addLink 66 = .ok (.iload 4, 2) := by decide +kernel
theorem dX2_addLink_68 : decode cX2_addLink 68 = .ok (.dup2, 1) := by decide +kernel
theorem dX2_addLink_69 : decode cX2_addLink 69 = .ok (.iaload, 1) := by decide +kernel
theorem dX2_addLink_70 : decode cX2_addLink 70 = .ok (.iconst 1, 1) := by decide +kernel
theorem dX2_addLink_71 : decode cX2_addLink 71 = .ok (.iload_n 3, 1) := by decide +kernel
theorem dX2_addLink_72 : decode cX2_addLink 72 = .ok (.ishl, 1) := by decide +kernel
theorem dX2_addLink_73 : decode cX2_addLink 73 = .ok (.ior, 1) := by decide +kernel
theorem dX2_addLink_74 : decode cX2_addLink 74 = .ok (.iastore, 1) := by decide +kernel
theorem dX2_addLink_75 : decode cX2_addLink 75 = .ok (.iinc 4 1, 3) := by decide +kernel
theorem dX2_addLink_78 : decode cX2_addLink 78 = .ok (.goto (-25), 3) := by decide +kernel
theorem dX2_addLink_81 : decode cX2_addLink 81 = .ok (.aload_n 0, 1) := by decide +kernel
theorem dX2_addLink_82 : decode cX2_addLink 82 = .ok (.dup, 1) := by decide +kernel
theorem dX2_addLink_83 : decode cX2_addLink 83 = .ok (.getfield 15, 3) := by decide +kernel
theorem dX2_addLink_86 : decode cX2_addLink 86 = .ok (.iconst 1, 1) := by decide +kernel
theorem dX2_addLink_87 : decode cX2_addLink 87 = .ok (.iadd, 1) := by decide +kernel
theorem dX2_addLink_88 : decode cX2_addLink 88 = .ok (.putfield 15, 3) := by decide +kernel
theorem dX2_addLink_91 : decode cX2_addLink 91 = .ok (.iload_n 3, 1) := by decide +kernel
theorem dX2_addLink_92 : decode cX2_addLink 92 = .ok (.ireturn, 1) := by decide +kernel
theorem dX3_init_0 : decode cX3_init 0 = .ok (.aload_n 0, 1) := by decide +kernel
theorem dX3_init_1 : decode cX3_init 1 = .ok (.invokespecial 3, 3) := by decide +kernel
theorem dX3_init_4 : decode cX3_init 4 = .ok (.aload_n 0, 1) := by decide +kernel
theorem dX3_init_5 : decode cX3_init 5 = .ok (.bipush 8, 2) := by decide +kernel
theorem dX3_init_7 : decode cX3_init 7 = .ok (.newarray .int, 2) := by decide +kernel
theorem dX3_init_9 : decode cX3_init 9 = .ok (.putfield 9, 3) := by decide +kernel
theorem dX3_init_12 : decode cX3_init 12 = .ok (.aload_n 0, 1) := by decide +kernel
theorem dX3_init_13 : decode cX3_init 13 = .ok (.bipush 8, 2) := by decide +kernel
theorem dX3_init_15 : decode cX3_init 15 = .ok (.newarray .int, 2) := by decide +kernel
theorem dX3_init_17 : decode cX3_init 17 = .ok (.putfield 15, 3) := by decide +kernel
theorem dX3_init_20 : decode cX3_init 20 = .ok (.aload_n 0, 1) := by decide +kernel
theorem dX3_init_21 : decode cX3_init 21 = .ok (.bipush 8, 2) := by decide +kernel
theorem dX3_init_23 : decode cX3_init 23 = .ok (.newarray .int, 2) := by decide +kernel
theorem dX3_init_25 : decode cX3_init 25 = .ok (.putfield 18, 3) := by decide +kernel
theorem dX3_init_28 : decode cX3_init 28 = .ok (.aload_n 0, 1) := by decide +kernel
theorem dX3_init_29 : decode cX3_init 29 = .ok (.bipush 8, 2) := by decide +kernel
theorem dX3_init_31 : decode cX3_init 31 = .ok (.newarray .int, 2) := by decide +kernel
theorem dX3_init_33 : decode cX3_init 33 = .ok (.putfield 21, 3) := by decide +kernel
theorem dX3_init_36 : decode cX3_init 36 = .ok (.aload_n 0, 1) := by decide +kernel
theorem dX3_init_37 : decode cX3_init 37 = .ok (.iconst 0, 1) := by decide +kernel
theorem dX3_init_38 : decode cX3_init 38 = .ok (.putfield 24, 3) := by decide +kernel
theorem dX3_init_41 : decode cX3_init 41 = .ok (.aload_n 0, 1) := by decide +kernel
theorem dX3_init_42 : decode cX3_init 42 = .ok (.iconst 0, 1) := by decide +kernel
theorem dX3_init_43 : decode cX3_init 43 = .ok (.putfield 28, 3) := by decide +kernel
theorem dX3_init_46 : decode cX3_init 46 = .ok (.aload_n 0, 1) := by decide +kernel
theorem dX3_init_47 : decode cX3_init 47 = .ok (.aload_n 1, 1) := by decide +kernel
theorem dX3_init_48 : decode cX3_init 48 = .ok (.putfield 31, 3) := by decide +kernel
theorem dX3_init_51 : decode cX3_init 51 = .ok (.return_, 1) := by decide +kernel
theorem dX3_keepUp_0 : decode cX3_keepUp 0 = .ok (.aload_n 0, 1) := by decide +kernel
theorem dX3_keepUp_1 : decode cX3_keepUp 1 = .ok (.iconst 0, 1) := by decide +kernel
theorem dX3_keepUp_2 : decode cX3_keepUp 2 = .ok (.iconst 0, 1) := by decide +kernel
theorem dX3_keepUp_3 : decode cX3_keepUp 3 = .ok (.aload_n 0, 1) := by decide +kernel
theorem dX3_keepUp_4 : decode cX3_keepUp 4 = .ok (.getfield 31, 3) := by decide +kernel
theorem dX3_keepUp_7 : decode cX3_keepUp 7 = .ok (.getfield 35, 3) := by decide +kernel
theorem dX3_keepUp_10 : decode cX3_keepUp 10 = .ok (.iconst 0, 1) := by decide +kernel
theorem dX3_keepUp_11 : decode cX3_keepUp 11 = .ok (.invokevirtual 40, 3) := by decide +kernel
theorem dX3_keepUp_14 : decode cX3_keepUp 14 = .ok (.return_, 1) := by decide +kernel
theorem dX3_keepPrices_0 : decode cX3_keepPrices 0 = .ok (.aload_n 0, 1) := by decide +kernel
theorem dX3_keepPrices_1 : decode cX3_keepPrices 1 = .ok (.iconst 1, 1) := by decide +kernel
theorem dX3_keepPrices_2 : decode cX3_keepPrices 2 = .ok (.iload_n 1, 1) := by decide +kernel
theorem dX3_keepPrices_3 : decode cX3_keepPrices 3 = .ok (.aload_n 0, 1) := by decide +kernel
theorem dX3_keepPrices_4 : decode cX3_keepPrices 4 = .ok (.getfield 31, 3) := by decide +kernel
theorem dX3_keepPrices_7 : decode cX3_keepPrices 7 = .ok (.getfield 44, 3) := by decide +kernel
theorem dX3_keepPrices_10 : decode cX3_keepPrices 10 = .ok (.iload_n 1, 1) := by decide +kernel
theorem dX3_keepPrices_11 : decode cX3_keepPrices 11 = .ok (.iaload, 1) := by decide +kernel
theorem dX3_keepPrices_12 : decode cX3_keepPrices 12 = .ok (.aload_n 0, 1) := by decide +kernel
theorem dX3_keepPrices_13 : decode cX3_keepPrices 13 = .ok (.getfield 31, 3) := by decide +kernel
theorem dX3_keepPrices_16 : decode cX3_keepPrices 16 = .ok (.getfield 47, 3) := by decide +kernel
theorem dX3_keepPrices_19 : decode cX3_keepPrices 19 = .ok (.iload_n 1, 1) := by decide +kernel
theorem dX3_keepPrices_20 : decode cX3_keepPrices 20 = .ok (.iaload, 1) := by decide +kernel
theorem dX3_keepPrices_21 : decode cX3_keepPrices 21 = .ok (.invokevirtual 40, 3) := by decide +kernel
theorem dX3_keepPrices_24 : decode cX3_keepPrices 24 = .ok (.return_, 1) := by decide +kernel
theorem dX3_keepSeen_0 : decode cX3_keepSeen 0 = .ok (.aload_n 0, 1) := by decide +kernel
theorem dX3_keepSeen_1 : decode cX3_keepSeen 1 = .ok (.iconst 2, 1) := by decide +kernel
theorem dX3_keepSeen_2 : decode cX3_keepSeen 2 = .ok (.iload_n 1, 1) := by decide +kernel
theorem dX3_keepSeen_3 : decode cX3_keepSeen 3 = .ok (.aload_n 0, 1) := by decide +kernel
theorem dX3_keepSeen_4 : decode cX3_keepSeen 4 = .ok (.getfield 31, 3) := by decide +kernel
theorem dX3_keepSeen_7 : decode cX3_keepSeen 7 = .ok (.getfield 50, 3) := by decide +kernel
theorem dX3_keepSeen_10 : decode cX3_keepSeen 10 = .ok (.iload_n 1, 1) := by decide +kernel
theorem dX3_keepSeen_11 : decode cX3_keepSeen 11 = .ok (.iaload, 1) := by decide +kernel
theorem dX3_keepSeen_12 : decode cX3_keepSeen 12 = .ok (.iconst 0, 1) := by decide +kernel
theorem dX3_keepSeen_13 : decode cX3_keepSeen 13 = .ok (.invokevirtual 40, 3) := by decide +kernel
theorem dX3_keepSeen_16 : decode cX3_keepSeen 16 = .ok (.return_, 1) := by decide +kernel
theorem dX3_keep_0 : decode cX3_keep 0 = .ok (.aload_n 0, 1) := by decide +kernel
theorem dX3_keep_1 : decode cX3_keep 1 = .ok (.getfield 9, 3) := by decide +kernel
theorem dX3_keep_4 : decode cX3_keep 4 = .ok (.aload_n 0, 1) := by decide +kernel
theorem dX3_keep_5 : decode cX3_keep 5 = .ok (.getfield 24, 3) := by decide +kernel
theorem dX3_keep_8 : decode cX3_keep 8 = .ok (.iload_n 1, 1) := by decide +kernel
theorem dX3_keep_9 : decode cX3_keep 9 = .ok (.iastore, 1) := by decide +kernel
theorem dX3_keep_10 : decode cX3_keep 10 = .ok (.aload_n 0, 1) := by decide +kernel
theorem dX3_keep_11 : decode cX3_keep 11 = .ok (.getfield 15, 3) := by decide +kernel
theorem dX3_keep_14 : decode cX3_keep 14 = .ok (.aload_n 0, 1) := by decide +kernel
theorem dX3_keep_15 : decode cX3_keep 15 = .ok (.getfield 24, 3) := by decide +kernel
theorem dX3_keep_18 : decode cX3_keep 18 = .ok (.iload_n 2, 1) := by decide +kernel
theorem dX3_keep_19 : decode cX3_keep 19 = .ok (.iastore, 1) := by decide +kernel
theorem dX3_keep_20 : decode cX3_keep 20 = .ok (.aload_n 0, 1) := by decide +kernel
theorem dX3_keep_21 : decode cX3_keep 21 = .ok (.getfield 18, 3) := by decide +kernel
theorem dX3_keep_24 : decode cX3_keep 24 = .ok (.aload_n 0, 1) := by decide +kernel
theorem dX3_keep_25 : decode cX3_keep 25 = .ok (.getfield 24, 3) := by decide +kernel
theorem dX3_keep_28 : decode cX3_keep 28 = .ok (.iload_n 3, 1) := by decide +kernel
theorem dX3_keep_29 : decode cX3_keep 29 = .ok (.iastore, 1) := by decide +kernel
theorem dX3_keep_30 : decode cX3_keep 30 = .ok (.aload_n 0, 1) := by decide +kernel
theorem dX3_keep_31 : decode cX3_keep 31 = .ok (.getfield 21, 3) := by decide +kernel
theorem dX3_keep_34 : decode cX3_keep 34 = .ok (.aload_n 0, 1) := by decide +kernel
theorem dX3_keep_35 : decode cX3_keep 35 = .ok (.getfield 24, 3) := by decide +kernel
theorem dX3_keep_38 : decode cX3_keep 38 = .ok (.iload 4, 2) := by decide +kernel
theorem dX3_keep_40 : decode cX3_keep 40 = .ok (.iastore, 1) := by decide +kernel
theorem dX3_keep_41 : decode cX3_keep 41 = .ok (.aload_n 0, 1) := by decide +kernel
theorem dX3_keep_42 : decode cX3_keep 42 = .ok (.aload_n 0, 1) := by decide +kernel
theorem dX3_keep_43 : decode cX3_keep 43 = .ok (.getfield 24, 3) := by decide +kernel
theorem dX3_keep_46 : decode cX3_keep 46 = .ok (.iconst 1, 1) := by decide +kernel
theorem dX3_keep_47 : decode cX3_keep 47 = .ok (.iadd, 1) := by decide +kernel
theorem dX3_keep_48 : decode cX3_keep 48 = .ok (.bipush 8, 2) := by decide +kernel
theorem dX3_keep_50 : decode cX3_keep 50 = .ok (.if_icmp .ge 12, 3) := by decide +kernel
theorem dX3_keep_53 : decode cX3_keep 53 = .ok (.aload_n 0, 1) := by decide +kernel
theorem dX3_keep_54 : decode cX3_keep 54 = .ok (.getfield 24, 3) := by decide +kernel
theorem dX3_keep_57 : decode cX3_keep 57 = .ok (.iconst 1, 1) := by decide +kernel
theorem dX3_keep_58 : decode cX3_keep 58 = .ok (.iadd, 1) := by decide +kernel
theorem dX3_keep_59 : decode cX3_keep 59 = .ok (.goto 4, 3) := by decide +kernel
theorem dX3_keep_62 : decode cX3_keep 62 = .ok (.iconst 0, 1) := by decide +kernel
theorem dX3_keep_63 : decode cX3_keep 63 = .ok (.putfield 24, 3) := by decide +kernel
theorem dX3_keep_66 : decode cX3_keep 66 = .ok (.aload_n 0, 1) := by decide +kernel
theorem dX3_keep_67 : decode cX3_keep 67 = .ok (.aload_n 0, 1) := by decide +kernel
theorem dX3_keep_68 : decode cX3_keep 68 = .ok (.getfield 28, 3) := by decide +kernel
theorem dX3_keep_71 : decode cX3_keep 71 = .ok (.iconst 1, 1) := by decide +kernel
theorem dX3_keep_72 : decode cX3_keep 72 = .ok (.iadd, 1) := by decide +kernel
theorem dX3_keep_73 : decode cX3_keep 73 = .ok (.bipush 8, 2) := by decide +kernel
theorem dX3_keep_75 : decode cX3_keep 75 = .ok (.invokestatic 53, 3) := by decide +kernel
theorem dX3_keep_78 : decode cX3_keep 78 = .ok (.putfield 28, 3) := by decide +kernel
theorem dX3_keep_81 : decode cX3_keep 81 = .ok (.return_, 1) := by decide +kernel
theorem dX3_takeBack_0 : decode cX3_takeBack 0 = .ok (.aload_n 0, 1) := by decide +kernel
theorem dX3_takeBack_1 : decode cX3_takeBack 1 = .ok (.aload_n 0, 1) := by decide +kernel
theorem dX3_takeBack_2 : decode cX3_takeBack 2 = .ok (.getfield 24, 3) := by decide +kernel
theorem dX3_takeBack_5 : decode cX3_takeBack 5 = .ok (.ifCond .le 12, 3) := by decide +kernel
theorem dX3_takeBack_8 : decode cX3_takeBack 8 = .ok (.aload_n 0, 1) := by decide +kernel
theorem dX3_takeBack_9 : decode cX3_takeBack 9 = .ok (.getfield 24, 3) := by decide +kernel
theorem dX3_takeBack_12 : decode cX3_takeBack 12 = .ok (.iconst 1, 1) := by decide +kernel
theorem dX3_takeBack_13 : decode cX3_takeBack 13 = .ok (.isub, 1) := by decide +kernel
theorem dX3_takeBack_14 : decode cX3_takeBack 14 = .ok (.goto 5, 3) := by decide +kernel
theorem dX3_takeBack_17 : decode cX3_takeBack 17 = .ok (.bipush 7, 2) := by decide +kernel
theorem dX3_takeBack_19 : decode cX3_takeBack 19 = .ok (.putfield 24, 3) := by decide +kernel
theorem dX3_takeBack_22 : decode cX3_takeBack 22 = .ok (.aload_n 0, 1) := by decide +kernel
theorem dX3_takeBack_23 : decode cX3_takeBack 23 = .ok (.dup, 1) := by decide +kernel
theorem dX3_takeBack_24 : decode cX3_takeBack 24 = .ok (.getfield 28, 3) := by decide +kernel
theorem dX3_takeBack_27 : decode cX3_takeBack 27 = .ok (.iconst 1, 1) := by decide +kernel
theorem dX3_takeBack_28 : decode cX3_takeBack 28 = .ok (.isub, 1) := by decide +kernel
theorem dX3_takeBack_29 : decode cX3_takeBack 29 = .ok (.putfield 28, 3) := by decide +kernel
theorem dX3_takeBack_32 : decode cX3_takeBack 32 = .ok (.aload_n 0, 1) := by decide +kernel
theorem dX3_takeBack_33 : decode cX3_takeBack 33 = .ok (.getfield 15, 3) := by decide +kernel
theorem dX3_takeBack_36 : decode cX3_takeBack 36 = .ok (.aload_n 0, 1) := by decide +kernel
theorem dX3_takeBack_37 : decode cX3_takeBack 37 = .ok (.getfield 24, 3) := by decide +kernel
theorem dX3_takeBack_40 : decode cX3_takeBack 40 = .ok (.iaload, 1) := by decide +kernel
theorem dX3_takeBack_41 : decode cX3_takeBack 41 = .ok (.istore_n 1, 1) := by decide +kernel
theorem dX3_takeBack_42 : decode cX3_takeBack 42 = .ok (.aload_n 0, 1) := by decide +kernel
theorem dX3_takeBack_43 : decode cX3_takeBack 43 = .ok (.getfield 9, 3) := by decide +kernel
theorem dX3_takeBack_46 : decode cX3_takeBack 46 = .ok (.aload_n 0, 1) := by decide +kernel
theorem dX3_takeBack_47 : decode cX3_takeBack 47 = .ok (.getfield 24, 3) := by decide +kernel
theorem dX3_takeBack_50 : decode cX3_takeBack 50 = .ok (.iaload, 1) := by decide +kernel
theorem dX3_takeBack_51 : decode cX3_takeBack 51 = .ok (.ifCond .ne 22, 3) := by decide +kernel
theorem dX3_takeBack_54 : decode cX3_takeBack 54 = .ok (.aload_n 0, 1) := by decide +kernel
theorem dX3_takeBack_55 : decode cX3_takeBack 55 = .ok (.getfield 31, 3) := by decide +kernel
theorem dX3_takeBack_58 : decode cX3_takeBack 58 = .ok (.aload_n 0, 1) := by decide +kernel
theorem dX3_takeBack_59 : decode cX3_takeBack 59 = .ok (.getfield 18, 3) := by decide +kernel
theorem dX3_takeBack_62 : decode cX3_takeBack 62 = .ok (.aload_n 0, 1) := by decide +kernel
theorem dX3_takeBack_63 : decode cX3_takeBack 63 = .ok (.getfield 24, 3) := by decide +kernel
theorem dX3_takeBack_66 : decode cX3_takeBack 66 = .ok (.iaload, 1) := by decide +kernel
theorem dX3_takeBack_67 : decode cX3_takeBack 67 = .ok (.putfield 35, 3) := by decide +kernel
theorem dX3_takeBack_70 : decode cX3_takeBack 70 = .ok (.goto 73, 3) := by decide +kernel
theorem dX3_takeBack_73 : decode cX3_takeBack 73 = .ok (.aload_n 0, 1) := by decide +kernel
theorem dX3_takeBack_74 : decode cX3_takeBack 74 = .ok (.getfield 9, 3) := by decide +kernel
theorem dX3_takeBack_77 : decode cX3_takeBack 77 = .ok (.aload_n 0, 1) := by decide +kernel
theorem dX3_takeBack_78 : decode cX3_takeBack 78 = .ok (.getfield 24, 3) := by decide +kernel
theorem dX3_takeBack_81 : decode cX3_takeBack 81 = .ok (.iaload, 1) := by decide +kernel
theorem dX3_takeBack_82 : decode cX3_takeBack 82 = .ok (.iconst 1, 1) := by decide +kernel
theorem dX3_takeBack_83 : decode cX3_takeBack 83 = .ok (.if_icmp .ne 42, 3) := by decide +kernel
theorem dX3_takeBack_86 : decode cX3_takeBack 86 = .ok (.aload_n 0, 1) := by decide +kernel
theorem dX3_takeBack_87 : decode cX3_takeBack 87 = .ok (.getfield 31, 3) := by decide +kernel
theorem dX3_takeBack_90 : decode cX3_takeBack 90 = .ok (.getfield 44, 3) := by decide +kernel
theorem dX3_takeBack_93 : decode cX3_takeBack 93 = .ok (.iload_n 1, 1) := by decide +kernel
theorem dX3_takeBack_94 : decode cX3_takeBack 94 = .ok (.aload_n 0, 1) := by decide +kernel
theorem dX3_takeBack_95 : decode cX3_takeBack 95 = .ok (.getfield 18, 3) := by decide +kernel
theorem dX3_takeBack_98 : decode cX3_takeBack 98 = .ok (.aload_n 0, 1) := by decide +kernel
theorem dX3_takeBack_99 : decode cX3_takeBack 99 = .ok (.getfield 24, 3) := by decide +kernel
theorem dX3_takeBack_102 : decode cX3_takeBack 102 = .ok (.iaload, 1) := by decide +kernel
theorem dX3_takeBack_103 : decode cX3_takeBack 103 = .ok (.iastore, 1) := by decide +kernel
theorem dX3_takeBack_104 : decode cX3_takeBack 104 = .ok (.aload_n 0, 1) := by decide +kernel
theorem dX3_takeBack_105 : decode cX3_takeBack 105 = .ok (.getfield 31, 3) := by decide +kernel
theorem dX3_takeBack_108 : decode cX3_takeBack 108 = .ok (.getfield 47, 3) := by decide +kernel
theorem dX3_takeBack_111 : decode cX3_takeBack 111 = .ok (.iload_n 1, 1) := by decide +kernel
theorem dX3_takeBack_112 : decode cX3_takeBack 112 = .ok (.aload_n 0, 1) := by decide +kernel
theorem dX3_takeBack_113 : decode cX3_takeBack 113 = .ok (.getfield 21, 3) := by decide +kernel
theorem dX3_takeBack_116 : decode cX3_takeBack 116 = .ok (.aload_n 0, 1) := by decide +kernel
theorem dX3_takeBack_117 : decode cX3_takeBack 117 = .ok (.getfield 24, 3) := by decide +kernel
theorem dX3_takeBack_120 : decode cX3_takeBack 120 = .ok (.iaload, 1) := by decide +kernel
theorem dX3_takeBack_121 : decode cX3_takeBack 121 = .ok (.iastore, 1) := by decide +kernel
theorem dX3_takeBack_122 : decode cX3_takeBack 122 = .ok (.goto 21, 3) := by decide +kernel
theorem dX3_takeBack_125 : decode cX3_takeBack 125 = .ok (.aload_n 0, 1) := by decide +kernel
theorem dX3_takeBack_126 : decode cX3_takeBack 126 = .ok (.getfield 31, 3) := by decide +kernel
theorem dX3_takeBack_129 : decode cX3_takeBack 129 = .ok (.getfield 50, 3) := by decide +kernel
theorem dX3_takeBack_132 : decode cX3_takeBack 132 = .ok (.iload_n 1, 1) := by decide +kernel
theorem dX3_takeBack_133 : decode cX3_takeBack 133 = .ok (.aload_n 0, 1) := by decide +kernel
theorem dX3_takeBack_134 : decode cX3_takeBack 134 = .ok (.getfield 18, 3) := by decide +kernel
theorem dX3_takeBack_137 : decode cX3_takeBack 137 = .ok (.aload_n 0, 1) := by decide +kernel
theorem dX3_takeBack_138 : decode cX3_takeBack 138 = .ok (.getfield 24, 3) := by decide +kernel
theorem dX3_takeBack_141 : decode cX3_takeBack 141 = .ok (.iaload, 1) := by decide +kernel
theorem dX3_takeBack_142 : decode cX3_takeBack 142 = .ok (.iastore, 1) := by decide +kernel
theorem dX3_takeBack_143 : decode cX3_takeBack 143 = .ok (.return_, 1) := by decide +kernel
theorem dX4_init_0 : decode cX4_init 0 = .ok (.aload_n 0, 1) := by decide +kernel
theorem dX4_init_1 : decode cX4_init 1 = .ok (.invokespecial 3, 3) := by decide +kernel
theorem dX4_init_4 : decode cX4_init 4 = .ok (.aload_n 0, 1) := by decide +kernel
theorem dX4_init_5 : decode cX4_init 5 = .ok (.bipush 64, 2) := by decide +kernel
theorem dX4_init_7 : decode cX4_init 7 = .ok (.newarray .int, 2) := by decide +kernel
theorem dX4_init_9 : decode cX4_init 9 = .ok (.putfield 9, 3) := by decide +kernel
theorem dX4_init_12 : decode cX4_init 12 = .ok (.aload_n 0, 1) := by decide +kernel
theorem dX4_init_13 : decode cX4_init 13 = .ok (.bipush 64, 2) := by decide +kernel
theorem dX4_init_15 : decode cX4_init 15 = .ok (.newarray .int, 2) := by decide +kernel
theorem dX4_init_17 : decode cX4_init 17 = .ok (.putfield 15, 3) := by decide +kernel
theorem dX4_init_20 : decode cX4_init 20 = .ok (.aload_n 0, 1) := by decide +kernel
theorem dX4_init_21 : decode cX4_init 21 = .ok (.sipush 256, 3) := by decide +kernel
theorem dX4_init_24 : decode cX4_init 24 = .ok (.newarray .boolean, 2) := by decide +kernel
theorem dX4_init_26 : decode cX4_init 26 = .ok (.putfield 18, 3) := by decide +kernel
theorem dX4_init_29 : decode cX4_init 29 = .ok (.aload_n 0, 1) := by decide +kernel
theorem dX4_init_30 : decode cX4_init 30 = .ok (.new 22, 3) := by decide +kernel
theorem dX4_init_33 : decode cX4_init 33 = .ok (.dup, 1) := by decide +kernel
theorem dX4_init_34 : decode cX4_init 34 = .ok (.bipush 8, 2) := by decide +kernel
theorem dX4_init_36 : decode cX4_init 36 = .ok (.invokespecial 24, 3) := by decide +kernel
theorem dX4_init_39 : decode cX4_init 39 = .ok (.putfield 27, 3) := by decide +kernel
theorem dX4_init_42 : decode cX4_init 42 = .ok (.aload_n 0, 1) := by decide +kernel
theorem dX4_init_43 : decode cX4_init 43 = .ok (.aload_n 1, 1) := by decide +kernel
theorem dX4_init_44 : decode cX4_init 44 = .ok (.putfield 31, 3) := by decide +kernel
theorem dX4_init_47 : decode cX4_init 47 = .ok (.aload_n 0, 1) := by decide +kernel
theorem dX4_init_48 : decode cX4_init 48 = .ok (.aload_n 2, 1) := by decide +kernel
theorem dX4_init_49 : decode cX4_init 49 = .ok (.putfield 35, 3) := by decide +kernel
theorem dX4_init_52 : decode cX4_init 52 = .ok (.return_, 1) := by decide +kernel
theorem dX4_lookAround_0 : decode cX4_lookAround 0 = .ok (.iconst 0, 1) := by decide +kernel
theorem dX4_lookAround_1 : decode cX4_lookAround 1 = .ok (.istore_n 1, 1) := by decide +kernel
theorem dX4_lookAround_2 : decode cX4_lookAround 2 = .ok (.iload_n 1, 1) := by decide +kernel
theorem dX4_lookAround_3 : decode cX4_lookAround 3 = .ok (.aload_n 0, 1) := by decide +kernel
theorem dX4_lookAround_4 : decode cX4_lookAround 4 = .ok (.getfield 31, 3) := by decide +kernel
theorem dX4_lookAround_7 : decode cX4_lookAround 7 = .ok (.getfield 39, 3) := by decide +kernel
theorem dX4_lookAround_10 : decode cX4_lookAround 10 = .ok (.if_icmp .ge 14, 3) := by decide +kernel
theorem dX4_lookAround_13 : decode cX4_lookAround 13 = .ok (.aload_n 0, 1) := by decide +kernel
theorem dX4_lookAround_14 : decode cX4_lookAround 14 = .ok (.iload_n 1, 1) := by decide +kernel
theorem dX4_lookAround_15 : decode cX4_lookAround 15 = .ok (.invokevirtual 45, 3) := by decide +kernel
theorem dX4_lookAround_18 : decode cX4_lookAround 18 = .ok (.iinc 1 1, 3) := by decide +kernel
theorem dX4_lookAround_21 : decode cX4_lookAround 21 = .ok (.goto (-19), 3) := by decide +kernel
theorem dX4_lookAround_24 : decode cX4_lookAround 24 = .ok (.return_, 1) := by decide +kernel
theorem dX4_lookTowards_0 : decode cX4_lookTowards 0 = .ok (.iload_n 1, 1) := by decide +kernel
theorem dX4_lookTowards_1 : decode cX4_lookTowards 1 = .ok (.bipush 8, 2) := by decide +kernel
theorem dX4_lookTowards_3 : decode cX4_lookTowards 3 = .ok (.imul, 1) := by decide +kernel
theorem dX4_lookTowards_4 : decode cX4_lookTowards 4 = .ok (.istore_n 2, 1) := by decide +kernel
theorem dX4_lookTowards_5 : decode cX4_lookTowards 5 = .ok (.aload_n 0, 1) := by decide +kernel
theorem dX4_lookTowards_6 : decode cX4_lookTowards 6 = .ok (.getfield 35, 3) := by decide +kernel
theorem dX4_lookTowards_9 : decode cX4_lookTowards 9 = .ok (.iload_n 1, 1) := by decide +kernel
theorem dX4_lookTowards_10 : decode cX4_lookTowards 10 = .ok (.iconst 0, 1) := by decide +kernel
theorem dX4_lookTowards_11 : decode cX4_lookTowards 11 = .ok (.aload_n 0, 1) := by decide +kernel
theorem dX4_lookTowards_12 : decode cX4_lookTowards 12 = .ok (.getfield 31, 3) := by decide +kernel
theorem dX4_lookTowards_15 : decode cX4_lookTowards 15 = .ok (.getfield 48, 3) := by decide +kernel
theorem dX4_lookTowards_18 : decode cX4_lookTowards 18 = .ok (.invokevirtual 51, 3) := by decide +kernel
theorem dX4_lookTowards_21 : decode cX4_lookTowards 21 = .ok (.iconst 0, 1) := by decide +kernel
theorem dX4_lookTowards_22 : decode cX4_lookTowards 22 = .ok (.istore_n 3, 1) := by decide +kernel
theorem dX4_lookTowards_23 : decode cX4_lookTowards 23 = .ok (.iload_n 3, 1) := by decide +kernel
theorem dX4_lookTowards_24 : decode cX4_lookTowards 24 = .ok (.aload_n 0, 1) := by decide +kernel
theorem dX4_lookTowards_25 : decode cX4_lookTowards 25 = .ok (.getfield 31, 3) := by decide +kernel
theorem dX4_lookTowards_28 : decode cX4_lookTowards 28 = .ok (.getfield 39, 3) := by decide +kernel
theorem dX4_lookTowards_31 : decode cX4_lookTowards 31 = .ok (.if_icmp .ge 25, 3) := by decide +kernel
theorem dX4_lookTowards_34 : decode cX4_lookTowards 34 = .ok (.aload_n 0, 1) := by decide +kernel
theorem dX4_lookTowards_35 : decode cX4_lookTowards 35 = .ok (.getfield 15, 3) := by decide +kernel
theorem dX4_lookTowards_38 : decode cX4_lookTowards 38 = .ok (.iload_n 2, 1) := by decide +kernel
theorem dX4_lookTowards_39 : decode cX4_lookTowards 39 = .ok (.iload_n 3, 1) := by decide +kernel
theorem dX4_lookTowards_40 : decode cX4_lookTowards 40 = .ok (.iadd, 1) := by decide +kernel
theorem dX4_lookTowards_41 : decode cX4_lookTowards 41 = .ok (.aload_n 0, 1) := by decide +kernel
theorem dX4_lookTowards_42 : decode cX4_lookTowards 42 = .ok (.getfield 35, 3) := by decide +kernel
theorem dX4_lookTowards_45 : decode cX4_lookTowards 45 = .ok (.iload_n 3, 1) := by decide +kernel
theorem dX4_lookTowards_46 : decode cX4_lookTowards 46 = .ok (.invokevirtual 57, 3) := by decide +kernel
theorem dX4_lookTowards_49 : decode cX4_lookTowards 49 = .ok (.iastore, 1) := by decide +kernel
theorem dX4_lookTowards_50 : decode cX4_lookTowards 50 = .ok (.iinc 3 1, 3) := by decide +kernel
theorem dX4_lookTowards_53 : decode cX4_lookTowards 53 = .ok (.goto (-30), 3) := by decide +kernel
theorem dX4_lookTowards_56 : decode cX4_lookTowards 56 = .ok (.iconst 0, 1) := by decide +kernel
theorem dX4_lookTowards_57 : decode cX4_lookTowards 57 = .ok (.istore_n 3, 1) := by decide +kernel
theorem dX4_lookTowards_58 : decode cX4_lookTowards 58 = .ok (.iload_n 3, 1) := by decide +kernel
theorem dX4_lookTowards_59 : decode cX4_lookTowards 59 = .ok (.aload_n 0, 1) := by decide +kernel
theorem dX4_lookTowards_60 : decode cX4_lookTowards 60 = .ok (.getfield 31, 3) := by decide +kernel
theorem dX4_lookTowards_63 : decode cX4_lookTowards 63 = .ok (.getfield 39, 3) := by decide +kernel
theorem dX4_lookTowards_66 : decode cX4_lookTowards 66 = .ok (.if_icmp .ge 78, 3) := by decide +kernel
theorem dX4_lookTowards_69 : decode cX4_lookTowards 69 = .ok (.aload_n 0, 1) := by decide +kernel
theorem dX4_lookTowards_70 : decode cX4_lookTowards 70 = .ok (.getfield 9, 3) := by decide +kernel
theorem dX4_lookTowards_73 : decode cX4_lookTowards 73 = .ok (.iload_n 2, 1) := by decide +kernel
theorem dX4_lookTowards_74 : decode cX4_lookTowards 74 = .ok (.iload_n 3, 1) := by decide +kernel
theorem dX4_lookTowards_75 : decode cX4_lookTowards 75 = .ok (.iadd, 1) := by decide +kernel
theorem dX4_lookTowards_76 : decode cX4_lookTowards 76 = .ok (.aload_n 0, 1) := by decide +kernel
theorem dX4_lookTowards_77 : decode cX4_lookTowards 77 = .ok (.getfield 15, 3) := by decide +kernel
theorem dX4_lookTowards_80 : decode cX4_lookTowards 80 = .ok (.iload_n 2, 1) := by decide +kernel
theorem dX4_lookTowards_81 : decode cX4_lookTowards 81 = .ok (.iload_n 3, 1) := by decide +kernel
theorem dX4_lookTowards_82 : decode cX4_lookTowards 82 = .ok (.iadd, 1) := by decide +kernel
theorem dX4_lookTowards_83 : decode cX4_lookTowards 83 = .ok (.iaload, 1) := by decide +kernel
theorem dX4_lookTowards_84 : decode cX4_lookTowards 84 = .ok (.iastore, 1) := by decide +kernel
theorem dX4_lookTowards_85 : decode cX4_lookTowards 85 = .ok (.aload_n 0, 1) := by decide +kernel
theorem dX4_lookTowards_86 : decode cX4_lookTowards 86 = .ok (.getfield 31, 3) := by decide +kernel
theorem dX4_lookTowards_89 : decode cX4_lookTowards 89 = .ok (.getfield 61, 3) := by decide +kernel
theorem dX4_lookTowards_92 : decode cX4_lookTowards 92 = .ok (.iload_n 3, 1) := by decide +kernel
theorem dX4_lookTowards_93 : decode cX4_lookTowards 93 = .ok (.iaload, 1) := by decide +kernel
theorem dX4_lookTowards_94 : decode cX4_lookTowards 94 = .ok (.aload_n 0, 1) := by decide +kernel
theorem dX4_lookTowards_95 : decode cX4_lookTowards 95 = .ok (.getfield 31, 3) := by decide +kernel
theorem dX4_lookTowards_98 : decode cX4_lookTowards 98 = .ok (.getfield 48, 3) := by decide +kernel
theorem dX4_lookTowards_101 : decode cX4_lookTowards 101 = .ok (.if_icmp .eq 37, 3) := by decide +kernel
theorem dX4_lookTowards_104 : decode cX4_lookTowards 104 = .ok (.aload_n 0, 1) := by decide +kernel
theorem dX4_lookTowards_105 : decode cX4_lookTowards 105 = .ok (.getfield 35, 3) := by decide +kernel
theorem dX4_lookTowards_108 : decode cX4_lookTowards 108 = .ok (.iload_n 1, 1) := by decide +kernel
theorem dX4_lookTowards_109 : decode cX4_lookTowards 109 = .ok (.iconst 0, 1) := by decide +kernel
theorem dX4_lookTowards_110 : decode cX4_lookTowards 110 = .ok (.aload_n 0, 1) := by decide +kernel
theorem dX4_lookTowards_111 : decode cX4_lookTowards 111 = .ok (.getfield 31, 3) := by decide +kernel
theorem dX4_lookTowards_114 : decode cX4_lookTowards 114 = .ok (.getfield 61, 3) := by decide +kernel
theorem dX4_lookTowards_117 : decode cX4_lookTowards 117 = .ok (.iload_n 3, 1) := by decide +kernel
theorem dX4_lookTowards_118 : decode cX4_lookTowards 118 = .ok (.iaload, 1) := by decide +kernel
theorem dX4_lookTowards_119 : decode cX4_lookTowards 119 = .ok (.invokevirtual 51, 3) := by decide +kernel
theorem dX4_lookTowards_122 : decode cX4_lookTowards 122 = .ok (.aload_n 0, 1) := by decide +kernel
theorem dX4_lookTowards_123 : decode cX4_lookTowards 123 = .ok (.getfield 9, 3) := by decide +kernel
theorem dX4_lookTowards_126 : decode cX4_lookTowards 126 = .ok (.iload_n 2, 1) := by decide +kernel
theorem dX4_lookTowards_127 : decode cX4_lookTowards 127 = .ok (.iload_n 3, 1) := by decide +kernel
theorem dX4_lookTowards_128 : decode cX4_lookTowards 128 = .ok (.iadd, 1) := by decide +kernel
theorem dX4_lookTowards_129 : decode cX4_lookTowards 129 = .ok (.aload_n 0, 1) := by decide +kernel
theorem dX4_lookTowards_130 : decode cX4_lookTowards 130 = .ok (.getfield 35, 3) := by decide +kernel
theorem dX4_lookTowards_133 : decode cX4_lookTowards 133 = .ok (.iload_n 3, 1) := by decide +kernel
theorem dX4_lookTowards_134 : decode cX4_lookTowards 134 = .ok (.invokevirtual 57, 3) := by decide +kernel
theorem dX4_lookTowards_137 : decode cX4_lookTowards 137 = .ok (.iastore, 1) := by decide +kernel
theorem dX4_lookTowards_138 : decode cX4_lookTowards 138 = .ok (.iinc 3 1, 3) := by decide +kernel
theorem dX4_lookTowards_141 : decode cX4_lookTowards 141 = .ok (.goto (-83), 3) := by decide +kernel
theorem dX4_lookTowards_144 : decode cX4_lookTowards 144 = .ok (.return_, 1) := by decide +kernel
theorem dX4_hasRings_0 : decode cX4_hasRings 0 = .ok (.iconst 0, 1) := by decide +kernel
theorem dX4_hasRings_1 : decode cX4_hasRings 1 = .ok (.istore_n 2, 1) := by decide +kernel
theorem dX4_hasRings_2 : decode cX4_hasRings 2 = .ok (.iload_n 2, 1) := by decide +kernel
theorem dX4_hasRings_3 : decode cX4_hasRings 3 = .ok (.aload_n 0, 1) := by decide +kernel
theorem dX4_hasRings_4 : decode cX4_hasRings 4 = .ok (.getfield 31, 3) := by decide +kernel
theorem dX4_hasRings_7 : decode cX4_hasRings 7 = .ok (.getfield 39, 3) := by decide +kernel
theorem dX4_hasRings_10 : decode cX4_hasRings 10 = .ok (.if_icmp .ge 20, 3) := by decide +kernel
theorem dX4_hasRings_13 : decode cX4_hasRings 13 = .ok (.aload_n 0, 1) := by decide +kernel
theorem dX4_hasRings_14 : decode cX4_hasRings 14 = .ok (.iload_n 2, 1) := by decide +kernel
theorem dX4_hasRings_15 : decode cX4_hasRings 15 = .ok (.iload_n 1, 1) := by decide +kernel
theorem dX4_hasRings_16 : decode cX4_hasRings 16 = .ok (.invokevirtual 64, 3) := by decide +kernel
theorem dX4_hasRings_19 : decode cX4_hasRings 19 = .ok (.ifCond .eq 5, 3) := by decide +kernel
theorem dX4_hasRings_22 : decode cX4_hasRings 22 = .ok (.iconst 1, 1) := by decide +kernel
theorem dX4_hasRings_23 : decode cX4_hasRings 23 = .ok (.ireturn, 1) := by decide +kernel
theorem dX4_hasRings_24 : decode cX4_hasRings 24 = .ok (.iinc 2 1, 3) := by decide +kernel
theorem dX4_hasRings_27 : decode cX4_hasRings 27 = .ok (.goto (-25), 3) := by decide +kernel
theorem dX4_hasRings_30 : decode cX4_hasRings 30 = .ok (.iconst 0, 1) := by decide +kernel
theorem dX4_hasRings_31 : decode cX4_hasRings 31 = .ok (.ireturn, 1) := by decide +kernel
theorem dX4_ringsOf_0 : decode cX4_ringsOf 0 = .ok (.iconst 0, 1) := by decide +kernel
theorem dX4_ringsOf_1 : decode cX4_ringsOf 1 = .ok (.istore_n 3, 1) := by decide +kernel
theorem dX4_ringsOf_2 : decode cX4_ringsOf 2 = .ok (.iconst 0, 1) := by decide +kernel
theorem dX4_ringsOf_3 : decode cX4_ringsOf 3 = .ok (.istore 4, 2) := by decide +kernel
theorem dX4_ringsOf_5 : decode cX4_ringsOf 5 = .ok (.iload 4, 2) := by decide +kernel
theorem dX4_ringsOf_7 : decode cX4_ringsOf 7 = .ok (.aload_n 0, 1) := by decide +kernel
theorem dX4_ringsOf_8 : decode cX4_ringsOf 8 = .ok (.getfield 31, 3) := by decide +kernel
theorem dX4_ringsOf_11 : decode cX4_ringsOf 11 = .ok (.getfield 39, 3) := by decide +kernel
theorem dX4_ringsOf_14 : decode cX4_ringsOf 14 = .ok (.if_icmp .ge 27, 3) := by decide +kernel
theorem dX4_ringsOf_17 : decode cX4_ringsOf 17 = .ok (.aload_n 0, 1) := by decide +kernel
theorem dX4_ringsOf_18 : decode cX4_ringsOf 18 = .ok (.iload 4, 2) := by decide +kernel
theorem dX4_ringsOf_20 : decode cX4_ringsOf 20 = .ok (.iload_n 1, 1) := by decide +kernel
theorem dX4_ringsOf_21 : decode cX4_ringsOf 21 = .ok (.iload_n 2, 1) := by decide +kernel
theorem dX4_ringsOf_22 : decode cX4_ringsOf 22 = .ok (.invokevirtual 68, 3) := by decide +kernel
theorem dX4_ringsOf_25 : decode cX4_ringsOf 25 = .ok (.ifCond .eq 10, 3) := by decide +kernel
theorem dX4_ringsOf_28 : decode cX4_ringsOf 28 = .ok (.iload_n 3, 1) := by decide +kernel
theorem dX4_ringsOf_29 : decode cX4_ringsOf 29 = .ok (.iconst 1, 1) := by decide +kernel
theorem dX4_ringsOf_30 : decode cX4_ringsOf 30 = .ok (.iload 4, 2) := by decide +kernel
theorem dX4_ringsOf_32 : decode cX4_ringsOf 32 = .ok (.ishl, 1) := by decide +kernel
theorem dX4_ringsOf_33 : decode cX4_ringsOf 33 = .ok (.ior, 1) := by decide +kernel
theorem dX4_ringsOf_34 : decode cX4_ringsOf 34 = .ok (.istore_n 3, 1) := by decide +kernel
theorem dX4_ringsOf_35 : decode cX4_ringsOf 35 = .ok (.iinc 4 1, 3) := by decide +kernel
theorem dX4_ringsOf_38 : decode cX4_ringsOf 38 = .ok (.goto (-33), 3) := by decide +kernel
theorem dX4_ringsOf_41 : decode cX4_ringsOf 41 = .ok (.iload_n 3, 1) := by decide +kernel
theorem dX4_ringsOf_42 : decode cX4_ringsOf 42 = .ok (.ireturn, 1) := by decide +kernel
theorem dX4_goesRound_0 : decode cX4_goesRound 0 = .ok (.iload_n 1, 1) := by decide +kernel
theorem dX4_goesRound_1 : decode cX4_goesRound 1 = .ok (.istore 4, 2) := by decide +kernel
theorem dX4_goesRound_3 : decode cX4_goesRound 3 = .ok (.iconst 0, 1) := by decide +kernel
theorem dX4_goesRound_4 : decode cX4_goesRound 4 = .ok (.istore 5, 2) := by decide +kernel
theorem dX4_goesRound_6 : decode cX4_goesRound 6 = .ok (.iload 5, 2) := by decide +kernel
theorem dX4_goesRound_8 : decode cX4_goesRound 8 = .ok (.aload_n 0, 1) := by decide +kernel
theorem dX4_goesRound_9 : decode cX4_goesRound 9 = .ok (.getfield 31, 3) := by decide +kernel
theorem dX4_goesRound_12 : decode cX4_goesRound 12 = .ok (.getfield 39, 3) := by decide +kernel
theorem dX4_goesRound_15 : decode cX4_goesRound 15 = .ok (.if_icmp .ge 59, 3) := by decide +kernel
theorem dX4_goesRound_18 : decode cX4_goesRound 18 = .ok (.iload 4, 2) := by decide +kernel
theorem dX4_goesRound_20 : decode cX4_goesRound 20 = .ok (.iload_n 2, 1) := by decide +kernel
theorem dX4_goesRound_21 : decode cX4_goesRound 21 = .ok (.if_icmp .eq 53, 3) := by decide +kernel
theorem dX4_goesRound_24 : decode cX4_goesRound 24 = .ok (.iload 4, 2) := by decide +kernel
theorem dX4_goesRound_26 : decode cX4_goesRound 26 = .ok (.iconst (-1), 1) := by decide +kernel
theorem dX4_goesRound_27 : decode cX4_goesRound 27 = .ok (.if_icmp .eq 47, 3) := by decide +kernel
theorem dX4_goesRound_30 : decode cX4_goesRound 30 = .ok (.iload_n 2, 1) := by decide +kernel
theorem dX4_goesRound_31 : decode cX4_goesRound 31 = .ok (.bipush 8, 2) := by decide +kernel
theorem dX4_goesRound_33 : decode cX4_goesRound 33 = .ok (.imul, 1) := by decide +kernel
theorem dX4_goesRound_34 : decode cX4_goesRound 34 = .ok (.iload 4, 2) := by decide +kernel
theorem dX4_goesRound_36 : decode cX4_goesRound 36 = .ok (.iadd, 1) := by decide +kernel
theorem dX4_goesRound_37 : decode cX4_goesRound 37 = .ok (.istore 6, 2) := by decide +kernel
theorem dX4_goesRound_39 : decode cX4_goesRound 39 = .ok (.iload_n 3, 1) := by decide +kernel
theorem dX4_goesRound_40 : decode cX4_goesRound 40 = .ok (.iload 4, 2) := by decide +kernel
theorem dX4_goesRound_42 : decode cX4_goesRound 42 = .ok (.ishr, 1) := by decide +kernel
theorem dX4_goesRound_43 : decode cX4_goesRound 43 = .ok (.iconst 1, 1) := by decide +kernel
theorem dX4_goesRound_44 : decode cX4_goesRound 44 = .ok (.iand, 1) := by decide +kernel
theorem dX4_goesRound_45 : decode cX4_goesRound 45 = .ok (.iconst 1, 1) := by decide +kernel
theorem dX4_goesRound_46 : decode cX4_goesRound 46 = .ok (.if_icmp .ne 13, 3) := by decide +kernel
theorem dX4_goesRound_49 : decode cX4_goesRound 49 = .ok (.aload_n 0, 1) := by decide +kernel
theorem dX4_goesRound_50 : decode cX4_goesRound 50 = .ok (.getfield 15, 3) := by decide +kernel
theorem dX4_goesRound_53 : decode cX4_goesRound 53 = .ok (.iload 6, 2) := by decide +kernel
theorem dX4_goesRound_55 : decode cX4_goesRound 55 = .ok (.iaload, 1) := by decide +kernel
theorem dX4_goesRound_56 : decode cX4_goesRound 56 = .ok (.goto 10, 3) := by decide +kernel
theorem dX4_goesRound_59 : decode cX4_goesRound 59 = .ok (.aload_n 0, 1) := by decide +kernel
theorem dX4_goesRound_60 : decode cX4_goesRound 60 = .ok (.getfield 9, 3) := by decide +kernel
theorem dX4_goesRound_63 : decode cX4_goesRound 63 = .ok (.iload 6, 2) := by decide +kernel
theorem dX4_goesRound_65 : decode cX4_goesRound 65 = .ok (.iaload, 1) := by decide +kernel
theorem dX4_goesRound_66 : decode cX4_goesRound 66 = .ok (.istore 4, 2) := by decide +kernel
theorem dX4_goesRound_68 : decode cX4_goesRound 68 = .ok (.iinc 5 1, 3) := by decide +kernel
theorem dX4_goesRound_71 : decode cX4_goesRound 71 = .ok (.goto (-65), 3) := by decide +kernel
theorem dX4_goesRound_74 : decode cX4_goesRound 74 = .ok (.iload 4, 2) := by decide +kernel
theorem dX4_goesRound_76 : decode cX4_goesRound 76 = .ok (.iload_n 2, 1) := by decide +kernel
theorem dX4_goesRound_77 : decode cX4_goesRound 77 = .ok (.if_icmp .eq 13, 3) := by decide +kernel
theorem dX4_goesRound_80 : decode cX4_goesRound 80 = .ok (.iload 4, 2) := by decide +kernel
theorem dX4_goesRound_82 : decode cX4_goesRound 82 = .ok (.iconst (-1), 1) := by decide +kernel
theorem dX4_goesRound_83 : decode cX4_goesRound 83 = .ok (.if_icmp .eq 7, 3) := by decide +kernel
theorem dX4_goesRound_86 : decode cX4_goesRound 86 = .ok (.iconst 1, 1) := by decide +kernel
theorem dX4_goesRound_87 : decode cX4_goesRound 87 = .ok (.goto 4, 3) := by decide +kernel
theorem dX4_goesRound_90 : decode cX4_goesRound 90 = .ok (.iconst 0, 1) := by decide +kernel
theorem dX4_goesRound_91 : decode cX4_goesRound 91 = .ok (.ireturn, 1) := by decide +kernel
theorem dX4_findOrder_0 : decode cX4_findOrder 0 = .ok (.aload_n 0, 1) := by decide +kernel
theorem dX4_findOrder_1 : decode cX4_findOrder 1 = .ok (.getfield 31, 3) := by decide +kernel
theorem dX4_findOrder_4 : decode cX4_findOrder 4 = .ok (.invokevirtual 72, 3) := by decide +kernel
theorem dX4_findOrder_7 : decode cX4_findOrder 7 = .ok (.istore_n 1, 1) := by decide +kernel
theorem dX4_findOrder_8 : decode cX4_findOrder 8 = .ok (.iconst 0, 1) := by decide +kernel
theorem dX4_findOrder_9 : decode cX4_findOrder 9 = .ok (.istore_n 2, 1) := by decide +kernel
theorem dX4_findOrder_10 : decode cX4_findOrder 10 = .ok (.aload_n 0, 1) := by decide +kernel
theorem dX4_findOrder_11 : decode cX4_findOrder 11 = .ok (.invokevirtual 76, 3) := by decide +kernel
theorem dX4_findOrder_14 : decode cX4_findOrder 14 = .ok (.aload_n 0, 1) := by decide +kernel
theorem dX4_findOrder_15 : decode cX4_findOrder 15 = .ok (.getfield 27, 3) := by decide +kernel
theorem dX4_findOrder_18 : decode cX4_findOrder 18 = .ok (.iconst 0, 1) := by decide +kernel
theorem dX4_findOrder_19 : decode cX4_findOrder 19 = .ok (.putfield 79, 3) := by decide +kernel
theorem dX4_findOrder_22 : decode cX4_findOrder 22 = .ok (.iconst 0, 1) := by decide +kernel
theorem dX4_findOrder_23 : decode cX4_findOrder 23 = .ok (.istore_n 3, 1) := by decide +kernel
theorem dX4_findOrder_24 : decode cX4_findOrder 24 = .ok (.iload_n 3, 1) := by decide +kernel
theorem dX4_findOrder_25 : decode cX4_findOrder 25 = .ok (.aload_n 0, 1) := by decide +kernel
theorem dX4_findOrder_26 : decode cX4_findOrder 26 = .ok (.getfield 18, 3) := by decide +kernel
theorem dX4_findOrder_29 : decode cX4_findOrder 29 = .ok (.arraylength, 1) := by decide +kernel
theorem dX4_findOrder_30 : decode cX4_findOrder 30 = .ok (.if_icmp .ge 16, 3) := by decide +kernel
theorem dX4_findOrder_33 : decode cX4_findOrder 33 = .ok (.aload_n 0, 1) := by decide +kernel
theorem dX4_findOrder_34 : decode cX4_findOrder 34 = .ok (.getfield 18, 3) := by decide +kernel
theorem dX4_findOrder_37 : decode cX4_findOrder 37 = .ok (.iload_n 3, 1) := by decide +kernel
theorem dX4_findOrder_38 : decode cX4_findOrder 38 = .ok (.iconst 0, 1) := by decide +kernel
theorem dX4_findOrder_39 : decode cX4_findOrder 39 = .ok (.bastore, 1) := by decide +kernel
theorem dX4_findOrder_40 : decode cX4_findOrder 40 = .ok (.iinc 3 1, 3) := by decide +kernel
theorem dX4_findOrder_43 : decode cX4_findOrder 43 = .ok (.goto (-19), 3) := by decide +kernel
theorem dX4_findOrder_46 : decode cX4_findOrder 46 = .ok (.iconst 0, 1) := by decide +kernel
theorem dX4_findOrder_47 : decode cX4_findOrder 47 = .ok (.istore_n 3, 1) := by decide +kernel
theorem dX4_findOrder_48 : decode cX4_findOrder 48 = .ok (.iload_n 3, 1) := by decide +kernel
theorem dX4_findOrder_49 : decode cX4_findOrder 49 = .ok (.sipush 512, 3) := by decide +kernel
theorem dX4_findOrder_52 : decode cX4_findOrder 52 = .ok (.if_icmp .ge 96, 3) := by decide +kernel
theorem dX4_findOrder_55 : decode cX4_findOrder 55 = .ok (.iload_n 2, 1) := by decide +kernel
theorem dX4_findOrder_56 : decode cX4_findOrder 56 = .ok (.iload_n 1, 1) := by decide +kernel
theorem dX4_findOrder_57 : decode cX4_findOrder 57 = .ok (.if_icmp .eq 91, 3) := by decide +kernel
theorem dX4_findOrder_60 : decode cX4_findOrder 60 = .ok (.aload_n 0, 1) := by decide +kernel
theorem dX4_findOrder_61 : decode cX4_findOrder 61 = .ok (.iload_n 1, 1) := by decide +kernel
theorem dX4_findOrder_62 : decode cX4_findOrder 62 = .ok (.iload_n 2, 1) := by decide +kernel
theorem dX4_findOrder_63 : decode cX4_findOrder 63 = .ok (.invokevirtual 82, 3) := by decide +kernel
theorem dX4_findOrder_66 : decode cX4_findOrder 66 = .ok (.istore 4, 2) := by decide +kernel
theorem dX4_findOrder_68 : decode cX4_findOrder 68 = .ok (.iload 4, 2) := by decide +kernel
theorem dX4_findOrder_70 : decode cX4_findOrder 70 = .ok (.iconst (-1), 1) := by decide +kernel
theorem dX4_findOrder_71 : decode cX4_findOrder 71 = .ok (.if_icmp .eq 22, 3) := by decide +kernel
theorem dX4_findOrder_74 : decode cX4_findOrder 74 = .ok (.aload_n 0, 1) := by decide +kernel
theorem dX4_findOrder_75 : decode cX4_findOrder 75 = .ok (.getfield 27, 3) := by decide +kernel
theorem dX4_findOrder_78 : decode cX4_findOrder 78 = .ok (.iload 4, 2) := by decide +kernel
theorem dX4_findOrder_80 : decode cX4_findOrder 80 = .ok (.invokevirtual 85, 3) := by decide +kernel
theorem dX4_findOrder_83 : decode cX4_findOrder 83 = .ok (.iload_n 2, 1) := by decide +kernel
theorem dX4_findOrder_84 : decode cX4_findOrder 84 = .ok (.iconst 1, 1) := by decide +kernel
theorem dX4_findOrder_85 : decode cX4_findOrder 85 = .ok (.iload 4, 2) := by decide +kernel
theorem dX4_findOrder_87 : decode cX4_findOrder 87 = .ok (.ishl, 1) := by decide +kernel
theorem dX4_findOrder_88 : decode cX4_findOrder 88 = .ok (.ior, 1) := by decide +kernel
theorem dX4_findOrder_89 : decode cX4_findOrder 89 = .ok (.istore_n 2, 1) := by decide +kernel
theorem dX4_findOrder_90 : decode cX4_findOrder 90 = .ok (.goto 52, 3) := by decide +kernel
theorem dX4_findOrder_93 : decode cX4_findOrder 93 = .ok (.aload_n 0, 1) := by decide +kernel
theorem dX4_findOrder_94 : decode cX4_findOrder 94 = .ok (.getfield 27, 3) := by decide +kernel
theorem dX4_findOrder_97 : decode cX4_findOrder 97 = .ok (.getfield 79, 3) := by decide +kernel
theorem dX4_findOrder_100 : decode cX4_findOrder 100 = .ok (.ifCond .le 40, 3) := by decide +kernel
theorem dX4_findOrder_103 : decode cX4_findOrder 103 = .ok (.aload_n 0, 1) := by decide +kernel
theorem dX4_findOrder_104 : decode cX4_findOrder 104 = .ok (.getfield 18, 3) := by decide +kernel
theorem dX4_findOrder_107 : decode cX4_findOrder 107 = .ok (.iload_n 2, 1) := by decide +kernel
theorem dX4_findOrder_108 : decode cX4_findOrder 108 = .ok (.iconst 1, 1) := by decide +kernel
theorem dX4_findOrder_109 : decode cX4_findOrder 109 = .ok (.bastore, 1) := by decide +kernel
theorem dX4_findOrder_110 : decode cX4_findOrder 110 = .ok (.iload_n 2, 1) := by decide +kernel
theorem dX4_findOrder_111 : decode cX4_findOrder 111 = .ok (.iconst 1, 1) := by decide +kernel
theorem dX4_findOrder_112 : decode cX4_findOrder 112 = .ok (.aload_n 0, 1) := by decide +kernel
theorem dX4_findOrder_113 : decode cX4_findOrder 113 = .ok (.getfield 27, 3) := by decide +kernel
theorem dX4_findOrder_116 : decode cX4_findOrder 116 = .ok (.invokevirtual 88, 3) := by decide +kernel
theorem dX4_findOrder_119 : decode cX4_findOrder 119 = .ok (.ishl, 1) := by decide +kernel
theorem dX4_findOrder_120 : decode cX4_findOrder 120 = .ok (.iconst (-1), 1) := by decide +kernel
theorem dX4_findOrder_121 : decode cX4_findOrder 121 = .ok (.ixor, 1) := by decide +kernel
theorem dX4_findOrder_122 : decode cX4_findOrder 122 = .ok (.iand, 1) := by decide +kernel
theorem dX4_findOrder_123 : decode cX4_findOrder 123 = .ok (.istore_n 2, 1) := by decide +kernel
theorem dX4_findOrder_124 : decode cX4_findOrder 124 = .ok (.aload_n 0, 1) := by decide +kernel
theorem dX4_findOrder_125 : decode cX4_findOrder 125 = .ok (.getfield 27, 3) := by decide +kernel
theorem dX4_findOrder_128 : decode cX4_findOrder 128 = .ok (.dup, 1) := by decide +kernel
theorem dX4_findOrder_129 : decode cX4_findOrder 129 = .ok (.getfield 79, 3) := by decide +kernel
theorem dX4_findOrder_132 : decode cX4_findOrder 132 = .ok (.iconst 1, 1) := by decide +kernel
theorem dX4_findOrder_133 : decode cX4_findOrder 133 = .ok (.isub, 1) := by decide +kernel
theorem dX4_findOrder_134 : decode cX4_findOrder 134 = .ok (.putfield 79, 3) := by decide +kernel
theorem dX4_findOrder_137 : decode cX4_findOrder 137 = .ok (.goto 5, 3) := by decide +kernel
theorem dX4_findOrder_140 : decode cX4_findOrder 140 = .ok (.iconst 0, 1) := by decide +kernel
theorem dX4_findOrder_141 : decode cX4_findOrder 141 = .ok (.ireturn, 1) := by decide +kernel
theorem dX4_findOrder_142 : decode cX4_findOrder 142 = .ok (.iinc 3 1, 3) := by decide +kernel
theorem dX4_findOrder_145 : decode cX4_findOrder 145 = .ok (.goto (-97), 3) := by decide +kernel
theorem dX4_findOrder_148 : decode cX4_findOrder 148 = .ok (.iload_n 2, 1) := by decide +kernel
theorem dX4_findOrder_149 : decode cX4_findOrder 149 = .ok (.iload_n 1, 1) := by decide +kernel
theorem dX4_findOrder_150 : decode cX4_findOrder 150 = .ok (.if_icmp .ne 7, 3) := by decide +kernel
theorem dX4_findOrder_153 : decode cX4_findOrder 153 = .ok (.iconst 1, 1) := by decide +kernel
theorem dX4_findOrder_154 : decode cX4_findOrder 154 = .ok (.goto 4, 3) := by decide +kernel
theorem dX4_findOrder_157 : decode cX4_findOrder 157 = .ok (.iconst 0, 1) := by decide +kernel
theorem dX4_findOrder_158 : decode cX4_findOrder 158 = .ok (.ireturn, 1) := by decide +kernel
theorem dX4_firstToLearn_0 : decode cX4_firstToLearn 0 = .ok (.iconst 0, 1) := by decide +kernel
theorem dX4_firstToLearn_1 : decode cX4_firstToLearn 1 = .ok (.istore_n 3, 1) := by decide +kernel
theorem dX4_firstToLearn_2 : decode cX4_firstToLearn 2 = .ok (.iload_n 3, 1) := by decide +kernel
theorem dX4_firstToLearn_3 : decode cX4_firstToLearn 3 = .ok (.aload_n 0, 1) := by decide +kernel
theorem dX4_firstToLearn_4 : decode cX4_firstToLearn 4 = .ok (.getfield 31, 3) := by decide +kernel
theorem dX4_firstToLearn_7 : decode cX4_firstToLearn 7 = .ok (.getfield 39, 3) := by decide +kernel
theorem dX4_firstToLearn_10 : decode cX4_firstToLearn 10 = .ok (.if_icmp .ge 60, 3) := by decide +kernel
theorem dX4_firstToLearn_13 : decode cX4_firstToLearn 13 = .ok (.iload_n 2, 1) := by decide +kernel
theorem dX4_firstToLearn_14 : decode cX4_firstToLearn 14 = .ok (.iconst 1, 1) := by decide +kernel
theorem dX4_firstToLearn_15 : decode cX4_firstToLearn 15 = .ok (.iload_n 3, 1) := by decide +kernel
theorem dX4_firstToLearn_16 : decode cX4_firstToLearn 16 = .ok (.ishl, 1) := by decide +kernel
theorem dX4_firstToLearn_17 : decode cX4_firstToLearn 17 = .ok (.ior, 1) := by decide +kernel
theorem dX4_firstToLearn_18 : decode cX4_firstToLearn 18 = .ok (.istore 4, 2) := by decide +kernel
theorem dX4_firstToLearn_20 : decode cX4_firstToLearn 20 = .ok (.iload_n 1, 1) := by decide +kernel
theorem dX4_firstToLearn_21 : decode cX4_firstToLearn 21 = .ok (.iload_n 3, 1) := by decide +kernel
theorem dX4_firstToLearn_22 : decode cX4_firstToLearn 22 = .ok (.ishr, 1) := by decide +kernel
theorem dX4_firstToLearn_23 : decode cX4_firstToLearn 23 = .ok (.iconst 1, 1) := by decide +kernel
theorem dX4_firstToLearn_24 : decode cX4_firstToLearn 24 = .ok (.iand, 1) := by decide +kernel
theorem dX4_firstToLearn_25 : decode cX4_firstToLearn 25 = .ok (.iconst 1, 1) := by decide +kernel
theorem dX4_firstToLearn_26 : decode cX4_firstToLearn 26 = .ok (.if_icmp .ne 38, 3) := by decide +kernel
theorem dX4_firstToLearn_29 : decode cX4_firstToLearn 29 = .ok (.iload 4, 2) := by decide +kernel
theorem dX4_firstToLearn_31 : decode cX4_firstToLearn 31 = .ok (.iload_n 2, 1) := by decide +kernel
theorem dX4_firstToLearn_32 : decode cX4_firstToLearn 32 = .ok (.if_icmp .eq 32, 3) := by decide +kernel
theorem dX4_firstToLearn_35 : decode cX4_firstToLearn 35 = .ok (.aload_n 0, 1) := by decide +kernel
theorem dX4_firstToLearn_36 : decode cX4_firstToLearn 36 = .ok (.getfield 18, 3) := by decide +kernel
theorem dX4_firstToLearn_39 : decode cX4_firstToLearn 39 = .ok (.iload 4, 2) := by decide +kernel
theorem dX4_firstToLearn_41 : decode cX4_firstToLearn 41 = .ok (.baload, 1) := by decide +kernel
theorem dX4_firstToLearn_42 : decode cX4_firstToLearn 42 = .ok (.ifCond .ne 22, 3) := by decide +kernel
theorem dX4_firstToLearn_45 : decode cX4_firstToLearn 45 = .ok (.aload_n 0, 1) := by decide +kernel
theorem dX4_firstToLearn_46 : decode cX4_firstToLearn 46 = .ok (.iload 4, 2) := by decide +kernel
theorem dX4_firstToLearn_48 : decode cX4_firstToLearn 48 = .ok (.invokevirtual 91, 3) := by decide +kernel
theorem dX4_firstToLearn_51 : decode cX4_firstToLearn 51 = .ok (.ifCond .ne 5, 3) := by decide +kernel
theorem dX4_firstToLearn_54 : decode cX4_firstToLearn 54 = .ok (.iload_n 3, 1) := by decide +kernel
theorem dX4_firstToLearn_55 : decode cX4_firstToLearn 55 = .ok (.ireturn, 1) := by decide +kernel
theorem dX4_firstToLearn_56 : decode cX4_firstToLearn 56 = .ok (.aload_n 0, 1) := by decide +kernel
theorem dX4_firstToLearn_57 : decode cX4_firstToLearn 57 = .ok (.getfield 18, 3) := by decide +kernel
theorem dX4_firstToLearn_60 : decode cX4_firstToLearn 60 = .ok (.iload 4, 2) := by decide +kernel
theorem dX4_firstToLearn_62 : decode cX4_firstToLearn 62 = .ok (.iconst 1, 1) := by decide +kernel
theorem dX4_firstToLearn_63 : decode cX4_firstToLearn 63 = .ok (.bastore, 1) := by decide +kernel
theorem dX4_firstToLearn_64 : decode cX4_firstToLearn 64 = .ok (.iinc 3 1, 3) := by decide +kernel
theorem dX4_firstToLearn_67 : decode cX4_firstToLearn 67 = .ok (.goto (-65), 3) := by decide +kernel
theorem dX4_firstToLearn_70 : decode cX4_firstToLearn 70 = .ok (.iconst (-1), 1) := by decide +kernel
theorem dX4_firstToLearn_71 : decode cX4_firstToLearn 71 = .ok (.ireturn, 1) := by decide +kernel
theorem dX5_init_0 : decode cX5_init 0 = .ok (.aload_n 0, 1) := by decide +kernel
theorem dX5_init_1 : decode cX5_init 1 = .ok (.invokespecial 3, 3) := by decide +kernel
theorem dX5_init_4 : decode cX5_init 4 = .ok (.aload_n 0, 1) := by decide +kernel
theorem dX5_init_5 : decode cX5_init 5 = .ok (.bipush 8, 2) := by decide +kernel
theorem dX5_init_7 : decode cX5_init 7 = .ok (.newarray .int, 2) := by decide +kernel
theorem dX5_init_9 : decode cX5_init 9 = .ok (.putfield 9, 3) := by decide +kernel
theorem dX5_init_12 : decode cX5_init 12 = .ok (.aload_n 0, 1) := by decide +kernel
theorem dX5_init_13 : decode cX5_init 13 = .ok (.bipush 8, 2) := by decide +kernel
theorem dX5_init_15 : decode cX5_init 15 = .ok (.newarray .int, 2) := by decide +kernel
theorem dX5_init_17 : decode cX5_init 17 = .ok (.putfield 15, 3) := by decide +kernel
theorem dX5_init_20 : decode cX5_init 20 = .ok (.aload_n 0, 1) := by decide +kernel
theorem dX5_init_21 : decode cX5_init 21 = .ok (.bipush 8, 2) := by decide +kernel
theorem dX5_init_23 : decode cX5_init 23 = .ok (.newarray .int, 2) := by decide +kernel
theorem dX5_init_25 : decode cX5_init 25 = .ok (.putfield 18, 3) := by decide +kernel
theorem dX5_init_28 : decode cX5_init 28 = .ok (.aload_n 0, 1) := by decide +kernel
theorem dX5_init_29 : decode cX5_init 29 = .ok (.aload_n 1, 1) := by decide +kernel
theorem dX5_init_30 : decode cX5_init 30 = .ok (.putfield 21, 3) := by decide +kernel
theorem dX5_init_33 : decode cX5_init 33 = .ok (.return_, 1) := by decide +kernel
theorem dX5_measure_0 : decode cX5_measure 0 = .ok (.iload_n 2, 1) := by decide +kernel
theorem dX5_measure_1 : decode cX5_measure 1 = .ok (.ifCond .ne 13, 3) := by decide +kernel
theorem dX5_measure_4 : decode cX5_measure 4 = .ok (.aload_n 0, 1) := by decide +kernel
theorem dX5_measure_5 : decode cX5_measure 5 = .ok (.getfield 21, 3) := by decide +kernel
theorem dX5_measure_8 : decode cX5_measure 8 = .ok (.getfield 25, 3) := by decide +kernel
theorem dX5_measure_11 : decode cX5_measure 11 = .ok (.goto 10, 3) := by decide +kernel
theorem dX5_measure_14 : decode cX5_measure 14 = .ok (.aload_n 0, 1) := by decide +kernel
theorem dX5_measure_15 : decode cX5_measure 15 = .ok (.getfield 21, 3) := by decide +kernel
theorem dX5_measure_18 : decode cX5_measure 18 = .ok (.getfield 30, 3) := by decide +kernel
theorem dX5_measure_21 : decode cX5_measure 21 = .ok (.astore 4, 2) := by decide +kernel
theorem dX5_measure_23 : decode cX5_measure 23 = .ok (.aload_n 0, 1) := by decide +kernel
theorem dX5_measure_24 : decode cX5_measure 24 = .ok (.iload_n 1, 1) := by decide +kernel
theorem dX5_measure_25 : decode cX5_measure 25 = .ok (.invokevirtual 33, 3) := by decide +kernel
theorem dX5_measure_28 : decode cX5_measure 28 = .ok (.iconst 1, 1) := by decide +kernel
theorem dX5_measure_29 : decode cX5_measure 29 = .ok (.istore 5, 2) := by decide +kernel
theorem dX5_measure_31 : decode cX5_measure 31 = .ok (.iload 5, 2) := by decide +kernel
theorem dX5_measure_33 : decode cX5_measure 33 = .ok (.aload_n 0, 1) := by decide +kernel
theorem dX5_measure_34 : decode cX5_measure 34 = .ok (.getfield 21, 3) := by decide +kernel
theorem dX5_measure_37 : decode cX5_measure 37 = .ok (.getfield 37, 3) := by decide +kernel
theorem dX5_measure_40 : decode cX5_measure 40 = .ok (.if_icmp .ge 98, 3) := by decide +kernel
theorem dX5_measure_43 : decode cX5_measure 43 = .ok (.iconst 0, 1) := by decide +kernel
theorem dX5_measure_44 : decode cX5_measure 44 = .ok (.istore 6, 2) := by decide +kernel
theorem dX5_measure_46 : decode cX5_measure 46 = .ok (.iload 6, 2) := by decide +kernel
theorem dX5_measure_48 : decode cX5_measure 48 = .ok (.aload_n 0, 1) := by decide +kernel
theorem dX5_measure_49 : decode cX5_measure 49 = .ok (.getfield 21, 3) := by decide +kernel
theorem dX5_measure_52 : decode cX5_measure 52 = .ok (.getfield 41, 3) := by decide +kernel
theorem dX5_measure_55 : decode cX5_measure 55 = .ok (.if_icmp .ge 77, 3) := by decide +kernel
theorem dX5_measure_58 : decode cX5_measure 58 = .ok (.iload_n 3, 1) := by decide +kernel
theorem dX5_measure_59 : decode cX5_measure 59 = .ok (.iload 6, 2) := by decide +kernel
theorem dX5_measure_61 : decode cX5_measure 61 = .ok (.ishr, 1) := by decide +kernel
theorem dX5_measure_62 : decode cX5_measure 62 = .ok (.iconst 1, 1) := by decide +kernel
theorem dX5_measure_63 : decode cX5_measure 63 = .ok (.iand, 1) := by decide +kernel
theorem dX5_measure_64 : decode cX5_measure 64 = .ok (.iconst 1, 1) := by decide +kernel
theorem dX5_measure_65 : decode cX5_measure 65 = .ok (.if_icmp .ne 61, 3) := by decide +kernel
theorem dX5_measure_68 : decode cX5_measure 68 = .ok (.aload_n 0, 1) := by decide +kernel
theorem dX5_measure_69 : decode cX5_measure 69 = .ok (.aload_n 0, 1) := by decide +kernel
theorem dX5_measure_70 : decode cX5_measure 70 = .ok (.getfield 21, 3) := by decide +kernel
theorem dX5_measure_73 : decode cX5_measure 73 = .ok (.getfield 44, 3) := by decide +kernel
theorem dX5_measure_76 : decode cX5_measure 76 = .ok (.iload 6, 2) := by decide +kernel
theorem dX5_measure_78 : decode cX5_measure 78 = .ok (.iaload, 1) := by decide +kernel
theorem dX5_measure_79 : decode cX5_measure 79 = .ok (.aload_n 0, 1) := by decide +kernel
theorem dX5_measure_80 : decode cX5_measure 80 = .ok (.getfield 21, 3) := by decide +kernel
theorem dX5_measure_83 : decode cX5_measure 83 = .ok (.getfield 47, 3) := by decide +kernel
theorem dX5_measure_86 : decode cX5_measure 86 = .ok (.iload 6, 2) := by decide +kernel
theorem dX5_measure_88 : decode cX5_measure 88 = .ok (.iaload, 1) := by decide +kernel
theorem dX5_measure_89 : decode cX5_measure 89 = .ok (.aload 4, 2) := by decide +kernel
theorem dX5_measure_91 : decode cX5_measure 91 = .ok (.iload 6, 2) := by decide +kernel
theorem dX5_measure_93 : decode cX5_measure 93 = .ok (.iaload, 1) := by decide +kernel
theorem dX5_measure_94 : decode cX5_measure 94 = .ok (.invokevirtual 50, 3) := by decide +kernel
theorem dX5_measure_97 : decode cX5_measure 97 = .ok (.aload_n 0, 1) := by decide +kernel
theorem dX5_measure_98 : decode cX5_measure 98 = .ok (.aload_n 0, 1) := by decide +kernel
theorem dX5_measure_99 : decode cX5_measure 99 = .ok (.getfield 21, 3) := by decide +kernel
theorem dX5_measure_102 : decode cX5_measure 102 = .ok (.getfield 47, 3) := by decide +kernel
theorem dX5_measure_105 : decode cX5_measure 105 = .ok (.iload 6, 2) := by decide +kernel
theorem dX5_measure_107 : decode cX5_measure 107 = .ok (.iaload, 1) := by decide +kernel
theorem dX5_measure_108 : decode cX5_measure 108 = .ok (.aload_n 0, 1) := by decide +kernel
theorem dX5_measure_109 : decode cX5_measure 109 = .ok (.getfield 21, 3) := by decide +kernel
theorem dX5_measure_112 : decode cX5_measure 112 = .ok (.getfield 44, 3) := by decide +kernel
theorem dX5_measure_115 : decode cX5_measure 115 = .ok (.iload 6, 2) := by decide +kernel
theorem dX5_measure_117 : decode cX5_measure 117 = .ok (.iaload, 1) := by decide +kernel
theorem dX5_measure_118 : decode cX5_measure 118 = .ok (.aload 4, 2) := by decide +kernel
theorem dX5_measure_120 : decode cX5_measure 120 = .ok (.iload 6, 2) := by decide +kernel
theorem dX5_measure_122 : decode cX5_measure 122 = .ok (.iaload, 1) := by decide +kernel
theorem dX5_measure_123 : decode cX5_measure 123 = .ok (.invokevirtual 50, 3) := by decide +kernel
theorem dX5_measure_126 : decode cX5_measure 126 = .ok (.iinc 6 1, 3) := by decide +kernel
theorem dX5_measure_129 : decode cX5_measure 129 = .ok (.goto (-83), 3) := by decide +kernel
theorem dX5_measure_132 : decode cX5_measure 132 = .ok (.iinc 5 1, 3) := by decide +kernel
theorem dX5_measure_135 : decode cX5_measure 135 = .ok (.goto (-104), 3) := by decide +kernel
theorem dX5_measure_138 : decode cX5_measure 138 = .ok (.iconst 0, 1) := by decide +kernel
theorem dX5_measure_139 : decode cX5_measure 139 = .ok (.istore 5, 2) := by decide +kernel
theorem dX5_measure_141 : decode cX5_measure 141 = .ok (.iload 5, 2) := by decide +kernel
theorem dX5_measure_143 : decode cX5_measure 143 = .ok (.aload_n 0, 1) := by decide +kernel
theorem dX5_measure_144 : decode cX5_measure 144 = .ok (.getfield 21, 3) := by decide +kernel
theorem dX5_measure_147 : decode cX5_measure 147 = .ok (.getfield 41, 3) := by decide +kernel
theorem dX5_measure_150 : decode cX5_measure 150 = .ok (.if_icmp .ge 81, 3) := by decide +kernel
theorem dX5_measure_153 : decode cX5_measure 153 = .ok (.iload_n 3, 1) := by decide +kernel
theorem dX5_measure_154 : decode cX5_measure 154 = .ok (.iload 5, 2) := by decide +kernel
theorem dX5_measure_156 : decode cX5_measure 156 = .ok (.ishr, 1) := by decide +kernel
theorem dX5_measure_157 : decode cX5_measure 157 = .ok (.iconst 1, 1) := by decide +kernel
theorem dX5_measure_158 : decode cX5_measure 158 = .ok (.iand, 1) := by decide +kernel
theorem dX5_measure_159 : decode cX5_measure 159 = .ok (.iconst 1, 1) := by decide +kernel
theorem dX5_measure_160 : decode cX5_measure 160 = .ok (.if_icmp .ne 65, 3) := by decide +kernel
theorem dX5_measure_163 : decode cX5_measure 163 = .ok (.aload_n 0, 1) := by decide +kernel
theorem dX5_measure_164 : decode cX5_measure 164 = .ok (.aload_n 0, 1) := by decide +kernel
theorem dX5_measure_165 : decode cX5_measure 165 = .ok (.getfield 21, 3) := by decide +kernel
theorem dX5_measure_168 : decode cX5_measure 168 = .ok (.getfield 44, 3) := by decide +kernel
theorem dX5_measure_171 : decode cX5_measure 171 = .ok (.iload 5, 2) := by decide +kernel
theorem dX5_measure_173 : decode cX5_measure 173 = .ok (.iaload, 1) := by decide +kernel
theorem dX5_measure_174 : decode cX5_measure 174 = .ok (.aload_n 0, 1) := by decide +kernel
theorem dX5_measure_175 : decode cX5_measure 175 = .ok (.getfield 21, 3) := by decide +kernel
theorem dX5_measure_178 : decode cX5_measure 178 = .ok (.getfield 47, 3) := by decide +kernel
theorem dX5_measure_181 : decode cX5_measure 181 = .ok (.iload 5, 2) := by decide +kernel
theorem dX5_measure_183 : decode cX5_measure 183 = .ok (.iaload, 1) := by decide +kernel
theorem dX5_measure_184 : decode cX5_measure 184 = .ok (.iload 5, 2) := by decide +kernel
theorem dX5_measure_186 : decode cX5_measure 186 = .ok (.aload 4, 2) := by decide +kernel
theorem dX5_measure_188 : decode cX5_measure 188 = .ok (.iload 5, 2) := by decide +kernel
theorem dX5_measure_190 : decode cX5_measure 190 = .ok (.iaload, 1) := by decide +kernel
theorem dX5_measure_191 : decode cX5_measure 191 = .ok (.invokevirtual 54, 3) := by decide +kernel
theorem dX5_measure_194 : decode cX5_measure 194 = .ok (.aload_n 0, 1) := by decide +kernel
theorem dX5_measure_195 : decode cX5_measure 195 = .ok (.aload_n 0, 1) := by decide +kernel
theorem dX5_measure_196 : decode cX5_measure 196 = .ok (.getfield 21, 3) := by decide +kernel
theorem dX5_measure_199 : decode cX5_measure 199 = .ok (.getfield 47, 3) := by decide +kernel
theorem dX5_measure_202 : decode cX5_measure 202 = .ok (.iload 5, 2) := by decide +kernel
theorem dX5_measure_204 : decode cX5_measure 204 = .ok (.iaload, 1) := by decide +kernel
theorem dX5_measure_205 : decode cX5_measure 205 = .ok (.aload_n 0, 1) := by decide +kernel
theorem dX5_measure_206 : decode cX5_measure 206 = .ok (.getfield 21, 3) := by decide +kernel
theorem dX5_measure_209 : decode cX5_measure 209 = .ok (.getfield 44, 3) := by decide +kernel
theorem dX5_measure_212 : decode cX5_measure 212 = .ok (.iload 5, 2) := by decide +kernel
theorem dX5_measure_214 : decode cX5_measure 214 = .ok (.iaload, 1) := by decide +kernel
theorem dX5_measure_215 : decode cX5_measure 215 = .ok (.iload 5, 2) := by decide +kernel
theorem dX5_measure_217 : decode cX5_measure 217 = .ok (.aload 4, 2) := by decide +kernel
theorem dX5_measure_219 : decode cX5_measure 219 = .ok (.iload 5, 2) := by decide +kernel
theorem dX5_measure_221 : decode cX5_measure 221 = .ok (.iaload, 1) := by decide +kernel
theorem dX5_measure_222 : decode cX5_measure 222 = .ok (.invokevirtual 54, 3) := by decide +kernel
theorem dX5_measure_225 : decode cX5_measure 225 = .ok (.iinc 5 1, 3) := by decide +kernel
theorem dX5_measure_228 : decode cX5_measure 228 = .ok (.goto (-87), 3) := by decide +kernel
theorem dX5_measure_231 : decode cX5_measure 231 = .ok (.return_, 1) := by decide +kernel
theorem dX5_startFrom_0 : decode cX5_startFrom 0 = .ok (.iconst 0, 1) := by decide +kernel
theorem dX5_startFrom_1 : decode cX5_startFrom 1 = .ok (.istore_n 2, 1) := by decide +kernel
theorem dX5_startFrom_2 : decode cX5_startFrom 2 = .ok (.iload_n 2, 1) := by decide +kernel
theorem dX5_startFrom_3 : decode cX5_startFrom 3 = .ok (.bipush 8, 2) := by decide +kernel
theorem dX5_startFrom_5 : decode cX5_startFrom 5 = .ok (.if_icmp .ge 41, 3) := by decide +kernel
theorem dX5_startFrom_8 : decode cX5_startFrom 8 = .ok (.aload_n 0, 1) := by decide +kernel
theorem dX5_startFrom_9 : decode cX5_startFrom 9 = .ok (.getfield 9, 3) := by decide +kernel
theorem dX5_startFrom_12 : decode cX5_startFrom 12 = .ok (.iload_n 2, 1) := by decide +kernel
theorem dX5_startFrom_13 : decode cX5_startFrom 13 = .ok (.iload_n 2, 1) := by decide +kernel
theorem dX5_startFrom_14 : decode cX5_startFrom 14 = .ok (.iload_n 1, 1) := by decide +kernel
theorem dX5_startFrom_15 : decode cX5_startFrom 15 = .ok (.if_icmp .ne 7, 3) := by decide +kernel
theorem dX5_startFrom_18 : decode cX5_startFrom 18 = .ok (.iconst 0, 1) := by decide +kernel
theorem dX5_startFrom_19 : decode cX5_startFrom 19 = .ok (.goto 6, 3) := by decide +kernel
theorem dX5_startFrom_22 : decode cX5_startFrom 22 = .ok (.sipush 1000, 3) := by decide +kernel
theorem dX5_startFrom_25 : decode cX5_startFrom 25 = .ok (.iastore, 1) := by decide +kernel
theorem dX5_startFrom_26 : decode cX5_startFrom 26 = .ok (.aload_n 0, 1) := by decide +kernel
theorem dX5_startFrom_27 : decode cX5_startFrom 27 = .ok (.getfield 15, 3) := by decide +kernel
theorem dX5_startFrom_30 : decode cX5_startFrom 30 = .ok (.iload_n 2, 1) := by decide +kernel
theorem dX5_startFrom_31 : decode cX5_startFrom 31 = .ok (.iconst (-1), 1) := by decide +kernel
theorem dX5_startFrom_32 : decode cX5_startFrom 32 = .ok (.iastore, 1) := by decide +kernel
theorem dX5_startFrom_33 : decode cX5_startFrom 33 = .ok (.aload_n 0, 1) := by decide +kernel
theorem dX5_startFrom_34 : decode cX5_startFrom 34 = .ok (.getfield 18, 3) := by decide +kernel
theorem dX5_startFrom_37 : decode cX5_startFrom 37 = .ok (.iload_n 2, 1) := by decide +kernel
theorem dX5_startFrom_38 : decode cX5_startFrom 38 = .ok (.iconst (-1), 1) := by decide +kernel
theorem dX5_startFrom_39 : decode cX5_startFrom 39 = .ok (.iastore, 1) := by decide +kernel
theorem dX5_startFrom_40 : decode cX5_startFrom 40 = .ok (.iinc 2 1, 3) := by decide +kernel
theorem dX5_startFrom_43 : decode cX5_startFrom 43 = .ok (.goto (-41), 3) := by decide +kernel
theorem dX5_startFrom_46 : decode cX5_startFrom 46 = .ok (.return_, 1) := by decide +kernel
theorem dX5_shorten_0 : decode cX5_shorten 0 = .ok (.aload_n 0, 1) := by decide +kernel
theorem dX5_shorten_1 : decode cX5_shorten 1 = .ok (.getfield 9, 3) := by decide +kernel
theorem dX5_shorten_4 : decode cX5_shorten 4 = .ok (.iload_n 2, 1) := by decide +kernel
theorem dX5_shorten_5 : decode cX5_shorten 5 = .ok (.iaload, 1) := by decide +kernel
theorem dX5_shorten_6 : decode cX5_shorten 6 = .ok (.iload_n 3, 1) := by decide +kernel
theorem dX5_shorten_7 : decode cX5_shorten 7 = .ok (.iadd, 1) := by decide +kernel
theorem dX5_shorten_8 : decode cX5_shorten 8 = .ok (.aload_n 0, 1) := by decide +kernel
theorem dX5_shorten_9 : decode cX5_shorten 9 = .ok (.getfield 9, 3) := by decide +kernel
theorem dX5_shorten_12 : decode cX5_shorten 12 = .ok (.iload_n 1, 1) := by decide +kernel
theorem dX5_shorten_13 : decode cX5_shorten 13 = .ok (.iaload, 1) := by decide +kernel
theorem dX5_shorten_14 : decode cX5_shorten 14 = .ok (.if_icmp .ge 17, 3) := by decide +kernel
theorem dX5_shorten_17 : decode cX5_shorten 17 = .ok (.aload_n 0, 1) := by decide +kernel
theorem dX5_shorten_18 : decode cX5_shorten 18 = .ok (.getfield 9, 3) := by decide +kernel
theorem dX5_shorten_21 : decode cX5_shorten 21 = .ok (.iload_n 1, 1) := by decide +kernel
theorem dX5_shorten_22 : decode cX5_shorten 22 = .ok (.aload_n 0, 1) := by decide +kernel
theorem dX5_shorten_23 : decode cX5_shorten 23 = .ok (.getfield 9, 3) := by decide +kernel
theorem dX5_shorten_26 : decode cX5_shorten 26 = .ok (.iload_n 2, 1) := by decide +kernel
theorem dX5_shorten_27 : decode cX5_shorten 27 = .ok (.iaload, 1) := by decide +kernel
theorem dX5_shorten_28 : decode cX5_shorten 28 = .ok (.iload_n 3, 1) := by decide +kernel
theorem dX5_shorten_29 : decode cX5_shorten 29 = .ok (.iadd, 1) := by decide +kernel
theorem dX5_shorten_30 : decode cX5_shorten 30 = .ok (.iastore, 1) := by decide +kernel
theorem dX5_shorten_31 : decode cX5_shorten 31 = .ok (.return_, 1) := by decide +kernel
theorem dX5_leadOn_0 : decode cX5_leadOn 0 = .ok (.aload_n 0, 1) := by decide +kernel
theorem dX5_leadOn_1 : decode cX5_leadOn 1 = .ok (.getfield 9, 3) := by decide +kernel
theorem dX5_leadOn_4 : decode cX5_leadOn 4 = .ok (.iload_n 2, 1) := by decide +kernel
theorem dX5_leadOn_5 : decode cX5_leadOn 5 = .ok (.iaload, 1) := by decide +kernel
theorem dX5_leadOn_6 : decode cX5_leadOn 6 = .ok (.iload 4, 2) := by decide +kernel
theorem dX5_leadOn_8 : decode cX5_leadOn 8 = .ok (.iadd, 1) := by decide +kernel
theorem dX5_leadOn_9 : decode cX5_leadOn 9 = .ok (.aload_n 0, 1) := by decide +kernel
theorem dX5_leadOn_10 : decode cX5_leadOn 10 = .ok (.getfield 9, 3) := by decide +kernel
theorem dX5_leadOn_13 : decode cX5_leadOn 13 = .ok (.iload_n 1, 1) := by decide +kernel
theorem dX5_leadOn_14 : decode cX5_leadOn 14 = .ok (.iaload, 1) := by decide +kernel
theorem dX5_leadOn_15 : decode cX5_leadOn 15 = .ok (.if_icmp .ne 7, 3) := by decide +kernel
theorem dX5_leadOn_18 : decode cX5_leadOn 18 = .ok (.iconst 1, 1) := by decide +kernel
theorem dX5_leadOn_19 : decode cX5_leadOn 19 = .ok (.goto 4, 3) := by decide +kernel
theorem dX5_leadOn_22 : decode cX5_leadOn 22 = .ok (.iconst 0, 1) := by decide +kernel
theorem dX5_leadOn_23 : decode cX5_leadOn 23 = .ok (.istore 5, 2) := by decide +kernel
theorem dX5_leadOn_25 : decode cX5_leadOn 25 = .ok (.iload 5, 2) := by decide +kernel
theorem dX5_leadOn_27 : decode cX5_leadOn 27 = .ok (.ifCond .eq 37, 3) := by decide +kernel
theorem dX5_leadOn_30 : decode cX5_leadOn 30 = .ok (.aload_n 0, 1) := by decide +kernel
theorem dX5_leadOn_31 : decode cX5_leadOn 31 = .ok (.getfield 15, 3) := by decide +kernel
theorem dX5_leadOn_34 : decode cX5_leadOn 34 = .ok (.iload_n 1, 1) := by decide +kernel
theorem dX5_leadOn_35 : decode cX5_leadOn 35 = .ok (.iaload, 1) := by decide +kernel
theorem dX5_leadOn_36 : decode cX5_leadOn 36 = .ok (.iconst (-1), 1) := by decide +kernel
theorem dX5_leadOn_37 : decode cX5_leadOn 37 = .ok (.if_icmp .eq 13, 3) := by decide +kernel
theorem dX5_leadOn_40 : decode cX5_leadOn 40 = .ok (.iload_n 2, 1) := by decide +kernel
theorem dX5_leadOn_41 : decode cX5_leadOn 41 = .ok (.aload_n 0, 1) := by decide +kernel
theorem dX5_leadOn_42 : decode cX5_leadOn 42 = .ok (.getfield 15, 3) := by decide +kernel
theorem dX5_leadOn_45 : decode cX5_leadOn 45 = .ok (.iload_n 1, 1) := by decide +kernel
theorem dX5_leadOn_46 : decode cX5_leadOn 46 = .ok (.iaload, 1) := by decide +kernel
theorem dX5_leadOn_47 : decode cX5_leadOn 47 = .ok (.if_icmp .ge 17, 3) := by decide +kernel
theorem dX5_leadOn_50 : decode cX5_leadOn 50 = .ok (.aload_n 0, 1) := by decide +kernel
theorem dX5_leadOn_51 : decode cX5_leadOn 51 = .ok (.getfield 15, 3) := by decide +kernel
theorem dX5_leadOn_54 : decode cX5_leadOn 54 = .ok (.iload_n 1, 1) := by decide +kernel
theorem dX5_leadOn_55 : decode cX5_leadOn 55 = .ok (.iload_n 2, 1) := by decide +kernel
theorem dX5_leadOn_56 : decode cX5_leadOn 56 = .ok (.iastore, 1) := by decide +kernel
theorem dX5_leadOn_57 : decode cX5_leadOn 57 = .ok (.aload_n 0, 1) := by decide +kernel
theorem dX5_leadOn_58 : decode cX5_leadOn 58 = .ok (.getfield 18, 3) := by decide +kernel
theorem dX5_leadOn_61 : decode cX5_leadOn 61 = .ok (.iload_n 1, 1) := by decide +kernel
theorem dX5_leadOn_62 : decode cX5_leadOn 62 = .ok (.iload_n 3, 1) := by decide +kernel
theorem dX5_leadOn_63 : decode cX5_leadOn 63 = .ok (.iastore, 1) := by decide +kernel
theorem dX5_leadOn_64 : decode cX5_leadOn 64 = .ok (.return_, 1) := by decide +kernel
theorem dX5_sumFrom_0 : decode cX5_sumFrom 0 = .ok (.iload_n 1, 1) := by decide +kernel
theorem dX5_sumFrom_1 : decode cX5_sumFrom 1 = .ok (.ifCond .lt 30, 3) := by decide +kernel
theorem dX5_sumFrom_4 : decode cX5_sumFrom 4 = .ok (.iload_n 1, 1) := by decide +kernel
theorem dX5_sumFrom_5 : decode cX5_sumFrom 5 = .ok (.bipush 8, 2) := by decide +kernel
theorem dX5_sumFrom_7 : decode cX5_sumFrom 7 = .ok (.if_icmp .ge 24, 3) := by decide +kernel
theorem dX5_sumFrom_10 : decode cX5_sumFrom 10 = .ok (.aload_n 0, 1) := by decide +kernel
theorem dX5_sumFrom_11 : decode cX5_sumFrom 11 = .ok (.getfield 9, 3) := by decide +kernel
theorem dX5_sumFrom_14 : decode cX5_sumFrom 14 = .ok (.iload_n 1, 1) := by decide +kernel
theorem dX5_sumFrom_15 : decode cX5_sumFrom 15 = .ok (.iaload, 1) := by decide +kernel
theorem dX5_sumFrom_16 : decode cX5_sumFrom 16 = .ok (.sipush 1000, 3) := by decide +kernel
theorem dX5_sumFrom_19 : decode cX5_sumFrom 19 = .ok (.if_icmp .ge 12, 3) := by decide +kernel
theorem dX5_sumFrom_22 : decode cX5_sumFrom 22 = .ok (.aload_n 0, 1) := by decide +kernel
theorem dX5_sumFrom_23 : decode cX5_sumFrom 23 = .ok (.getfield 9, 3) := by decide +kernel
theorem dX5_sumFrom_26 : decode cX5_sumFrom 26 = .ok (.iload_n 1, 1) := by decide +kernel
theorem dX5_sumFrom_27 : decode cX5_sumFrom 27 = .ok (.iaload, 1) := by decide +kernel
theorem dX5_sumFrom_28 : decode cX5_sumFrom 28 = .ok (.goto 4, 3) := by decide +kernel
theorem dX5_sumFrom_31 : decode cX5_sumFrom 31 = .ok (.iconst (-1), 1) := by decide +kernel
theorem dX5_sumFrom_32 : decode cX5_sumFrom 32 = .ok (.ireturn, 1) := by decide +kernel
theorem dX5_nodeAhead_0 : decode cX5_nodeAhead 0 = .ok (.iload_n 1, 1) := by decide +kernel
theorem dX5_nodeAhead_1 : decode cX5_nodeAhead 1 = .ok (.ifCond .lt 18, 3) := by decide +kernel
theorem dX5_nodeAhead_4 : decode cX5_nodeAhead 4 = .ok (.iload_n 1, 1) := by decide +kernel
theorem dX5_nodeAhead_5 : decode cX5_nodeAhead 5 = .ok (.bipush 8, 2) := by decide +kernel
theorem dX5_nodeAhead_7 : decode cX5_nodeAhead 7 = .ok (.if_icmp .ge 12, 3) := by decide +kernel
theorem dX5_nodeAhead_10 : decode cX5_nodeAhead 10 = .ok (.aload_n 0, 1) := by decide +kernel
theorem dX5_nodeAhead_11 : decode cX5_nodeAhead 11 = .ok (.getfield 15, 3) := by decide +kernel
theorem dX5_nodeAhead_14 : decode cX5_nodeAhead 14 = .ok (.iload_n 1, 1) := by decide +kernel
theorem dX5_nodeAhead_15 : decode cX5_nodeAhead 15 = .ok (.iaload, 1) := by decide +kernel
theorem dX5_nodeAhead_16 : decode cX5_nodeAhead 16 = .ok (.goto 4, 3) := by decide +kernel
theorem dX5_nodeAhead_19 : decode cX5_nodeAhead 19 = .ok (.iconst (-1), 1) := by decide +kernel
theorem dX5_nodeAhead_20 : decode cX5_nodeAhead 20 = .ok (.ireturn, 1) := by decide +kernel
theorem dX5_linkAhead_0 : decode cX5_linkAhead 0 = .ok (.iload_n 1, 1) := by decide +kernel
theorem dX5_linkAhead_1 : decode cX5_linkAhead 1 = .ok (.ifCond .lt 18, 3) := by decide +kernel
theorem dX5_linkAhead_4 : decode cX5_linkAhead 4 = .ok (.iload_n 1, 1) := by decide +kernel
theorem dX5_linkAhead_5 : decode cX5_linkAhead 5 = .ok (.bipush 8, 2) := by decide +kernel
theorem dX5_linkAhead_7 : decode cX5_linkAhead 7 = .ok (.if_icmp .ge 12, 3) := by decide +kernel
theorem dX5_linkAhead_10 : decode cX5_linkAhead 10 = .ok (.aload_n 0, 1) := by decide +kernel
theorem dX5_linkAhead_11 : decode cX5_linkAhead 11 = .ok (.getfield 18, 3) := by decide +kernel
theorem dX5_linkAhead_14 : decode cX5_linkAhead 14 = .ok (.iload_n 1, 1) := by decide +kernel
theorem dX5_linkAhead_15 : decode cX5_linkAhead 15 = .ok (.iaload, 1) := by decide +kernel
theorem dX5_linkAhead_16 : decode cX5_linkAhead 16 = .ok (.goto 4, 3) := by decide +kernel
theorem dX5_linkAhead_19 : decode cX5_linkAhead 19 = .ok (.iconst (-1), 1) := by decide +kernel
theorem dX5_linkAhead_20 : decode cX5_linkAhead 20 = .ok (.ireturn, 1) := by decide +kernel
theorem dX5_walkSpares_0 : decode cX5_walkSpares 0 = .ok (.aload_n 0, 1) := by decide +kernel
theorem dX5_walkSpares_1 : decode cX5_walkSpares 1 = .ok (.iload_n 2, 1) := by decide +kernel
theorem dX5_walkSpares_2 : decode cX5_walkSpares 2 = .ok (.iconst 0, 1) := by decide +kernel
theorem dX5_walkSpares_3 : decode cX5_walkSpares 3 = .ok (.iload_n 3, 1) := by decide +kernel
theorem dX5_walkSpares_4 : decode cX5_walkSpares 4 = .ok (.invokevirtual 58, 3) := by decide +kernel
theorem dX5_walkSpares_7 : decode cX5_walkSpares 7 = .ok (.iload_n 1, 1) := by decide +kernel
theorem dX5_walkSpares_8 : decode cX5_walkSpares 8 = .ok (.istore 5, 2) := by decide +kernel
theorem dX5_walkSpares_10 : decode cX5_walkSpares 10 = .ok (.iconst 0, 1) := by decide +kernel
theorem dX5_walkSpares_11 : decode cX5_walkSpares 11 = .ok (.istore 6, 2) := by decide +kernel
theorem dX5_walkSpares_13 : decode cX5_walkSpares 13 = .ok (.iload 6, 2) := by decide +kernel
theorem dX5_walkSpares_15 : decode cX5_walkSpares 15 = .ok (.bipush 8, 2) := by decide +kernel
theorem dX5_walkSpares_17 : decode cX5_walkSpares 17 = .ok (.if_icmp .ge 49, 3) := by decide +kernel
theorem dX5_walkSpares_20 : decode cX5_walkSpares 20 = .ok (.iload 5, 2) := by decide +kernel
theorem dX5_walkSpares_22 : decode cX5_walkSpares 22 = .ok (.iload_n 2, 1) := by decide +kernel
theorem dX5_walkSpares_23 : decode cX5_walkSpares 23 = .ok (.if_icmp .eq 43, 3) := by decide +kernel
theorem dX5_walkSpares_26 : decode cX5_walkSpares 26 = .ok (.aload_n 0, 1) := by decide +kernel
theorem dX5_walkSpares_27 : decode cX5_walkSpares 27 = .ok (.getfield 15, 3) := by decide +kernel
theorem dX5_walkSpares_30 : decode cX5_walkSpares 30 = .ok (.iload 5, 2) := by decide +kernel
theorem dX5_walkSpares_32 : decode cX5_walkSpares 32 = .ok (.iaload, 1) := by decide +kernel
theorem dX5_walkSpares_33 : decode cX5_walkSpares 33 = .ok (.iconst (-1), 1) := by decide +kernel
theorem dX5_walkSpares_34 : decode cX5_walkSpares 34 = .ok (.if_icmp .eq 15, 3) := by decide +kernel
theorem dX5_walkSpares_37 : decode cX5_walkSpares 37 = .ok (.aload_n 0, 1) := by decide +kernel
theorem dX5_walkSpares_38 : decode cX5_walkSpares 38 = .ok (.getfield 18, 3) := by decide +kernel
theorem dX5_walkSpares_41 : decode cX5_walkSpares 41 = .ok (.iload 5, 2) := by decide +kernel
theorem dX5_walkSpares_43 : decode cX5_walkSpares 43 = .ok (.iaload, 1) := by decide +kernel
theorem dX5_walkSpares_44 : decode cX5_walkSpares 44 = .ok (.iload 4, 2) := by decide +kernel
theorem dX5_walkSpares_46 : decode cX5_walkSpares 46 = .ok (.if_icmp .ne 5, 3) := by decide +kernel
theorem dX5_walkSpares_49 : decode cX5_walkSpares 49 = .ok (.iconst 0, 1) := by decide +kernel
theorem dX5_walkSpares_50 : decode cX5_walkSpares 50 = .ok (.ireturn, 1) := by decide +kernel
theorem dX5_walkSpares_51 : decode cX5_walkSpares 51 = .ok (.aload_n 0, 1) := by decide +kernel
theorem dX5_walkSpares_52 : decode cX5_walkSpares 52 = .ok (.getfield 15, 3) := by decide +kernel
theorem dX5_walkSpares_55 : decode cX5_walkSpares 55 = .ok (.iload 5, 2) := by decide +kernel
theorem dX5_walkSpares_57 : decode cX5_walkSpares 57 = .ok (.iaload, 1) := by decide +kernel
theorem dX5_walkSpares_58 : decode cX5_walkSpares 58 = .ok (.istore 5, 2) := by decide +kernel
theorem dX5_walkSpares_60 : decode cX5_walkSpares 60 = .ok (.iinc 6 1, 3) := by decide +kernel
theorem dX5_walkSpares_63 : decode cX5_walkSpares 63 = .ok (.goto (-50), 3) := by decide +kernel
theorem dX5_walkSpares_66 : decode cX5_walkSpares 66 = .ok (.iload 5, 2) := by decide +kernel
theorem dX5_walkSpares_68 : decode cX5_walkSpares 68 = .ok (.iload_n 2, 1) := by decide +kernel
theorem dX5_walkSpares_69 : decode cX5_walkSpares 69 = .ok (.if_icmp .ne 7, 3) := by decide +kernel
theorem dX5_walkSpares_72 : decode cX5_walkSpares 72 = .ok (.iconst 1, 1) := by decide +kernel
theorem dX5_walkSpares_73 : decode cX5_walkSpares 73 = .ok (.goto 4, 3) := by decide +kernel
theorem dX5_walkSpares_76 : decode cX5_walkSpares 76 = .ok (.iconst 0, 1) := by decide +kernel
theorem dX5_walkSpares_77 : decode cX5_walkSpares 77 = .ok (.ireturn, 1) := by decide +kernel
theorem dX5_findWalk_0 : decode cX5_findWalk 0 = .ok (.aload_n 0, 1) := by decide +kernel
theorem dX5_findWalk_1 : decode cX5_findWalk 1 = .ok (.iload_n 2, 1) := by decide +kernel
theorem dX5_findWalk_2 : decode cX5_findWalk 2 = .ok (.iconst 0, 1) := by decide +kernel
theorem dX5_findWalk_3 : decode cX5_findWalk 3 = .ok (.iload_n 3, 1) := by decide +kernel
theorem dX5_findWalk_4 : decode cX5_findWalk 4 = .ok (.invokevirtual 58, 3) := by decide +kernel
theorem dX5_findWalk_7 : decode cX5_findWalk 7 = .ok (.aload 4, 2) := by decide +kernel
theorem dX5_findWalk_9 : decode cX5_findWalk 9 = .ok (.iconst 0, 1) := by decide +kernel
theorem dX5_findWalk_10 : decode cX5_findWalk 10 = .ok (.putfield 61, 3) := by decide +kernel
theorem dX5_findWalk_13 : decode cX5_findWalk 13 = .ok (.aload 4, 2) := by decide +kernel
theorem dX5_findWalk_15 : decode cX5_findWalk 15 = .ok (.iload_n 1, 1) := by decide +kernel
theorem dX5_findWalk_16 : decode cX5_findWalk 16 = .ok (.invokevirtual 66, 3) := by decide +kernel
theorem dX5_findWalk_19 : decode cX5_findWalk 19 = .ok (.iload_n 1, 1) := by decide +kernel
theorem dX5_findWalk_20 : decode cX5_findWalk 20 = .ok (.istore 5, 2) := by decide +kernel
theorem dX5_findWalk_22 : decode cX5_findWalk 22 = .ok (.iconst 0, 1) := by decide +kernel
theorem dX5_findWalk_23 : decode cX5_findWalk 23 = .ok (.istore 6, 2) := by decide +kernel
theorem dX5_findWalk_25 : decode cX5_findWalk 25 = .ok (.iload 6, 2) := by decide +kernel
theorem dX5_findWalk_27 : decode cX5_findWalk 27 = .ok (.bipush 8, 2) := by decide +kernel
theorem dX5_findWalk_29 : decode cX5_findWalk 29 = .ok (.if_icmp .ge 44, 3) := by decide +kernel
theorem dX5_findWalk_32 : decode cX5_findWalk 32 = .ok (.iload 5, 2) := by decide +kernel
theorem dX5_findWalk_34 : decode cX5_findWalk 34 = .ok (.iload_n 2, 1) := by decide +kernel
theorem dX5_findWalk_35 : decode cX5_findWalk 35 = .ok (.if_icmp .eq 38, 3) := by decide +kernel
theorem dX5_findWalk_38 : decode cX5_findWalk 38 = .ok (.aload_n 0, 1) := by decide +kernel
theorem dX5_findWalk_39 : decode cX5_findWalk 39 = .ok (.getfield 15, 3) := by decide +kernel
theorem dX5_findWalk_42 : decode cX5_findWalk 42 = .ok (.iload 5, 2) := by decide +kernel
theorem dX5_findWalk_44 : decode cX5_findWalk 44 = .ok (.iaload, 1) := by decide +kernel
theorem dX5_findWalk_45 : decode cX5_findWalk 45 = .ok (.iconst (-1), 1) := by decide +kernel
theorem dX5_findWalk_46 : decode cX5_findWalk 46 = .ok (.if_icmp .ne 5, 3) := by decide +kernel
theorem dX5_findWalk_49 : decode cX5_findWalk 49 = .ok (.iconst 0, 1) := by decide +kernel
theorem dX5_findWalk_50 : decode cX5_findWalk 50 = .ok (.ireturn, 1) := by decide +kernel
theorem dX5_findWalk_51 : decode cX5_findWalk 51 = .ok (.aload_n 0, 1) := by decide +kernel
theorem dX5_findWalk_52 : decode cX5_findWalk 52 = .ok (.getfield 15, 3) := by decide +kernel
theorem dX5_findWalk_55 : decode cX5_findWalk 55 = .ok (.iload 5, 2) := by decide +kernel
theorem dX5_findWalk_57 : decode cX5_findWalk 57 = .ok (.iaload, 1) := by decide +kernel
theorem dX5_findWalk_58 : decode cX5_findWalk 58 = .ok (.istore 5, 2) := by decide +kernel
theorem dX5_findWalk_60 : decode cX5_findWalk 60 = .ok (.aload 4, 2) := by decide +kernel
theorem dX5_findWalk_62 : decode cX5_findWalk 62 = .ok (.iload 5, 2) := by decide +kernel
theorem dX5_findWalk_64 : decode cX5_findWalk 64 = .ok (.invokevirtual 66, 3) := by decide +kernel
theorem dX5_findWalk_67 : decode cX5_findWalk 67 = .ok (.iinc 6 1, 3) := by decide +kernel
theorem dX5_findWalk_70 : decode cX5_findWalk 70 = .ok (.goto (-45), 3) := by decide +kernel
theorem dX5_findWalk_73 : decode cX5_findWalk 73 = .ok (.iload 5, 2) := by decide +kernel
theorem dX5_findWalk_75 : decode cX5_findWalk 75 = .ok (.iload_n 2, 1) := by decide +kernel
theorem dX5_findWalk_76 : decode cX5_findWalk 76 = .ok (.if_icmp .ne 7, 3) := by decide +kernel
theorem dX5_findWalk_79 : decode cX5_findWalk 79 = .ok (.iconst 1, 1) := by decide +kernel
theorem dX5_findWalk_80 : decode cX5_findWalk 80 = .ok (.goto 4, 3) := by decide +kernel
theorem dX5_findWalk_83 : decode cX5_findWalk 83 = .ok (.iconst 0, 1) := by decide +kernel
theorem dX5_findWalk_84 : decode cX5_findWalk 84 = .ok (.ireturn, 1) := by decide +kernel
theorem dX6_init_0 : decode cX6_init 0 = .ok (.aload_n 0, 1) := by decide +kernel
theorem dX6_init_1 : decode cX6_init 1 = .ok (.invokespecial 3, 3) := by decide +kernel
theorem dX6_init_4 : decode cX6_init 4 = .ok (.aload_n 0, 1) := by decide +kernel
theorem dX6_init_5 : decode cX6_init 5 = .ok (.iconst 0, 1) := by decide +kernel
theorem dX6_init_6 : decode cX6_init 6 = .ok (.putfield 9, 3) := by decide +kernel
theorem dX6_init_9 : decode cX6_init 9 = .ok (.aload_n 0, 1) := by decide +kernel
theorem dX6_init_10 : decode cX6_init 10 = .ok (.iload_n 1, 1) := by decide +kernel
theorem dX6_init_11 : decode cX6_init 11 = .ok (.iconst 0, 1) := by decide +kernel
theorem dX6_init_12 : decode cX6_init 12 = .ok (.invokestatic 15, 3) := by decide +kernel
theorem dX6_init_15 : decode cX6_init 15 = .ok (.newarray .int, 2) := by decide +kernel
theorem dX6_init_17 : decode cX6_init 17 = .ok (.putfield 21, 3) := by decide +kernel
theorem dX6_init_20 : decode cX6_init 20 = .ok (.return_, 1) := by decide +kernel
theorem dX6_put_0 : decode cX6_put 0 = .ok (.aload_n 0, 1) := by decide +kernel
theorem dX6_put_1 : decode cX6_put 1 = .ok (.getfield 9, 3) := by decide +kernel
theorem dX6_put_4 : decode cX6_put 4 = .ok (.aload_n 0, 1) := by decide +kernel
theorem dX6_put_5 : decode cX6_put 5 = .ok (.getfield 21, 3) := by decide +kernel
theorem dX6_put_8 : decode cX6_put 8 = .ok (.arraylength, 1) := by decide +kernel
theorem dX6_put_9 : decode cX6_put 9 = .ok (.if_icmp .ge 23, 3) := by decide +kernel
theorem dX6_put_12 : decode cX6_put 12 = .ok (.aload_n 0, 1) := by decide +kernel
theorem dX6_put_13 : decode cX6_put 13 = .ok (.getfield 21, 3) := by decide +kernel
theorem dX6_put_16 : decode cX6_put 16 = .ok (.aload_n 0, 1) := by decide +kernel
theorem dX6_put_17 : decode cX6_put 17 = .ok (.getfield 9, 3) := by decide +kernel
theorem dX6_put_20 : decode cX6_put 20 = .ok (.iload_n 1, 1) := by decide +kernel
theorem dX6_put_21 : decode cX6_put 21 = .ok (.iastore, 1) := by decide +kernel
theorem dX6_put_22 : decode cX6_put 22 = .ok (.aload_n 0, 1) := by decide +kernel
theorem dX6_put_23 : decode cX6_put 23 = .ok (.dup, 1) := by decide +kernel
theorem dX6_put_24 : decode cX6_put 24 = .ok (.getfield 9, 3) := by decide +kernel
theorem dX6_put_27 : decode cX6_put 27 = .ok (.iconst 1, 1) := by decide +kernel
theorem dX6_put_28 : decode cX6_put 28 = .ok (.iadd, 1) := by decide +kernel
theorem dX6_put_29 : decode cX6_put 29 = .ok (.putfield 9, 3) := by decide +kernel
theorem dX6_put_32 : decode cX6_put 32 = .ok (.return_, 1) := by decide +kernel
theorem dX6_last_0 : decode cX6_last 0 = .ok (.aload_n 0, 1) := by decide +kernel
theorem dX6_last_1 : decode cX6_last 1 = .ok (.getfield 9, 3) := by decide +kernel
theorem dX6_last_4 : decode cX6_last 4 = .ok (.ifCond .ne 7, 3) := by decide +kernel
theorem dX6_last_7 : decode cX6_last 7 = .ok (.iconst (-1), 1) := by decide +kernel
theorem dX6_last_8 : decode cX6_last 8 = .ok (.goto 14, 3) := by decide +kernel
theorem dX6_last_11 : decode cX6_last 11 = .ok (.aload_n 0, 1) := by decide +kernel
theorem dX6_last_12 : decode cX6_last 12 = .ok (.getfield 21, 3) := by decide +kernel
theorem dX6_last_15 : decode cX6_last 15 = .ok (.aload_n 0, 1) := by decide +kernel
theorem dX6_last_16 : decode cX6_last 16 = .ok (.getfield 9, 3) := by decide +kernel
theorem dX6_last_19 : decode cX6_last 19 = .ok (.iconst 1, 1) := by decide +kernel
theorem dX6_last_20 : decode cX6_last 20 = .ok (.isub, 1) := by decide +kernel
theorem dX6_last_21 : decode cX6_last 21 = .ok (.iaload, 1) := by decide +kernel
theorem dX6_last_22 : decode cX6_last 22 = .ok (.ireturn, 1) := by decide +kernel
theorem dX6_has_0 : decode cX6_has 0 = .ok (.iconst 0, 1) := by decide +kernel
theorem dX6_has_1 : decode cX6_has 1 = .ok (.istore_n 2, 1) := by decide +kernel
theorem dX6_has_2 : decode cX6_has 2 = .ok (.iload_n 2, 1) := by decide +kernel
theorem dX6_has_3 : decode cX6_has 3 = .ok (.aload_n 0, 1) := by decide +kernel
theorem dX6_has_4 : decode cX6_has 4 = .ok (.getfield 9, 3) := by decide +kernel
theorem dX6_has_7 : decode cX6_has 7 = .ok (.if_icmp .ge 21, 3) := by decide +kernel
theorem dX6_has_10 : decode cX6_has 10 = .ok (.aload_n 0, 1) := by decide +kernel
theorem dX6_has_11 : decode cX6_has 11 = .ok (.getfield 21, 3) := by decide +kernel
theorem dX6_has_14 : decode cX6_has 14 = .ok (.iload_n 2, 1) := by decide +kernel
theorem dX6_has_15 : decode cX6_has 15 = .ok (.iaload, 1) := by decide +kernel
theorem dX6_has_16 : decode cX6_has 16 = .ok (.iload_n 1, 1) := by decide +kernel
theorem dX6_has_17 : decode cX6_has 17 = .ok (.if_icmp .ne 5, 3) := by decide +kernel
theorem dX6_has_20 : decode cX6_has 20 = .ok (.iconst 1, 1) := by decide +kernel
theorem dX6_has_21 : decode cX6_has 21 = .ok (.ireturn, 1) := by decide +kernel
theorem dX6_has_22 : decode cX6_has 22 = .ok (.iinc 2 1, 3) := by decide +kernel
theorem dX6_has_25 : decode cX6_has 25 = .ok (.goto (-23), 3) := by decide +kernel
theorem dX6_has_28 : decode cX6_has 28 = .ok (.iconst 0, 1) := by decide +kernel
theorem dX6_has_29 : decode cX6_has 29 = .ok (.ireturn, 1) := by decide +kernel
theorem dX6_takeOver_0 : decode cX6_takeOver 0 = .ok (.aload_n 0, 1) := by decide +kernel
theorem dX6_takeOver_1 : decode cX6_takeOver 1 = .ok (.iconst 0, 1) := by decide +kernel
theorem dX6_takeOver_2 : decode cX6_takeOver 2 = .ok (.putfield 9, 3) := by decide +kernel
theorem dX6_takeOver_5 : decode cX6_takeOver 5 = .ok (.iconst 0, 1) := by decide +kernel
theorem dX6_takeOver_6 : decode cX6_takeOver 6 = .ok (.istore_n 2, 1) := by decide +kernel
theorem dX6_takeOver_7 : decode cX6_takeOver 7 = .ok (.iload_n 2, 1) := by decide +kernel
theorem dX6_takeOver_8 : decode cX6_takeOver 8 = .ok (.aload_n 1, 1) := by decide +kernel
theorem dX6_takeOver_9 : decode cX6_takeOver 9 = .ok (.getfield 9, 3) := by decide +kernel
theorem dX6_takeOver_12 : decode cX6_takeOver 12 = .ok (.if_icmp .ge 19, 3) := by decide +kernel
theorem dX6_takeOver_15 : decode cX6_takeOver 15 = .ok (.aload_n 0, 1) := by decide +kernel
theorem dX6_takeOver_16 : decode cX6_takeOver 16 = .ok (.aload_n 1, 1) := by decide +kernel
theorem dX6_takeOver_17 : decode cX6_takeOver 17 = .ok (.getfield 21, 3) := by decide +kernel
theorem dX6_takeOver_20 : decode cX6_takeOver 20 = .ok (.iload_n 2, 1) := by decide +kernel
theorem dX6_takeOver_21 : decode cX6_takeOver 21 = .ok (.iaload, 1) := by decide +kernel
theorem dX6_takeOver_22 : decode cX6_takeOver 22 = .ok (.invokevirtual 25, 3) := by decide +kernel
theorem dX6_takeOver_25 : decode cX6_takeOver 25 = .ok (.iinc 2 1, 3) := by decide +kernel
theorem dX6_takeOver_28 : decode cX6_takeOver 28 = .ok (.goto (-21), 3) := by decide +kernel
theorem dX6_takeOver_31 : decode cX6_takeOver 31 = .ok (.return_, 1) := by decide +kernel
theorem dX6_told_0 : decode cX6_told 0 = .ok (.iload_n 1, 1) := by decide +kernel
theorem dX6_told_1 : decode cX6_told 1 = .ok (.iconst (-1), 1) := by decide +kernel
theorem dX6_told_2 : decode cX6_told 2 = .ok (.if_icmp .ne 8, 3) := by decide +kernel
theorem dX6_told_5 : decode cX6_told 5 = .ok (.aload_n 0, 1) := by decide +kernel
theorem dX6_told_6 : decode cX6_told 6 = .ok (.getfield 9, 3) := by decide +kernel
theorem dX6_told_9 : decode cX6_told 9 = .ok (.ireturn, 1) := by decide +kernel
theorem dX6_told_10 : decode cX6_told 10 = .ok (.iload_n 1, 1) := by decide +kernel
theorem dX6_told_11 : decode cX6_told 11 = .ok (.ifCond .lt 20, 3) := by decide +kernel
theorem dX6_told_14 : decode cX6_told 14 = .ok (.iload_n 1, 1) := by decide +kernel
theorem dX6_told_15 : decode cX6_told 15 = .ok (.aload_n 0, 1) := by decide +kernel
theorem dX6_told_16 : decode cX6_told 16 = .ok (.getfield 9, 3) := by decide +kernel
theorem dX6_told_19 : decode cX6_told 19 = .ok (.if_icmp .ge 12, 3) := by decide +kernel
theorem dX6_told_22 : decode cX6_told 22 = .ok (.aload_n 0, 1) := by decide +kernel
theorem dX6_told_23 : decode cX6_told 23 = .ok (.getfield 21, 3) := by decide +kernel
theorem dX6_told_26 : decode cX6_told 26 = .ok (.iload_n 1, 1) := by decide +kernel
theorem dX6_told_27 : decode cX6_told 27 = .ok (.iaload, 1) := by decide +kernel
theorem dX6_told_28 : decode cX6_told 28 = .ok (.goto 4, 3) := by decide +kernel
theorem dX6_told_31 : decode cX6_told 31 = .ok (.iconst (-1), 1) := by decide +kernel
theorem dX6_told_32 : decode cX6_told 32 = .ok (.ireturn, 1) := by decide +kernel
theorem dX7_init_0 : decode cX7_init 0 = .ok (.aload_n 0, 1) := by decide +kernel
theorem dX7_init_1 : decode cX7_init 1 = .ok (.invokespecial 3, 3) := by decide +kernel
theorem dX7_init_4 : decode cX7_init 4 = .ok (.aload_n 0, 1) := by decide +kernel
theorem dX7_init_5 : decode cX7_init 5 = .ok (.iconst 0, 1) := by decide +kernel
theorem dX7_init_6 : decode cX7_init 6 = .ok (.putfield 9, 3) := by decide +kernel
theorem dX7_init_9 : decode cX7_init 9 = .ok (.aload_n 0, 1) := by decide +kernel
theorem dX7_init_10 : decode cX7_init 10 = .ok (.iload_n 1, 1) := by decide +kernel
theorem dX7_init_11 : decode cX7_init 11 = .ok (.iconst 0, 1) := by decide +kernel
theorem dX7_init_12 : decode cX7_init 12 = .ok (.invokestatic 15, 3) := by decide +kernel
theorem dX7_init_15 : decode cX7_init 15 = .ok (.newarray .int, 2) := by decide +kernel
theorem dX7_init_17 : decode cX7_init 17 = .ok (.putfield 21, 3) := by decide +kernel
theorem dX7_init_20 : decode cX7_init 20 = .ok (.aload_n 0, 1) := by decide +kernel
theorem dX7_init_21 : decode cX7_init 21 = .ok (.iload_n 1, 1) := by decide +kernel
theorem dX7_init_22 : decode cX7_init 22 = .ok (.iconst 0, 1) := by decide +kernel
theorem dX7_init_23 : decode cX7_init 23 = .ok (.invokestatic 15, 3) := by decide +kernel
theorem dX7_init_26 : decode cX7_init 26 = .ok (.newarray .int, 2) := by decide +kernel
theorem dX7_init_28 : decode cX7_init 28 = .ok (.putfield 25, 3) := by decide +kernel
theorem dX7_init_31 : decode cX7_init 31 = .ok (.return_, 1) := by decide +kernel
theorem dX7_put_0 : decode cX7_put 0 = .ok (.aload_n 0, 1) := by decide +kernel
theorem dX7_put_1 : decode cX7_put 1 = .ok (.getfield 9, 3) := by decide +kernel
theorem dX7_put_4 : decode cX7_put 4 = .ok (.aload_n 0, 1) := by decide +kernel
theorem dX7_put_5 : decode cX7_put 5 = .ok (.getfield 21, 3) := by decide +kernel
theorem dX7_put_8 : decode cX7_put 8 = .ok (.arraylength, 1) := by decide +kernel
theorem dX7_put_9 : decode cX7_put 9 = .ok (.if_icmp .ge 33, 3) := by decide +kernel
theorem dX7_put_12 : decode cX7_put 12 = .ok (.aload_n 0, 1) := by decide +kernel
theorem dX7_put_13 : decode cX7_put 13 = .ok (.getfield 21, 3) := by decide +kernel
theorem dX7_put_16 : decode cX7_put 16 = .ok (.aload_n 0, 1) := by decide +kernel
theorem dX7_put_17 : decode cX7_put 17 = .ok (.getfield 9, 3) := by decide +kernel
theorem dX7_put_20 : decode cX7_put 20 = .ok (.iload_n 1, 1) := by decide +kernel
theorem dX7_put_21 : decode cX7_put 21 = .ok (.iastore, 1) := by decide +kernel
theorem dX7_put_22 : decode cX7_put 22 = .ok (.aload_n 0, 1) := by decide +kernel
theorem dX7_put_23 : decode cX7_put 23 = .ok (.getfield 25, 3) := by decide +kernel
theorem dX7_put_26 : decode cX7_put 26 = .ok (.aload_n 0, 1) := by decide +kernel
theorem dX7_put_27 : decode cX7_put 27 = .ok (.getfield 9, 3) := by decide +kernel
theorem dX7_put_30 : decode cX7_put 30 = .ok (.iload_n 2, 1) := by decide +kernel
theorem dX7_put_31 : decode cX7_put 31 = .ok (.iastore, 1) := by decide +kernel
theorem dX7_put_32 : decode cX7_put 32 = .ok (.aload_n 0, 1) := by decide +kernel
theorem dX7_put_33 : decode cX7_put 33 = .ok (.dup, 1) := by decide +kernel
theorem dX7_put_34 : decode cX7_put 34 = .ok (.getfield 9, 3) := by decide +kernel
theorem dX7_put_37 : decode cX7_put 37 = .ok (.iconst 1, 1) := by decide +kernel
theorem dX7_put_38 : decode cX7_put 38 = .ok (.iadd, 1) := by decide +kernel
theorem dX7_put_39 : decode cX7_put 39 = .ok (.putfield 9, 3) := by decide +kernel
theorem dX7_put_42 : decode cX7_put 42 = .ok (.return_, 1) := by decide +kernel
theorem dX7_takeOver_0 : decode cX7_takeOver 0 = .ok (.aload_n 0, 1) := by decide +kernel
theorem dX7_takeOver_1 : decode cX7_takeOver 1 = .ok (.iconst 0, 1) := by decide +kernel
theorem dX7_takeOver_2 : decode cX7_takeOver 2 = .ok (.putfield 9, 3) := by decide +kernel
theorem dX7_takeOver_5 : decode cX7_takeOver 5 = .ok (.iconst 0, 1) := by decide +kernel
theorem dX7_takeOver_6 : decode cX7_takeOver 6 = .ok (.istore_n 2, 1) := by decide +kernel
theorem dX7_takeOver_7 : decode cX7_takeOver 7 = .ok (.iload_n 2, 1) := by decide +kernel
theorem dX7_takeOver_8 : decode cX7_takeOver 8 = .ok (.aload_n 1, 1) := by decide +kernel
theorem dX7_takeOver_9 : decode cX7_takeOver 9 = .ok (.getfield 9, 3) := by decide +kernel
theorem dX7_takeOver_12 : decode cX7_takeOver 12 = .ok (.if_icmp .ge 25, 3) := by decide +kernel
theorem dX7_takeOver_15 : decode cX7_takeOver 15 = .ok (.aload_n 0, 1) := by decide +kernel
theorem dX7_takeOver_16 : decode cX7_takeOver 16 = .ok (.aload_n 1, 1) := by decide +kernel
theorem dX7_takeOver_17 : decode cX7_takeOver 17 = .ok (.getfield 21, 3) := by decide +kernel
theorem dX7_takeOver_20 : decode cX7_takeOver 20 = .ok (.iload_n 2, 1) := by decide +kernel
theorem dX7_takeOver_21 : decode cX7_takeOver 21 = .ok (.iaload, 1) := by decide +kernel
theorem dX7_takeOver_22 : decode cX7_takeOver 22 = .ok (.aload_n 1, 1) := by decide +kernel
theorem dX7_takeOver_23 : decode cX7_takeOver 23 = .ok (.getfield 25, 3) := by decide +kernel
theorem dX7_takeOver_26 : decode cX7_takeOver 26 = .ok (.iload_n 2, 1) := by decide +kernel
theorem dX7_takeOver_27 : decode cX7_takeOver 27 = .ok (.iaload, 1) := by decide +kernel
theorem dX7_takeOver_28 : decode cX7_takeOver 28 = .ok (.invokevirtual 28, 3) := by decide +kernel
theorem dX7_takeOver_31 : decode cX7_takeOver 31 = .ok (.iinc 2 1, 3) := by decide +kernel
theorem dX7_takeOver_34 : decode cX7_takeOver 34 = .ok (.goto (-27), 3) := by decide +kernel
theorem dX7_takeOver_37 : decode cX7_takeOver 37 = .ok (.return_, 1) := by decide +kernel
theorem dX7_putOnTop_0 : decode cX7_putOnTop 0 = .ok (.aload_n 1, 1) := by decide +kernel
theorem dX7_putOnTop_1 : decode cX7_putOnTop 1 = .ok (.getfield 9, 3) := by decide +kernel
theorem dX7_putOnTop_4 : decode cX7_putOnTop 4 = .ok (.iconst 1, 1) := by decide +kernel
theorem dX7_putOnTop_5 : decode cX7_putOnTop 5 = .ok (.isub, 1) := by decide +kernel
theorem dX7_putOnTop_6 : decode cX7_putOnTop 6 = .ok (.istore_n 2, 1) := by decide +kernel
theorem dX7_putOnTop_7 : decode cX7_putOnTop 7 = .ok (.iload_n 2, 1) := by decide +kernel
theorem dX7_putOnTop_8 : decode cX7_putOnTop 8 = .ok (.ifCond .lt 25, 3) := by decide +kernel
theorem dX7_putOnTop_11 : decode cX7_putOnTop 11 = .ok (.aload_n 0, 1) := by decide +kernel
theorem dX7_putOnTop_12 : decode cX7_putOnTop 12 = .ok (.aload_n 1, 1) := by decide +kernel
theorem dX7_putOnTop_13 : decode cX7_putOnTop 13 = .ok (.getfield 21, 3) := by decide +kernel
theorem dX7_putOnTop_16 : decode cX7_putOnTop 16 = .ok (.iload_n 2, 1) := by decide +kernel
theorem dX7_putOnTop_17 : decode cX7_putOnTop 17 = .ok (.iaload, 1) := by decide +kernel
theorem dX7_putOnTop_18 : decode cX7_putOnTop 18 = .ok (.aload_n 1, 1) := by decide +kernel
theorem dX7_putOnTop_19 : decode cX7_putOnTop 19 = .ok (.getfield 25, 3) := by decide +kernel
theorem dX7_putOnTop_22 : decode cX7_putOnTop 22 = .ok (.iload_n 2, 1) := by decide +kernel
theorem dX7_putOnTop_23 : decode cX7_putOnTop 23 = .ok (.iaload, 1) := by decide +kernel
theorem dX7_putOnTop_24 : decode cX7_putOnTop 24 = .ok (.invokevirtual 28, 3) := by decide +kernel
theorem dX7_putOnTop_27 : decode cX7_putOnTop 27 = .ok (.iinc 2 (-1), 3) := by decide +kernel
theorem dX7_putOnTop_30 : decode cX7_putOnTop 30 = .ok (.goto (-23), 3) := by decide +kernel
theorem dX7_putOnTop_33 : decode cX7_putOnTop 33 = .ok (.return_, 1) := by decide +kernel
theorem dX7_topKind_0 : decode cX7_topKind 0 = .ok (.aload_n 0, 1) := by decide +kernel
theorem dX7_topKind_1 : decode cX7_topKind 1 = .ok (.getfield 9, 3) := by decide +kernel
theorem dX7_topKind_4 : decode cX7_topKind 4 = .ok (.ifCond .ne 7, 3) := by decide +kernel
theorem dX7_topKind_7 : decode cX7_topKind 7 = .ok (.iconst (-1), 1) := by decide +kernel
theorem dX7_topKind_8 : decode cX7_topKind 8 = .ok (.goto 14, 3) := by decide +kernel
theorem dX7_topKind_11 : decode cX7_topKind 11 = .ok (.aload_n 0, 1) := by decide +kernel
theorem dX7_topKind_12 : decode cX7_topKind 12 = .ok (.getfield 21, 3) := by decide +kernel
theorem dX7_topKind_15 : decode cX7_topKind 15 = .ok (.aload_n 0, 1) := by decide +kernel
theorem dX7_topKind_16 : decode cX7_topKind 16 = .ok (.getfield 9, 3) := by decide +kernel
theorem dX7_topKind_19 : decode cX7_topKind 19 = .ok (.iconst 1, 1) := by decide +kernel
theorem dX7_topKind_20 : decode cX7_topKind 20 = .ok (.isub, 1) := by decide +kernel
theorem dX7_topKind_21 : decode cX7_topKind 21 = .ok (.iaload, 1) := by decide +kernel
theorem dX7_topKind_22 : decode cX7_topKind 22 = .ok (.ireturn, 1) := by decide +kernel
theorem dX7_topWhat_0 : decode cX7_topWhat 0 = .ok (.aload_n 0, 1) := by decide +kernel
theorem dX7_topWhat_1 : decode cX7_topWhat 1 = .ok (.getfield 9, 3) := by decide +kernel
theorem dX7_topWhat_4 : decode cX7_topWhat 4 = .ok (.ifCond .ne 7, 3) := by decide +kernel
theorem dX7_topWhat_7 : decode cX7_topWhat 7 = .ok (.iconst (-1), 1) := by decide +kernel
theorem dX7_topWhat_8 : decode cX7_topWhat 8 = .ok (.goto 14, 3) := by decide +kernel
theorem dX7_topWhat_11 : decode cX7_topWhat 11 = .ok (.aload_n 0, 1) := by decide +kernel
theorem dX7_topWhat_12 : decode cX7_topWhat 12 = .ok (.getfield 25, 3) := by decide +kernel
theorem dX7_topWhat_15 : decode cX7_topWhat 15 = .ok (.aload_n 0, 1) := by decide +kernel
theorem dX7_topWhat_16 : decode cX7_topWhat 16 = .ok (.getfield 9, 3) := by decide +kernel
theorem dX7_topWhat_19 : decode cX7_topWhat 19 = .ok (.iconst 1, 1) := by decide +kernel
theorem dX7_topWhat_20 : decode cX7_topWhat 20 = .ok (.isub, 1) := by decide +kernel
theorem dX7_topWhat_21 : decode cX7_topWhat 21 = .ok (.iaload, 1) := by decide +kernel
theorem dX7_topWhat_22 : decode cX7_topWhat 22 = .ok (.ireturn, 1) := by decide +kernel
theorem dX7_isTopTo_0 : decode cX7_isTopTo 0 = .ok (.aload_n 0, 1) := by decide +kernel
theorem dX7_isTopTo_1 : decode cX7_isTopTo 1 = .ok (.getfield 9, 3) := by decide +kernel
theorem dX7_isTopTo_4 : decode cX7_isTopTo 4 = .ok (.ifCond .le 37, 3) := by decide +kernel
theorem dX7_isTopTo_7 : decode cX7_isTopTo 7 = .ok (.aload_n 0, 1) := by decide +kernel
theorem dX7_isTopTo_8 : decode cX7_isTopTo 8 = .ok (.getfield 21, 3) := by decide +kernel
theorem dX7_isTopTo_11 : decode cX7_isTopTo 11 = .ok (.aload_n 0, 1) := by decide +kernel
theorem dX7_isTopTo_12 : decode cX7_isTopTo 12 = .ok (.getfield 9, 3) := by decide +kernel
theorem dX7_isTopTo_15 : decode cX7_isTopTo 15 = .ok (.iconst 1, 1) := by decide +kernel
theorem dX7_isTopTo_16 : decode cX7_isTopTo 16 = .ok (.isub, 1) := by decide +kernel
theorem dX7_isTopTo_17 : decode cX7_isTopTo 17 = .ok (.iaload, 1) := by decide +kernel
theorem dX7_isTopTo_18 : decode cX7_isTopTo 18 = .ok (.iconst 2, 1) := by decide +kernel
theorem dX7_isTopTo_19 : decode cX7_isTopTo 19 = .ok (.if_icmp .eq 22, 3) := by decide +kernel
theorem dX7_isTopTo_22 : decode cX7_isTopTo 22 = .ok (.aload_n 0, 1) := by decide +kernel
theorem dX7_isTopTo_23 : decode cX7_isTopTo 23 = .ok (.getfield 25, 3) := by decide +kernel
theorem dX7_isTopTo_26 : decode cX7_isTopTo 26 = .ok (.aload_n 0, 1) := by decide +kernel
theorem dX7_isTopTo_27 : decode cX7_isTopTo 27 = .ok (.getfield 9, 3) := by decide +kernel
theorem dX7_isTopTo_30 : decode cX7_isTopTo 30 = .ok (.iconst 1, 1) := by decide +kernel
theorem dX7_isTopTo_31 : decode cX7_isTopTo 31 = .ok (.isub, 1) := by decide +kernel
theorem dX7_isTopTo_32 : decode cX7_isTopTo 32 = .ok (.iaload, 1) := by decide +kernel
theorem dX7_isTopTo_33 : decode cX7_isTopTo 33 = .ok (.iload_n 1, 1) := by decide +kernel
theorem dX7_isTopTo_34 : decode cX7_isTopTo 34 = .ok (.if_icmp .ne 7, 3) := by decide +kernel
theorem dX7_isTopTo_37 : decode cX7_isTopTo 37 = .ok (.iconst 1, 1) := by decide +kernel
theorem dX7_isTopTo_38 : decode cX7_isTopTo 38 = .ok (.goto 4, 3) := by decide +kernel
theorem dX7_isTopTo_41 : decode cX7_isTopTo 41 = .ok (.iconst 0, 1) := by decide +kernel
theorem dX7_isTopTo_42 : decode cX7_isTopTo 42 = .ok (.ireturn, 1) := by decide +kernel
theorem dX7_dropTop_0 : decode cX7_dropTop 0 = .ok (.aload_n 0, 1) := by decide +kernel
theorem dX7_dropTop_1 : decode cX7_dropTop 1 = .ok (.getfield 9, 3) := by decide +kernel
theorem dX7_dropTop_4 : decode cX7_dropTop 4 = .ok (.ifCond .le 13, 3) := by decide +kernel
theorem dX7_dropTop_7 : decode cX7_dropTop 7 = .ok (.aload_n 0, 1) := by decide +kernel
theorem dX7_dropTop_8 : decode cX7_dropTop 8 = .ok (.dup, 1) := by decide +kernel
theorem dX7_dropTop_9 : decode cX7_dropTop 9 = .ok (.getfield 9, 3) := by decide +kernel
theorem dX7_dropTop_12 : decode cX7_dropTop 12 = .ok (.iconst 1, 1) := by decide +kernel
theorem dX7_dropTop_13 : decode cX7_dropTop 13 = .ok (.isub, 1) := by decide +kernel
theorem dX7_dropTop_14 : decode cX7_dropTop 14 = .ok (.putfield 9, 3) := by decide +kernel
theorem dX7_dropTop_17 : decode cX7_dropTop 17 = .ok (.return_, 1) := by decide +kernel
theorem dX7_told_0 : decode cX7_told 0 = .ok (.iload_n 1, 1) := by decide +kernel
theorem dX7_told_1 : decode cX7_told 1 = .ok (.iconst (-1), 1) := by decide +kernel
theorem dX7_told_2 : decode cX7_told 2 = .ok (.if_icmp .ne 8, 3) := by decide +kernel
theorem dX7_told_5 : decode cX7_told 5 = .ok (.aload_n 0, 1) := by decide +kernel
theorem dX7_told_6 : decode cX7_told 6 = .ok (.getfield 9, 3) := by decide +kernel
theorem dX7_told_9 : decode cX7_told 9 = .ok (.ireturn, 1) := by decide +kernel
theorem dX7_told_10 : decode cX7_told 10 = .ok (.iload_n 1, 1) := by decide +kernel
theorem dX7_told_11 : decode cX7_told 11 = .ok (.ifCond .lt 30, 3) := by decide +kernel
theorem dX7_told_14 : decode cX7_told 14 = .ok (.iload_n 1, 1) := by decide +kernel
theorem dX7_told_15 : decode cX7_told 15 = .ok (.aload_n 0, 1) := by decide +kernel
theorem dX7_told_16 : decode cX7_told 16 = .ok (.getfield 9, 3) := by decide +kernel
theorem dX7_told_19 : decode cX7_told 19 = .ok (.if_icmp .ge 22, 3) := by decide +kernel
theorem dX7_told_22 : decode cX7_told 22 = .ok (.bipush 100, 2) := by decide +kernel
theorem dX7_told_24 : decode cX7_told 24 = .ok (.aload_n 0, 1) := by decide +kernel
theorem dX7_told_25 : decode cX7_told 25 = .ok (.getfield 21, 3) := by decide +kernel
theorem dX7_told_28 : decode cX7_told 28 = .ok (.iload_n 1, 1) := by decide +kernel
theorem dX7_told_29 : decode cX7_told 29 = .ok (.iaload, 1) := by decide +kernel
theorem dX7_told_30 : decode cX7_told 30 = .ok (.imul, 1) := by decide +kernel
theorem dX7_told_31 : decode cX7_told 31 = .ok (.aload_n 0, 1) := by decide +kernel
theorem dX7_told_32 : decode cX7_told 32 = .ok (.getfield 25, 3) := by decide +kernel
theorem dX7_told_35 : decode cX7_told 35 = .ok (.iload_n 1, 1) := by decide +kernel
theorem dX7_told_36 : decode cX7_told 36 = .ok (.iaload, 1) := by decide +kernel
theorem dX7_told_37 : decode cX7_told 37 = .ok (.iadd, 1) := by decide +kernel
theorem dX7_told_38 : decode cX7_told 38 = .ok (.goto 4, 3) := by decide +kernel
theorem dX7_told_41 : decode cX7_told 41 = .ok (.iconst (-1), 1) := by decide +kernel
theorem dX7_told_42 : decode cX7_told 42 = .ok (.ireturn, 1) := by decide +kernel
theorem dX8_init_0 : decode cX8_init 0 = .ok (.aload_n 0, 1) := by decide +kernel
theorem dX8_init_1 : decode cX8_init 1 = .ok (.invokespecial 3, 3) := by decide +kernel
theorem dX8_init_4 : decode cX8_init 4 = .ok (.aload_n 0, 1) := by decide +kernel
theorem dX8_init_5 : decode cX8_init 5 = .ok (.sipush 200, 3) := by decide +kernel
theorem dX8_init_8 : decode cX8_init 8 = .ok (.newarray .int, 2) := by decide +kernel
theorem dX8_init_10 : decode cX8_init 10 = .ok (.putfield 9, 3) := by decide +kernel
theorem dX8_init_13 : decode cX8_init 13 = .ok (.aload_n 0, 1) := by decide +kernel
theorem dX8_init_14 : decode cX8_init 14 = .ok (.iconst 0, 1) := by decide +kernel
theorem dX8_init_15 : decode cX8_init 15 = .ok (.putfield 15, 3) := by decide +kernel
theorem dX8_init_18 : decode cX8_init 18 = .ok (.aload_n 0, 1) := by decide +kernel
theorem dX8_init_19 : decode cX8_init 19 = .ok (.iconst 0, 1) := by decide +kernel
theorem dX8_init_20 : decode cX8_init 20 = .ok (.putfield 19, 3) := by decide +kernel
theorem dX8_init_23 : decode cX8_init 23 = .ok (.aload_n 0, 1) := by decide +kernel
theorem dX8_init_24 : decode cX8_init 24 = .ok (.bipush 96, 2) := by decide +kernel
theorem dX8_init_26 : decode cX8_init 26 = .ok (.newarray .int, 2) := by decide +kernel
theorem dX8_init_28 : decode cX8_init 28 = .ok (.putfield 22, 3) := by decide +kernel
theorem dX8_init_31 : decode cX8_init 31 = .ok (.aload_n 0, 1) := by decide +kernel
theorem dX8_init_32 : decode cX8_init 32 = .ok (.iconst 0, 1) := by decide +kernel
theorem dX8_init_33 : decode cX8_init 33 = .ok (.putfield 25, 3) := by decide +kernel
theorem dX8_init_36 : decode cX8_init 36 = .ok (.aload_n 0, 1) := by decide +kernel
theorem dX8_init_37 : decode cX8_init 37 = .ok (.iconst 0, 1) := by decide +kernel
theorem dX8_init_38 : decode cX8_init 38 = .ok (.putfield 28, 3) := by decide +kernel
theorem dX8_init_41 : decode cX8_init 41 = .ok (.aload_n 0, 1) := by decide +kernel
theorem dX8_init_42 : decode cX8_init 42 = .ok (.iconst 0, 1) := by decide +kernel
theorem dX8_init_43 : decode cX8_init 43 = .ok (.putfield 31, 3) := by decide +kernel
theorem dX8_init_46 : decode cX8_init 46 = .ok (.aload_n 0, 1) := by decide +kernel
theorem dX8_init_47 : decode cX8_init 47 = .ok (.lconst 0, 1) := by decide +kernel
theorem dX8_init_48 : decode cX8_init 48 = .ok (.putfield 34, 3) := by decide +kernel
theorem dX8_init_51 : decode cX8_init 51 = .ok (.aload_n 0, 1) := by decide +kernel
theorem dX8_init_52 : decode cX8_init 52 = .ok (.aload_n 1, 1) := by decide +kernel
theorem dX8_init_53 : decode cX8_init 53 = .ok (.putfield 38, 3) := by decide +kernel
theorem dX8_init_56 : decode cX8_init 56 = .ok (.return_, 1) := by decide +kernel
theorem dX8_addLetter_0 : decode cX8_addLetter 0 = .ok (.aload_n 0, 1) := by decide +kernel
theorem dX8_addLetter_1 : decode cX8_addLetter 1 = .ok (.getfield 15, 3) := by decide +kernel
theorem dX8_addLetter_4 : decode cX8_addLetter 4 = .ok (.sipush 200, 3) := by decide +kernel
theorem dX8_addLetter_7 : decode cX8_addLetter 7 = .ok (.if_icmp .ge 23, 3) := by decide +kernel
theorem dX8_addLetter_10 : decode cX8_addLetter 10 = .ok (.aload_n 0, 1) := by decide +kernel
theorem dX8_addLetter_11 : decode cX8_addLetter 11 = .ok (.getfield 9, 3) := by decide +kernel
theorem dX8_addLetter_14 : decode cX8_addLetter 14 = .ok (.aload_n 0, 1) := by decide +kernel
theorem dX8_addLetter_15 : decode cX8_addLetter 15 = .ok (.getfield 15, 3) := by decide +kernel
theorem dX8_addLetter_18 : decode cX8_addLetter 18 = .ok (.iload_n 1, 1) := by decide +kernel
theorem dX8_addLetter_19 : decode cX8_addLetter 19 = .ok (.iastore, 1) := by decide +kernel
theorem dX8_addLetter_20 : decode cX8_addLetter 20 = .ok (.aload_n 0, 1) := by decide +kernel
theorem dX8_addLetter_21 : decode cX8_addLetter 21 = .ok (.dup, 1) := by decide +kernel
theorem dX8_addLetter_22 : decode cX8_addLetter 22 = .ok (.getfield 15, 3) := by decide +kernel
theorem dX8_addLetter_25 : decode cX8_addLetter 25 = .ok (.iconst 1, 1) := by decide +kernel
theorem dX8_addLetter_26 : decode cX8_addLetter 26 = .ok (.iadd, 1) := by decide +kernel
theorem dX8_addLetter_27 : decode cX8_addLetter 27 = .ok (.putfield 15, 3) := by decide +kernel
theorem dX8_addLetter_30 : decode cX8_addLetter 30 = .ok (.return_, 1) := by decide +kernel
theorem dX8_tellsNodes_0 : decode cX8_tellsNodes 0 = .ok (.aload_n 0, 1) := by decide +kernel
theorem dX8_tellsNodes_1 : decode cX8_tellsNodes 1 = .ok (.iload_n 1, 1) := by decide +kernel
theorem dX8_tellsNodes_2 : decode cX8_tellsNodes 2 = .ok (.iconst 1, 1) := by decide +kernel
theorem dX8_tellsNodes_3 : decode cX8_tellsNodes 3 = .ok (.invokevirtual 42, 3) := by decide +kernel
theorem dX8_tellsNodes_6 : decode cX8_tellsNodes 6 = .ok (.iconst (-1), 1) := by decide +kernel
theorem dX8_tellsNodes_7 : decode cX8_tellsNodes 7 = .ok (.if_icmp .ne 7, 3) := by decide +kernel
theorem dX8_tellsNodes_10 : decode cX8_tellsNodes 10 = .ok (.iconst 1, 1) := by decide +kernel
theorem dX8_tellsNodes_11 : decode cX8_tellsNodes 11 = .ok (.goto 4, 3) := by decide +kernel
theorem dX8_tellsNodes_14 : decode cX8_tellsNodes 14 = .ok (.iconst 0, 1) := by decide +kernel
theorem dX8_tellsNodes_15 : decode cX8_tellsNodes 15 = .ok (.ireturn, 1) := by decide +kernel
theorem dX8_told_0 : decode cX8_told 0 = .ok (.aload_n 0, 1) := by decide +kernel
theorem dX8_told_1 : decode cX8_told 1 = .ok (.getfield 22, 3) := by decide +kernel
theorem dX8_told_4 : decode cX8_told 4 = .ok (.iload_n 1, 1) := by decide +kernel
theorem dX8_told_5 : decode cX8_told 5 = .ok (.iconst 4, 1) := by decide +kernel
theorem dX8_told_6 : decode cX8_told 6 = .ok (.imul, 1) := by decide +kernel
theorem dX8_told_7 : decode cX8_told 7 = .ok (.iload_n 2, 1) := by decide +kernel
theorem dX8_told_8 : decode cX8_told 8 = .ok (.iadd, 1) := by decide +kernel
theorem dX8_told_9 : decode cX8_told 9 = .ok (.iaload, 1) := by decide +kernel
theorem dX8_told_10 : decode cX8_told 10 = .ok (.ireturn, 1) := by decide +kernel
theorem dX8_findFault_0 : decode cX8_findFault 0 = .ok (.aload_n 0, 1) := by decide +kernel
theorem dX8_findFault_1 : decode cX8_findFault 1 = .ok (.aload_n 0, 1) := by decide +kernel
theorem dX8_findFault_2 : decode cX8_findFault 2 = .ok (.getfield 38, 3) := by decide +kernel
theorem dX8_findFault_5 : decode cX8_findFault 5 = .ok (.getfield 46, 3) := by decide +kernel
theorem dX8_findFault_8 : decode cX8_findFault 8 = .ok (.putfield 31, 3) := by decide +kernel
theorem dX8_findFault_11 : decode cX8_findFault 11 = .ok (.aload_n 0, 1) := by decide +kernel
theorem dX8_findFault_12 : decode cX8_findFault 12 = .ok (.aload_n 0, 1) := by decide +kernel
theorem dX8_findFault_13 : decode cX8_findFault 13 = .ok (.getfield 38, 3) := by decide +kernel
theorem dX8_findFault_16 : decode cX8_findFault 16 = .ok (.invokevirtual 49, 3) := by decide +kernel
theorem dX8_findFault_19 : decode cX8_findFault 19 = .ok (.putfield 34, 3) := by decide +kernel
theorem dX8_findFault_22 : decode cX8_findFault 22 = .ok (.aload_n 0, 1) := by decide +kernel
theorem dX8_findFault_23 : decode cX8_findFault 23 = .ok (.iconst 0, 1) := by decide +kernel
theorem dX8_findFault_24 : decode cX8_findFault 24 = .ok (.putfield 28, 3) := by decide +kernel
theorem dX8_findFault_27 : decode cX8_findFault 27 = .ok (.aload_n 0, 1) := by decide +kernel
theorem dX8_findFault_28 : decode cX8_findFault 28 = .ok (.iconst 0, 1) := by decide +kernel
theorem dX8_findFault_29 : decode cX8_findFault 29 = .ok (.putfield 19, 3) := by decide +kernel
theorem dX8_findFault_32 : decode cX8_findFault 32 = .ok (.iconst 0, 1) := by decide +kernel
theorem dX8_findFault_33 : decode cX8_findFault 33 = .ok (.istore_n 1, 1) := by decide +kernel
theorem dX8_findFault_34 : decode cX8_findFault 34 = .ok (.iload_n 1, 1) := by decide +kernel
theorem dX8_findFault_35 : decode cX8_findFault 35 = .ok (.bipush 24, 2) := by decide +kernel
theorem dX8_findFault_37 : decode cX8_findFault 37 = .ok (.if_icmp .ge 59, 3) := by decide +kernel
theorem dX8_findFault_40 : decode cX8_findFault 40 = .ok (.iload_n 1, 1) := by decide +kernel
theorem dX8_findFault_41 : decode cX8_findFault 41 = .ok (.ifCond .le 12, 3) := by decide +kernel
theorem dX8_findFault_44 : decode cX8_findFault 44 = .ok (.aload_n 0, 1) := by decide +kernel
theorem dX8_findFault_45 : decode cX8_findFault 45 = .ok (.bipush 59, 2) := by decide +kernel
theorem dX8_findFault_47 : decode cX8_findFault 47 = .ok (.invokevirtual 53, 3) := by decide +kernel
theorem dX8_findFault_50 : decode cX8_findFault 50 = .ok (.ifCond .eq 11, 3) := by decide +kernel
theorem dX8_findFault_53 : decode cX8_findFault 53 = .ok (.aload_n 0, 1) := by decide +kernel
theorem dX8_findFault_54 : decode cX8_findFault 54 = .ok (.iload_n 1, 1) := by decide +kernel
theorem dX8_findFault_55 : decode cX8_findFault 55 = .ok (.invokevirtual 57, 3) := by decide +kernel
theorem dX8_findFault_58 : decode cX8_findFault 58 = .ok (.ifCond .ne 8, 3) := by decide +kernel
theorem dX8_findFault_61 : decode cX8_findFault 61 = .ok (.aload_n 0, 1) := by decide +kernel
theorem dX8_findFault_62 : decode cX8_findFault 62 = .ok (.getfield 25, 3) := by decide +kernel
theorem dX8_findFault_65 : decode cX8_findFault 65 = .ok (.ireturn, 1) := by decide +kernel
theorem dX8_findFault_66 : decode cX8_findFault 66 = .ok (.aload_n 0, 1) := by decide +kernel
theorem dX8_findFault_67 : decode cX8_findFault 67 = .ok (.iload_n 1, 1) := by decide +kernel
theorem dX8_findFault_68 : decode cX8_findFault 68 = .ok (.iconst 1, 1) := by decide +kernel
theorem dX8_findFault_69 : decode cX8_findFault 69 = .ok (.iadd, 1) := by decide +kernel
theorem dX8_findFault_70 : decode cX8_findFault 70 = .ok (.putfield 19, 3) := by decide +kernel
theorem dX8_findFault_73 : decode cX8_findFault 73 = .ok (.aload_n 0, 1) := by decide +kernel
theorem dX8_findFault_74 : decode cX8_findFault 74 = .ok (.aload_n 0, 1) := by decide +kernel
theorem dX8_findFault_75 : decode cX8_findFault 75 = .ok (.getfield 28, 3) := by decide +kernel
theorem dX8_findFault_78 : decode cX8_findFault 78 = .ok (.invokevirtual 61, 3) := by decide +kernel
theorem dX8_findFault_81 : decode cX8_findFault 81 = .ok (.aload_n 0, 1) := by decide +kernel
theorem dX8_findFault_82 : decode cX8_findFault 82 = .ok (.getfield 15, 3) := by decide +kernel
theorem dX8_findFault_85 : decode cX8_findFault 85 = .ok (.if_icmp .lt 5, 3) := by decide +kernel
theorem dX8_findFault_88 : decode cX8_findFault 88 = .ok (.iconst (-1), 1) := by decide +kernel
theorem dX8_findFault_89 : decode cX8_findFault 89 = .ok (.ireturn, 1) := by decide +kernel
theorem dX8_findFault_90 : decode cX8_findFault 90 = .ok (.iinc 1 1, 3) := by decide +kernel
theorem dX8_findFault_93 : decode cX8_findFault 93 = .ok (.goto (-59), 3) := by decide +kernel
theorem dX8_findFault_96 : decode cX8_findFault 96 = .ok (.aload_n 0, 1) := by decide +kernel
theorem dX8_findFault_97 : decode cX8_findFault 97 = .ok (.invokevirtual 65, 3) := by decide +kernel
theorem dX8_findFault_100 : decode cX8_findFault 100 = .ok (.aload_n 0, 1) := by decide +kernel
theorem dX8_findFault_101 : decode cX8_findFault 101 = .ok (.getfield 25, 3) := by decide +kernel
theorem dX8_findFault_104 : decode cX8_findFault 104 = .ok (.ireturn, 1) := by decide +kernel
theorem dX8_readClause_0 : decode cX8_readClause 0 = .ok (.aload_n 0, 1) := by decide +kernel
theorem dX8_readClause_1 : decode cX8_readClause 1 = .ok (.invokevirtual 65, 3) := by decide +kernel
theorem dX8_readClause_4 : decode cX8_readClause 4 = .ok (.aload_n 0, 1) := by decide +kernel
theorem dX8_readClause_5 : decode cX8_readClause 5 = .ok (.ldc 68, 2) := by decide +kernel
theorem dX8_readClause_7 : decode cX8_readClause 7 = .ok (.invokevirtual 69, 3) := by decide +kernel
theorem dX8_readClause_10 : decode cX8_readClause 10 = .ok (.ifCond .eq 9, 3) := by decide +kernel
theorem dX8_readClause_13 : decode cX8_readClause 13 = .ok (.aload_n 0, 1) := by decide +kernel
theorem dX8_readClause_14 : decode cX8_readClause 14 = .ok (.iload_n 1, 1) := by decide +kernel
theorem dX8_readClause_15 : decode cX8_readClause 15 = .ok (.invokevirtual 73, 3) := by decide +kernel
theorem dX8_readClause_18 : decode cX8_readClause 18 = .ok (.ireturn, 1) := by decide +kernel
theorem dX8_readClause_19 : decode cX8_readClause 19 = .ok (.aload_n 0, 1) := by decide +kernel
theorem dX8_readClause_20 : decode cX8_readClause 20 = .ok (.ldc 76, 2) := by decide +kernel
theorem dX8_readClause_22 : decode cX8_readClause 22 = .ok (.invokevirtual 69, 3) := by decide +kernel
theorem dX8_readClause_25 : decode cX8_readClause 25 = .ok (.ifCond .eq 15, 3) := by decide +kernel
theorem dX8_readClause_28 : decode cX8_readClause 28 = .ok (.aload_n 0, 1) := by decide +kernel
theorem dX8_readClause_29 : decode cX8_readClause 29 = .ok (.iload_n 1, 1) := by decide +kernel
theorem dX8_readClause_30 : decode cX8_readClause 30 = .ok (.invokevirtual 78, 3) := by decide +kernel
theorem dX8_readClause_33 : decode cX8_readClause 33 = .ok (.ifCond .eq 7, 3) := by decide +kernel
theorem dX8_readClause_36 : decode cX8_readClause 36 = .ok (.iconst 1, 1) := by decide +kernel
theorem dX8_readClause_37 : decode cX8_readClause 37 = .ok (.goto 4, 3) := by decide +kernel
theorem dX8_readClause_40 : decode cX8_readClause 40 = .ok (.iconst 0, 1) := by decide +kernel
theorem dX8_readClause_41 : decode cX8_readClause 41 = .ok (.ireturn, 1) := by decide +kernel
theorem dX8_readNodes_0 : decode cX8_readNodes 0 = .ok (.aload_n 0, 1) := by decide +kernel
theorem dX8_readNodes_1 : decode cX8_readNodes 1 = .ok (.iconst 2, 1) := by decide +kernel
theorem dX8_readNodes_2 : decode cX8_readNodes 2 = .ok (.bipush 8, 2) := by decide +kernel
theorem dX8_readNodes_4 : decode cX8_readNodes 4 = .ok (.invokevirtual 81, 3) := by decide +kernel
theorem dX8_readNodes_7 : decode cX8_readNodes 7 = .ok (.istore_n 2, 1) := by decide +kernel
theorem dX8_readNodes_8 : decode cX8_readNodes 8 = .ok (.iload_n 2, 1) := by decide +kernel
theorem dX8_readNodes_9 : decode cX8_readNodes 9 = .ok (.iconst (-1), 1) := by decide +kernel
theorem dX8_readNodes_10 : decode cX8_readNodes 10 = .ok (.if_icmp .ne 5, 3) := by decide +kernel
theorem dX8_readNodes_13 : decode cX8_readNodes 13 = .ok (.iconst 0, 1) := by decide +kernel
theorem dX8_readNodes_14 : decode cX8_readNodes 14 = .ok (.ireturn, 1) := by decide +kernel
theorem dX8_readNodes_15 : decode cX8_readNodes 15 = .ok (.aload_n 0, 1) := by decide +kernel
theorem dX8_readNodes_16 : decode cX8_readNodes 16 = .ok (.iload_n 2, 1) := by decide +kernel
theorem dX8_readNodes_17 : decode cX8_readNodes 17 = .ok (.putfield 31, 3) := by decide +kernel
theorem dX8_readNodes_20 : decode cX8_readNodes 20 = .ok (.aload_n 0, 1) := by decide +kernel
theorem dX8_readNodes_21 : decode cX8_readNodes 21 = .ok (.lconst 0, 1) := by decide +kernel
theorem dX8_readNodes_22 : decode cX8_readNodes 22 = .ok (.putfield 34, 3) := by decide +kernel
theorem dX8_readNodes_25 : decode cX8_readNodes 25 = .ok (.aload_n 0, 1) := by decide +kernel
theorem dX8_readNodes_26 : decode cX8_readNodes 26 = .ok (.iload_n 1, 1) := by decide +kernel
theorem dX8_readNodes_27 : decode cX8_readNodes 27 = .ok (.iload_n 2, 1) := by decide +kernel
theorem dX8_readNodes_28 : decode cX8_readNodes 28 = .ok (.iconst (-1), 1) := by decide +kernel
theorem dX8_readNodes_29 : decode cX8_readNodes 29 = .ok (.iconst (-1), 1) := by decide +kernel
theorem dX8_readNodes_30 : decode cX8_readNodes 30 = .ok (.iconst (-1), 1) := by decide +kernel
theorem dX8_readNodes_31 : decode cX8_readNodes 31 = .ok (.invokevirtual 84, 3) := by decide +kernel
theorem dX8_readNodes_34 : decode cX8_readNodes 34 = .ok (.iconst 1, 1) := by decide +kernel
theorem dX8_readNodes_35 : decode cX8_readNodes 35 = .ok (.ireturn, 1) := by decide +kernel
theorem dX8_readLink_0 : decode cX8_readLink 0 = .ok (.aload_n 0, 1) := by decide +kernel
theorem dX8_readLink_1 : decode cX8_readLink 1 = .ok (.iconst 0, 1) := by decide +kernel
theorem dX8_readLink_2 : decode cX8_readLink 2 = .ok (.aload_n 0, 1) := by decide +kernel
theorem dX8_readLink_3 : decode cX8_readLink 3 = .ok (.getfield 31, 3) := by decide +kernel
theorem dX8_readLink_6 : decode cX8_readLink 6 = .ok (.iconst 1, 1) := by decide +kernel
theorem dX8_readLink_7 : decode cX8_readLink 7 = .ok (.isub, 1) := by decide +kernel
theorem dX8_readLink_8 : decode cX8_readLink 8 = .ok (.invokevirtual 81, 3) := by decide +kernel
theorem dX8_readLink_11 : decode cX8_readLink 11 = .ok (.istore_n 2, 1) := by decide +kernel
theorem dX8_readLink_12 : decode cX8_readLink 12 = .ok (.iload_n 2, 1) := by decide +kernel
theorem dX8_readLink_13 : decode cX8_readLink 13 = .ok (.iconst (-1), 1) := by decide +kernel
theorem dX8_readLink_14 : decode cX8_readLink 14 = .ok (.if_icmp .ne 5, 3) := by decide +kernel
theorem dX8_readLink_17 : decode cX8_readLink 17 = .ok (.iconst 0, 1) := by decide +kernel
theorem dX8_readLink_18 : decode cX8_readLink 18 = .ok (.ireturn, 1) := by decide +kernel
theorem dX8_readLink_19 : decode cX8_readLink 19 = .ok (.aload_n 0, 1) := by decide +kernel
theorem dX8_readLink_20 : decode cX8_readLink 20 = .ok (.iconst 0, 1) := by decide +kernel
theorem dX8_readLink_21 : decode cX8_readLink 21 = .ok (.aload_n 0, 1) := by decide +kernel
theorem dX8_readLink_22 : decode cX8_readLink 22 = .ok (.getfield 31, 3) := by decide +kernel
theorem dX8_readLink_25 : decode cX8_readLink 25 = .ok (.iconst 1, 1) := by decide +kernel
theorem dX8_readLink_26 : decode cX8_readLink 26 = .ok (.isub, 1) := by decide +kernel
theorem dX8_readLink_27 : decode cX8_readLink 27 = .ok (.invokevirtual 81, 3) := by decide +kernel
theorem dX8_readLink_30 : decode cX8_readLink 30 = .ok (.istore_n 3, 1) := by decide +kernel
theorem dX8_readLink_31 : decode cX8_readLink 31 = .ok (.iload_n 3, 1) := by decide +kernel
theorem dX8_readLink_32 : decode cX8_readLink 32 = .ok (.iconst (-1), 1) := by decide +kernel
theorem dX8_readLink_33 : decode cX8_readLink 33 = .ok (.if_icmp .eq 20, 3) := by decide +kernel
theorem dX8_readLink_36 : decode cX8_readLink 36 = .ok (.iload_n 3, 1) := by decide +kernel
theorem dX8_readLink_37 : decode cX8_readLink 37 = .ok (.iload_n 2, 1) := by decide +kernel
theorem dX8_readLink_38 : decode cX8_readLink 38 = .ok (.if_icmp .eq 15, 3) := by decide +kernel
theorem dX8_readLink_41 : decode cX8_readLink 41 = .ok (.aload_n 0, 1) := by decide +kernel
theorem dX8_readLink_42 : decode cX8_readLink 42 = .ok (.iload_n 2, 1) := by decide +kernel
theorem dX8_readLink_43 : decode cX8_readLink 43 = .ok (.iload_n 3, 1) := by decide +kernel
theorem dX8_readLink_44 : decode cX8_readLink 44 = .ok (.invokestatic 88, 3) := by decide +kernel
theorem dX8_readLink_47 : decode cX8_readLink 47 = .ok (.invokevirtual 92, 3) := by decide +kernel
theorem dX8_readLink_50 : decode cX8_readLink 50 = .ok (.ifCond .eq 5, 3) := by decide +kernel
theorem dX8_readLink_53 : decode cX8_readLink 53 = .ok (.iconst 0, 1) := by decide +kernel
theorem dX8_readLink_54 : decode cX8_readLink 54 = .ok (.ireturn, 1) := by decide +kernel
theorem dX8_readLink_55 : decode cX8_readLink 55 = .ok (.aload_n 0, 1) := by decide +kernel
theorem dX8_readLink_56 : decode cX8_readLink 56 = .ok (.iconst 1, 1) := by decide +kernel
theorem dX8_readLink_57 : decode cX8_readLink 57 = .ok (.bipush 9, 2) := by decide +kernel
theorem dX8_readLink_59 : decode cX8_readLink 59 = .ok (.invokevirtual 81, 3) := by decide +kernel
theorem dX8_readLink_62 : decode cX8_readLink 62 = .ok (.istore 4, 2) := by decide +kernel
theorem dX8_readLink_64 : decode cX8_readLink 64 = .ok (.iload 4, 2) := by decide +kernel
theorem dX8_readLink_66 : decode cX8_readLink 66 = .ok (.iconst (-1), 1) := by decide +kernel
theorem dX8_readLink_67 : decode cX8_readLink 67 = .ok (.if_icmp .ne 5, 3) := by decide +kernel
theorem dX8_readLink_70 : decode cX8_readLink 70 = .ok (.iconst 0, 1) := by decide +kernel
theorem dX8_readLink_71 : decode cX8_readLink 71 = .ok (.ireturn, 1) := by decide +kernel
theorem dX8_readLink_72 : decode cX8_readLink 72 = .ok (.aload_n 0, 1) := by decide +kernel
theorem dX8_readLink_73 : decode cX8_readLink 73 = .ok (.iconst 1, 1) := by decide +kernel
theorem dX8_readLink_74 : decode cX8_readLink 74 = .ok (.bipush 9, 2) := by decide +kernel
theorem dX8_readLink_76 : decode cX8_readLink 76 = .ok (.invokevirtual 81, 3) := by decide +kernel
theorem dX8_readLink_79 : decode cX8_readLink 79 = .ok (.istore 5, 2) := by decide +kernel
theorem dX8_readLink_81 : decode cX8_readLink 81 = .ok (.iload 5, 2) := by decide +kernel
theorem dX8_readLink_83 : decode cX8_readLink 83 = .ok (.iconst (-1), 1) := by decide +kernel
theorem dX8_readLink_84 : decode cX8_readLink 84 = .ok (.if_icmp .ne 5, 3) := by decide +kernel
theorem dX8_readLink_87 : decode cX8_readLink 87 = .ok (.iconst 0, 1) := by decide +kernel
theorem dX8_readLink_88 : decode cX8_readLink 88 = .ok (.ireturn, 1) := by decide +kernel
theorem dX8_readLink_89 : decode cX8_readLink 89 = .ok (.aload_n 0, 1) := by decide +kernel
theorem dX8_readLink_90 : decode cX8_readLink 90 = .ok (.dup, 1) := by decide +kernel
theorem dX8_readLink_91 : decode cX8_readLink 91 = .ok (.getfield 34, 3) := by decide +kernel
theorem dX8_readLink_94 : decode cX8_readLink 94 = .ok (.iload_n 2, 1) := by decide +kernel
theorem dX8_readLink_95 : decode cX8_readLink 95 = .ok (.iload_n 3, 1) := by decide +kernel
theorem dX8_readLink_96 : decode cX8_readLink 96 = .ok (.invokestatic 88, 3) := by decide +kernel
theorem dX8_readLink_99 : decode cX8_readLink 99 = .ok (.lor, 1) := by decide +kernel
theorem dX8_readLink_100 : decode cX8_readLink 100 = .ok (.putfield 34, 3) := by decide +kernel
theorem dX8_readLink_103 : decode cX8_readLink 103 = .ok (.aload_n 0, 1) := by decide +kernel
theorem dX8_readLink_104 : decode cX8_readLink 104 = .ok (.iload_n 1, 1) := by decide +kernel
theorem dX8_readLink_105 : decode cX8_readLink 105 = .ok (.iload_n 2, 1) := by decide +kernel
theorem dX8_readLink_106 : decode cX8_readLink 106 = .ok (.iload_n 3, 1) := by decide +kernel
theorem dX8_readLink_107 : decode cX8_readLink 107 = .ok (.iload 4, 2) := by decide +kernel
theorem dX8_readLink_109 : decode cX8_readLink 109 = .ok (.iload 5, 2) := by decide +kernel
theorem dX8_readLink_111 : decode cX8_readLink 111 = .ok (.invokevirtual 84, 3) := by decide +kernel
theorem dX8_readLink_114 : decode cX8_readLink 114 = .ok (.iconst 1, 1) := by decide +kernel
theorem dX8_readLink_115 : decode cX8_readLink 115 = .ok (.ireturn, 1) := by decide +kernel
theorem dX8_isTooMany_0 : decode cX8_isTooMany 0 = .ok (.aload_n 0, 1) := by decide +kernel
theorem dX8_isTooMany_1 : decode cX8_isTooMany 1 = .ok (.getfield 34, 3) := by decide +kernel
theorem dX8_isTooMany_4 : decode cX8_isTooMany 4 = .ok (.lload_n 1, 1) := by decide +kernel
theorem dX8_isTooMany_5 : decode cX8_isTooMany 5 = .ok (.land, 1) := by decide +kernel
theorem dX8_isTooMany_6 : decode cX8_isTooMany 6 = .ok (.lconst 0, 1) := by decide +kernel
theorem dX8_isTooMany_7 : decode cX8_isTooMany 7 = .ok (.lcmp, 1) := by decide +kernel
theorem dX8_isTooMany_8 : decode cX8_isTooMany 8 = .ok (.ifCond .ne 19, 3) := by decide +kernel
theorem dX8_isTooMany_11 : decode cX8_isTooMany 11 = .ok (.aload_n 0, 1) := by decide +kernel
theorem dX8_isTooMany_12 : decode cX8_isTooMany 12 = .ok (.getfield 34, 3) := by decide +kernel
theorem dX8_isTooMany_15 : decode cX8_isTooMany 15 = .ok (.invokestatic 96, 3) := by decide +kernel
theorem dX8_isTooMany_18 : decode cX8_isTooMany 18 = .ok (.bipush 14, 2) := by decide +kernel
theorem dX8_isTooMany_20 : decode cX8_isTooMany 20 = .ok (.if_icmp .lt 7, 3) := by decide +kernel
theorem dX8_isTooMany_23 : decode cX8_isTooMany 23 = .ok (.iconst 1, 1) := by decide +kernel
theorem dX8_isTooMany_24 : decode cX8_isTooMany 24 = .ok (.goto 4, 3) := by decide +kernel
theorem dX8_isTooMany_27 : decode cX8_isTooMany 27 = .ok (.iconst 0, 1) := by decide +kernel
theorem dX8_isTooMany_28 : decode cX8_isTooMany 28 = .ok (.ireturn, 1) := by decide +kernel
theorem dX8_keep_0 : decode cX8_keep 0 = .ok (.iload_n 1, 1) := by decide +kernel
theorem dX8_keep_1 : decode cX8_keep 1 = .ok (.iconst 4, 1) := by decide +kernel
theorem dX8_keep_2 : decode cX8_keep 2 = .ok (.imul, 1) := by decide +kernel
theorem dX8_keep_3 : decode cX8_keep 3 = .ok (.istore 6, 2) := by decide +kernel
theorem dX8_keep_5 : decode cX8_keep 5 = .ok (.aload_n 0, 1) := by decide +kernel
theorem dX8_keep_6 : decode cX8_keep 6 = .ok (.getfield 22, 3) := by decide +kernel
theorem dX8_keep_9 : decode cX8_keep 9 = .ok (.iload 6, 2) := by decide +kernel
theorem dX8_keep_11 : decode cX8_keep 11 = .ok (.iload_n 2, 1) := by decide +kernel
theorem dX8_keep_12 : decode cX8_keep 12 = .ok (.iastore, 1) := by decide +kernel
theorem dX8_keep_13 : decode cX8_keep 13 = .ok (.aload_n 0, 1) := by decide +kernel
theorem dX8_keep_14 : decode cX8_keep 14 = .ok (.getfield 22, 3) := by decide +kernel
theorem dX8_keep_17 : decode cX8_keep 17 = .ok (.iload 6, 2) := by decide +kernel
theorem dX8_keep_19 : decode cX8_keep 19 = .ok (.iconst 1, 1) := by decide +kernel
theorem dX8_keep_20 : decode cX8_keep 20 = .ok (.iadd, 1) := by decide +kernel
theorem dX8_keep_21 : decode cX8_keep 21 = .ok (.iload_n 3, 1) := by decide +kernel
theorem dX8_keep_22 : decode cX8_keep 22 = .ok (.iastore, 1) := by decide +kernel
theorem dX8_keep_23 : decode cX8_keep 23 = .ok (.aload_n 0, 1) := by decide +kernel
theorem dX8_keep_24 : decode cX8_keep 24 = .ok (.getfield 22, 3) := by decide +kernel
theorem dX8_keep_27 : decode cX8_keep 27 = .ok (.iload 6, 2) := by decide +kernel
theorem dX8_keep_29 : decode cX8_keep 29 = .ok (.iconst 2, 1) := by decide +kernel
theorem dX8_keep_30 : decode cX8_keep 30 = .ok (.iadd, 1) := by decide +kernel
theorem dX8_keep_31 : decode cX8_keep 31 = .ok (.iload 4, 2) := by decide +kernel
theorem dX8_keep_33 : decode cX8_keep 33 = .ok (.iastore, 1) := by decide +kernel
theorem dX8_keep_34 : decode cX8_keep 34 = .ok (.aload_n 0, 1) := by decide +kernel
theorem dX8_keep_35 : decode cX8_keep 35 = .ok (.getfield 22, 3) := by decide +kernel
theorem dX8_keep_38 : decode cX8_keep 38 = .ok (.iload 6, 2) := by decide +kernel
theorem dX8_keep_40 : decode cX8_keep 40 = .ok (.iconst 3, 1) := by decide +kernel
theorem dX8_keep_41 : decode cX8_keep 41 = .ok (.iadd, 1) := by decide +kernel
theorem dX8_keep_42 : decode cX8_keep 42 = .ok (.iload 5, 2) := by decide +kernel
theorem dX8_keep_44 : decode cX8_keep 44 = .ok (.iastore, 1) := by decide +kernel
theorem dX8_keep_45 : decode cX8_keep 45 = .ok (.return_, 1) := by decide +kernel
theorem dX8_readSign_0 : decode cX8_readSign 0 = .ok (.aload_n 0, 1) := by decide +kernel
theorem dX8_readSign_1 : decode cX8_readSign 1 = .ok (.invokevirtual 65, 3) := by decide +kernel
theorem dX8_readSign_4 : decode cX8_readSign 4 = .ok (.aload_n 0, 1) := by decide +kernel
theorem dX8_readSign_5 : decode cX8_readSign 5 = .ok (.getfield 28, 3) := by decide +kernel
theorem dX8_readSign_8 : decode cX8_readSign 8 = .ok (.aload_n 0, 1) := by decide +kernel
theorem dX8_readSign_9 : decode cX8_readSign 9 = .ok (.getfield 25, 3) := by decide +kernel
theorem dX8_readSign_12 : decode cX8_readSign 12 = .ok (.isub, 1) := by decide +kernel
theorem dX8_readSign_13 : decode cX8_readSign 13 = .ok (.iconst 1, 1) := by decide +kernel
theorem dX8_readSign_14 : decode cX8_readSign 14 = .ok (.if_icmp .ne 20, 3) := by decide +kernel
theorem dX8_readSign_17 : decode cX8_readSign 17 = .ok (.aload_n 0, 1) := by decide +kernel
theorem dX8_readSign_18 : decode cX8_readSign 18 = .ok (.getfield 9, 3) := by decide +kernel
theorem dX8_readSign_21 : decode cX8_readSign 21 = .ok (.aload_n 0, 1) := by decide +kernel
theorem dX8_readSign_22 : decode cX8_readSign 22 = .ok (.getfield 25, 3) := by decide +kernel
theorem dX8_readSign_25 : decode cX8_readSign 25 = .ok (.iaload, 1) := by decide +kernel
theorem dX8_readSign_26 : decode cX8_readSign 26 = .ok (.iload_n 1, 1) := by decide +kernel
theorem dX8_readSign_27 : decode cX8_readSign 27 = .ok (.if_icmp .ne 7, 3) := by decide +kernel
theorem dX8_readSign_30 : decode cX8_readSign 30 = .ok (.iconst 1, 1) := by decide +kernel
theorem dX8_readSign_31 : decode cX8_readSign 31 = .ok (.goto 4, 3) := by decide +kernel
theorem dX8_readSign_34 : decode cX8_readSign 34 = .ok (.iconst 0, 1) := by decide +kernel
theorem dX8_readSign_35 : decode cX8_readSign 35 = .ok (.ireturn, 1) := by decide +kernel
theorem dX8_readNumber_0 : decode cX8_readNumber 0 = .ok (.aload_n 0, 1) := by decide +kernel
theorem dX8_readNumber_1 : decode cX8_readNumber 1 = .ok (.invokevirtual 65, 3) := by decide +kernel
theorem dX8_readNumber_4 : decode cX8_readNumber 4 = .ok (.aload_n 0, 1) := by decide +kernel
theorem dX8_readNumber_5 : decode cX8_readNumber 5 = .ok (.getfield 28, 3) := by decide +kernel
theorem dX8_readNumber_8 : decode cX8_readNumber 8 = .ok (.aload_n 0, 1) := by decide +kernel
theorem dX8_readNumber_9 : decode cX8_readNumber 9 = .ok (.getfield 25, 3) := by decide +kernel
theorem dX8_readNumber_12 : decode cX8_readNumber 12 = .ok (.isub, 1) := by decide +kernel
theorem dX8_readNumber_13 : decode cX8_readNumber 13 = .ok (.iconst 1, 1) := by decide +kernel
theorem dX8_readNumber_14 : decode cX8_readNumber 14 = .ok (.if_icmp .eq 5, 3) := by decide +kernel
theorem dX8_readNumber_17 : decode cX8_readNumber 17 = .ok (.iconst (-1), 1) := by decide +kernel
theorem dX8_readNumber_18 : decode cX8_readNumber 18 = .ok (.ireturn, 1) := by decide +kernel
theorem dX8_readNumber_19 : decode cX8_readNumber 19 = .ok (.aload_n 0, 1) := by decide +kernel
theorem dX8_readNumber_20 : decode cX8_readNumber 20 = .ok (.getfield 9, 3) := by decide +kernel
theorem dX8_readNumber_23 : decode cX8_readNumber 23 = .ok (.aload_n 0, 1) := by decide +kernel
theorem dX8_readNumber_24 : decode cX8_readNumber 24 = .ok (.getfield 25, 3) := by decide +kernel
theorem dX8_readNumber_27 : decode cX8_readNumber 27 = .ok (.iaload, 1) := by decide +kernel
theorem dX8_readNumber_28 : decode cX8_readNumber 28 = .ok (.bipush 48, 2) := by decide +kernel
theorem dX8_readNumber_30 : decode cX8_readNumber 30 = .ok (.isub, 1) := by decide +kernel
theorem dX8_readNumber_31 : decode cX8_readNumber 31 = .ok (.istore_n 3, 1) := by decide +kernel
theorem dX8_readNumber_32 : decode cX8_readNumber 32 = .ok (.iload_n 3, 1) := by decide +kernel
theorem dX8_readNumber_33 : decode cX8_readNumber 33 = .ok (.iload_n 1, 1) := by decide +kernel
theorem dX8_readNumber_34 : decode cX8_readNumber 34 = .ok (.if_icmp .lt 12, 3) := by decide +kernel
theorem dX8_readNumber_37 : decode cX8_readNumber 37 = .ok (.iload_n 3, 1) := by decide +kernel
theorem dX8_readNumber_38 : decode cX8_readNumber 38 = .ok (.iload_n 2, 1) := by decide +kernel
theorem dX8_readNumber_39 : decode cX8_readNumber 39 = .ok (.if_icmp .gt 7, 3) := by decide +kernel
theorem dX8_readNumber_42 : decode cX8_readNumber 42 = .ok (.iload_n 3, 1) := by decide +kernel
theorem dX8_readNumber_43 : decode cX8_readNumber 43 = .ok (.goto 4, 3) := by decide +kernel
theorem dX8_readNumber_46 : decode cX8_readNumber 46 = .ok (.iconst (-1), 1) := by decide +kernel
theorem dX8_readNumber_47 : decode cX8_readNumber 47 = .ok (.ireturn, 1) := by decide +kernel
theorem dX8_isWord_0 : decode cX8_isWord 0 = .ok (.aload_n 0, 1) := by decide +kernel
theorem dX8_isWord_1 : decode cX8_isWord 1 = .ok (.getfield 28, 3) := by decide +kernel
theorem dX8_isWord_4 : decode cX8_isWord 4 = .ok (.aload_n 0, 1) := by decide +kernel
theorem dX8_isWord_5 : decode cX8_isWord 5 = .ok (.getfield 25, 3) := by decide +kernel
theorem dX8_isWord_8 : decode cX8_isWord 8 = .ok (.isub, 1) := by decide +kernel
theorem dX8_isWord_9 : decode cX8_isWord 9 = .ok (.aload_n 1, 1) := by decide +kernel
theorem dX8_isWord_10 : decode cX8_isWord 10 = .ok (.invokevirtual 102, 3) := by decide +kernel
theorem dX8_isWord_13 : decode cX8_isWord 13 = .ok (.if_icmp .eq 5, 3) := by decide +kernel
theorem dX8_isWord_16 : decode cX8_isWord 16 = .ok (.iconst 0, 1) := by decide +kernel
theorem dX8_isWord_17 : decode cX8_isWord 17 = .ok (.ireturn, 1) := by decide +kernel
theorem dX8_isWord_18 : decode cX8_isWord 18 = .ok (.iconst 0, 1) := by decide +kernel
theorem dX8_isWord_19 : decode cX8_isWord 19 = .ok (.istore_n 2, 1) := by decide +kernel
theorem dX8_isWord_20 : decode cX8_isWord 20 = .ok (.iload_n 2, 1) := by decide +kernel
theorem dX8_isWord_21 : decode cX8_isWord 21 = .ok (.aload_n 1, 1) := by decide +kernel
theorem dX8_isWord_22 : decode cX8_isWord 22 = .ok (.invokevirtual 102, 3) := by decide +kernel
theorem dX8_isWord_25 : decode cX8_isWord 25 = .ok (.if_icmp .ge 30, 3) := by decide +kernel
theorem dX8_isWord_28 : decode cX8_isWord 28 = .ok (.aload_n 0, 1) := by decide +kernel
theorem dX8_isWord_29 : decode cX8_isWord 29 = .ok (.getfield 9, 3) := by decide +kernel
theorem dX8_isWord_32 : decode cX8_isWord 32 = .ok (.aload_n 0, 1) := by decide +kernel
theorem dX8_isWord_33 : decode cX8_isWord 33 = .ok (.getfield 25, 3) := by decide +kernel
theorem dX8_isWord_36 : decode cX8_isWord 36 = .ok (.iload_n 2, 1) := by decide +kernel
theorem dX8_isWord_37 : decode cX8_isWord 37 = .ok (.iadd, 1) := by decide +kernel
theorem dX8_isWord_38 : decode cX8_isWord 38 = .ok (.iaload, 1) := by decide +kernel
theorem dX8_isWord_39 : decode cX8_isWord 39 = .ok (.aload_n 1, 1) := by decide +kernel
theorem dX8_isWord_40 : decode cX8_isWord 40 = .ok (.iload_n 2, 1) := by decide +kernel
theorem dX8_isWord_41 : decode cX8_isWord 41 = .ok (.invokevirtual 107, 3) := by decide +kernel
theorem dX8_isWord_44 : decode cX8_isWord 44 = .ok (.if_icmp .eq 5, 3) := by decide +kernel
theorem dX8_isWord_47 : decode cX8_isWord 47 = .ok (.iconst 0, 1) := by decide +kernel
theorem dX8_isWord_48 : decode cX8_isWord 48 = .ok (.ireturn, 1) := by decide +kernel
theorem dX8_isWord_49 : decode cX8_isWord 49 = .ok (.iinc 2 1, 3) := by decide +kernel
theorem dX8_isWord_52 : decode cX8_isWord 52 = .ok (.goto (-32), 3) := by decide +kernel
theorem dX8_isWord_55 : decode cX8_isWord 55 = .ok (.iconst 1, 1) := by decide +kernel
theorem dX8_isWord_56 : decode cX8_isWord 56 = .ok (.ireturn, 1) := by decide +kernel
theorem dX8_readToken_0 : decode cX8_readToken 0 = .ok (.aload_n 0, 1) := by decide +kernel
theorem dX8_readToken_1 : decode cX8_readToken 1 = .ok (.aload_n 0, 1) := by decide +kernel
theorem dX8_readToken_2 : decode cX8_readToken 2 = .ok (.aload_n 0, 1) := by decide +kernel
theorem dX8_readToken_3 : decode cX8_readToken 3 = .ok (.getfield 28, 3) := by decide +kernel
theorem dX8_readToken_6 : decode cX8_readToken 6 = .ok (.invokevirtual 61, 3) := by decide +kernel
theorem dX8_readToken_9 : decode cX8_readToken 9 = .ok (.putfield 25, 3) := by decide +kernel
theorem dX8_readToken_12 : decode cX8_readToken 12 = .ok (.aload_n 0, 1) := by decide +kernel
theorem dX8_readToken_13 : decode cX8_readToken 13 = .ok (.aload_n 0, 1) := by decide +kernel
theorem dX8_readToken_14 : decode cX8_readToken 14 = .ok (.getfield 25, 3) := by decide +kernel
theorem dX8_readToken_17 : decode cX8_readToken 17 = .ok (.putfield 28, 3) := by decide +kernel
theorem dX8_readToken_20 : decode cX8_readToken 20 = .ok (.aload_n 0, 1) := by decide +kernel
theorem dX8_readToken_21 : decode cX8_readToken 21 = .ok (.getfield 25, 3) := by decide +kernel
theorem dX8_readToken_24 : decode cX8_readToken 24 = .ok (.aload_n 0, 1) := by decide +kernel
theorem dX8_readToken_25 : decode cX8_readToken 25 = .ok (.getfield 15, 3) := by decide +kernel
theorem dX8_readToken_28 : decode cX8_readToken 28 = .ok (.if_icmp .lt 4, 3) := by decide +kernel
theorem dX8_readToken_31 : decode cX8_readToken 31 = .ok (.return_, 1) := by decide +kernel
theorem dX8_readToken_32 : decode cX8_readToken 32 = .ok (.aload_n 0, 1) := by decide +kernel
theorem dX8_readToken_33 : decode cX8_readToken 33 = .ok (.getfield 9, 3) := by decide +kernel
theorem dX8_readToken_36 : decode cX8_readToken 36 = .ok (.aload_n 0, 1) := by decide +kernel
theorem dX8_readToken_37 : decode cX8_readToken 37 = .ok (.getfield 25, 3) := by decide +kernel
theorem dX8_readToken_40 : decode cX8_readToken 40 = .ok (.iaload, 1) := by decide +kernel
theorem dX8_readToken_41 : decode cX8_readToken 41 = .ok (.invokestatic 111, 3) := by decide +kernel
theorem dX8_readToken_44 : decode cX8_readToken 44 = .ok (.istore_n 1, 1) := by decide +kernel
theorem dX8_readToken_45 : decode cX8_readToken 45 = .ok (.aload_n 0, 1) := by decide +kernel
theorem dX8_readToken_46 : decode cX8_readToken 46 = .ok (.dup, 1) := by decide +kernel
theorem dX8_readToken_47 : decode cX8_readToken 47 = .ok (.getfield 28, 3) := by decide +kernel
theorem dX8_readToken_50 : decode cX8_readToken 50 = .ok (.iconst 1, 1) := by decide +kernel
theorem dX8_readToken_51 : decode cX8_readToken 51 = .ok (.iadd, 1) := by decide +kernel
theorem dX8_readToken_52 : decode cX8_readToken 52 = .ok (.putfield 28, 3) := by decide +kernel
theorem dX8_readToken_55 : decode cX8_readToken 55 = .ok (.iload_n 1, 1) := by decide +kernel
theorem dX8_readToken_56 : decode cX8_readToken 56 = .ok (.ifCond .eq 43, 3) := by decide +kernel
theorem dX8_readToken_59 : decode cX8_readToken 59 = .ok (.aload_n 0, 1) := by decide +kernel
theorem dX8_readToken_60 : decode cX8_readToken 60 = .ok (.getfield 28, 3) := by decide +kernel
theorem dX8_readToken_63 : decode cX8_readToken 63 = .ok (.aload_n 0, 1) := by decide +kernel
theorem dX8_readToken_64 : decode cX8_readToken 64 = .ok (.getfield 15, 3) := by decide +kernel
theorem dX8_readToken_67 : decode cX8_readToken 67 = .ok (.if_icmp .ge 32, 3) := by decide +kernel
theorem dX8_readToken_70 : decode cX8_readToken 70 = .ok (.aload_n 0, 1) := by decide +kernel
theorem dX8_readToken_71 : decode cX8_readToken 71 = .ok (.getfield 9, 3) := by decide +kernel
theorem dX8_readToken_74 : decode cX8_readToken 74 = .ok (.aload_n 0, 1) := by decide +kernel
theorem dX8_readToken_75 : decode cX8_readToken 75 = .ok (.getfield 28, 3) := by decide +kernel
theorem dX8_readToken_78 : decode cX8_readToken 78 = .ok (.iaload, 1) := by decide +kernel
theorem dX8_readToken_79 : decode cX8_readToken 79 = .ok (.invokestatic 111, 3) := by decide +kernel
theorem dX8_readToken_82 : decode cX8_readToken 82 = .ok (.iload_n 1, 1) := by decide +kernel
theorem dX8_readToken_83 : decode cX8_readToken 83 = .ok (.if_icmp .ne 16, 3) := by decide +kernel
theorem dX8_readToken_86 : decode cX8_readToken 86 = .ok (.aload_n 0, 1) := by decide +kernel
theorem dX8_readToken_87 : decode cX8_readToken 87 = .ok (.dup, 1) := by decide +kernel
theorem dX8_readToken_88 : decode cX8_readToken 88 = .ok (.getfield 28, 3) := by decide +kernel
theorem dX8_readToken_91 : decode cX8_readToken 91 = .ok (.iconst 1, 1) := by decide +kernel
theorem dX8_readToken_92 : decode cX8_readToken 92 = .ok (.iadd, 1) := by decide +kernel
theorem dX8_readToken_93 : decode cX8_readToken 93 = .ok (.putfield 28, 3) := by decide +kernel
theorem dX8_readToken_96 : decode cX8_readToken 96 = .ok (.goto (-41), 3) := by decide +kernel
theorem dX8_readToken_99 : decode cX8_readToken 99 = .ok (.return_, 1) := by decide +kernel
theorem dX8_skipBlanks_0 : decode cX8_skipBlanks 0 = .ok (.iload_n 1, 1) := by decide +kernel
theorem dX8_skipBlanks_1 : decode cX8_skipBlanks 1 = .ok (.istore_n 2, 1) := by decide +kernel
theorem dX8_skipBlanks_2 : decode cX8_skipBlanks 2 = .ok (.iload_n 2, 1) := by decide +kernel
theorem dX8_skipBlanks_3 : decode cX8_skipBlanks 3 = .ok (.aload_n 0, 1) := by decide +kernel
theorem dX8_skipBlanks_4 : decode cX8_skipBlanks 4 = .ok (.getfield 15, 3) := by decide +kernel
theorem dX8_skipBlanks_7 : decode cX8_skipBlanks 7 = .ok (.if_icmp .ge 20, 3) := by decide +kernel
theorem dX8_skipBlanks_10 : decode cX8_skipBlanks 10 = .ok (.aload_n 0, 1) := by decide +kernel
theorem dX8_skipBlanks_11 : decode cX8_skipBlanks 11 = .ok (.getfield 9, 3) := by decide +kernel
theorem dX8_skipBlanks_14 : decode cX8_skipBlanks 14 = .ok (.iload_n 2, 1) := by decide +kernel
theorem dX8_skipBlanks_15 : decode cX8_skipBlanks 15 = .ok (.iaload, 1) := by decide +kernel
theorem dX8_skipBlanks_16 : decode cX8_skipBlanks 16 = .ok (.bipush 32, 2) := by decide +kernel
theorem dX8_skipBlanks_18 : decode cX8_skipBlanks 18 = .ok (.if_icmp .ne 9, 3) := by decide +kernel
theorem dX8_skipBlanks_21 : decode cX8_skipBlanks 21 = .ok (.iinc 2 1, 3) := by decide +kernel
theorem dX8_skipBlanks_24 : decode cX8_skipBlanks 24 = .ok (.goto (-22), 3) := by decide +kernel
theorem dX8_skipBlanks_27 : decode cX8_skipBlanks 27 = .ok (.iload_n 2, 1) := by decide +kernel
theorem dX8_skipBlanks_28 : decode cX8_skipBlanks 28 = .ok (.ireturn, 1) := by decide +kernel
theorem dX8_rowOf_0 : decode cX8_rowOf 0 = .ok (.iload_n 0, 1) := by decide +kernel
theorem dX8_rowOf_1 : decode cX8_rowOf 1 = .ok (.bipush 97, 2) := by decide +kernel
theorem dX8_rowOf_3 : decode cX8_rowOf 3 = .ok (.if_icmp .lt 11, 3) := by decide +kernel
theorem dX8_rowOf_6 : decode cX8_rowOf 6 = .ok (.iload_n 0, 1) := by decide +kernel
theorem dX8_rowOf_7 : decode cX8_rowOf 7 = .ok (.bipush 122, 2) := by decide +kernel
theorem dX8_rowOf_9 : decode cX8_rowOf 9 = .ok (.if_icmp .gt 5, 3) := by decide +kernel
theorem dX8_rowOf_12 : decode cX8_rowOf 12 = .ok (.iconst 1, 1) := by decide +kernel
theorem dX8_rowOf_13 : decode cX8_rowOf 13 = .ok (.ireturn, 1) := by decide +kernel
theorem dX8_rowOf_14 : decode cX8_rowOf 14 = .ok (.iload_n 0, 1) := by decide +kernel
theorem dX8_rowOf_15 : decode cX8_rowOf 15 = .ok (.bipush 48, 2) := by decide +kernel
theorem dX8_rowOf_17 : decode cX8_rowOf 17 = .ok (.if_icmp .lt 13, 3) := by decide +kernel
theorem dX8_rowOf_20 : decode cX8_rowOf 20 = .ok (.iload_n 0, 1) := by decide +kernel
theorem dX8_rowOf_21 : decode cX8_rowOf 21 = .ok (.bipush 57, 2) := by decide +kernel
theorem dX8_rowOf_23 : decode cX8_rowOf 23 = .ok (.if_icmp .gt 7, 3) := by decide +kernel
theorem dX8_rowOf_26 : decode cX8_rowOf 26 = .ok (.iconst 2, 1) := by decide +kernel
theorem dX8_rowOf_27 : decode cX8_rowOf 27 = .ok (.goto 4, 3) := by decide +kernel
theorem dX8_rowOf_30 : decode cX8_rowOf 30 = .ok (.iconst 0, 1) := by decide +kernel
theorem dX8_rowOf_31 : decode cX8_rowOf 31 = .ok (.ireturn, 1) := by decide +kernel
theorem dX9_init_0 : decode cX9_init 0 = .ok (.aload_n 0, 1) := by decide +kernel
theorem dX9_init_1 : decode cX9_init 1 = .ok (.invokespecial 1, 3) := by decide +kernel
theorem dX9_init_4 : decode cX9_init 4 = .ok (.aload_n 0, 1) := by decide +kernel
theorem dX9_init_5 : decode cX9_init 5 = .ok (.new 7, 3) := by decide +kernel
theorem dX9_init_8 : decode cX9_init 8 = .ok (.dup, 1) := by decide +kernel
theorem dX9_init_9 : decode cX9_init 9 = .ok (.invokespecial 9, 3) := by decide +kernel
theorem dX9_init_12 : decode cX9_init 12 = .ok (.putfield 10, 3) := by decide +kernel
theorem dX9_init_15 : decode cX9_init 15 = .ok (.aload_n 0, 1) := by decide +kernel
theorem dX9_init_16 : decode cX9_init 16 = .ok (.new 16, 3) := by decide +kernel
theorem dX9_init_19 : decode cX9_init 19 = .ok (.dup, 1) := by decide +kernel
theorem dX9_init_20 : decode cX9_init 20 = .ok (.aload_n 0, 1) := by decide +kernel
theorem dX9_init_21 : decode cX9_init 21 = .ok (.getfield 10, 3) := by decide +kernel
theorem dX9_init_24 : decode cX9_init 24 = .ok (.invokespecial 18, 3) := by decide +kernel
theorem dX9_init_27 : decode cX9_init 27 = .ok (.putfield 21, 3) := by decide +kernel
theorem dX9_init_30 : decode cX9_init 30 = .ok (.aload_n 0, 1) := by decide +kernel
theorem dX9_init_31 : decode cX9_init 31 = .ok (.new 25, 3) := by decide +kernel
theorem dX9_init_34 : decode cX9_init 34 = .ok (.dup, 1) := by decide +kernel
theorem dX9_init_35 : decode cX9_init 35 = .ok (.aload_n 0, 1) := by decide +kernel
theorem dX9_init_36 : decode cX9_init 36 = .ok (.getfield 10, 3) := by decide +kernel
theorem dX9_init_39 : decode cX9_init 39 = .ok (.invokespecial 27, 3) := by decide +kernel
theorem dX9_init_42 : decode cX9_init 42 = .ok (.putfield 28, 3) := by decide +kernel
theorem dX9_init_45 : decode cX9_init 45 = .ok (.aload_n 0, 1) := by decide +kernel
theorem dX9_init_46 : decode cX9_init 46 = .ok (.new 32, 3) := by decide +kernel
theorem dX9_init_49 : decode cX9_init 49 = .ok (.dup, 1) := by decide +kernel
theorem dX9_init_50 : decode cX9_init 50 = .ok (.aload_n 0, 1) := by decide +kernel
theorem dX9_init_51 : decode cX9_init 51 = .ok (.getfield 10, 3) := by decide +kernel
theorem dX9_init_54 : decode cX9_init 54 = .ok (.invokespecial 34, 3) := by decide +kernel
theorem dX9_init_57 : decode cX9_init 57 = .ok (.putfield 35, 3) := by decide +kernel
theorem dX9_init_60 : decode cX9_init 60 = .ok (.aload_n 0, 1) := by decide +kernel
theorem dX9_init_61 : decode cX9_init 61 = .ok (.new 39, 3) := by decide +kernel
theorem dX9_init_64 : decode cX9_init 64 = .ok (.dup, 1) := by decide +kernel
theorem dX9_init_65 : decode cX9_init 65 = .ok (.aload_n 0, 1) := by decide +kernel
theorem dX9_init_66 : decode cX9_init 66 = .ok (.getfield 10, 3) := by decide +kernel
theorem dX9_init_69 : decode cX9_init 69 = .ok (.aload_n 0, 1) := by decide +kernel
theorem dX9_init_70 : decode cX9_init 70 = .ok (.getfield 35, 3) := by decide +kernel
theorem dX9_init_73 : decode cX9_init 73 = .ok (.invokespecial 41, 3) := by decide +kernel
theorem dX9_init_76 : decode cX9_init 76 = .ok (.putfield 44, 3) := by decide +kernel
theorem dX9_init_79 : decode cX9_init 79 = .ok (.aload_n 0, 1) := by decide +kernel
theorem dX9_init_80 : decode cX9_init 80 = .ok (.new 48, 3) := by decide +kernel
theorem dX9_init_83 : decode cX9_init 83 = .ok (.dup, 1) := by decide +kernel
theorem dX9_init_84 : decode cX9_init 84 = .ok (.bipush 8, 2) := by decide +kernel
theorem dX9_init_86 : decode cX9_init 86 = .ok (.invokespecial 50, 3) := by decide +kernel
theorem dX9_init_89 : decode cX9_init 89 = .ok (.putfield 53, 3) := by decide +kernel
theorem dX9_init_92 : decode cX9_init 92 = .ok (.aload_n 0, 1) := by decide +kernel
theorem dX9_init_93 : decode cX9_init 93 = .ok (.new 57, 3) := by decide +kernel
theorem dX9_init_96 : decode cX9_init 96 = .ok (.dup, 1) := by decide +kernel
theorem dX9_init_97 : decode cX9_init 97 = .ok (.bipush 8, 2) := by decide +kernel
theorem dX9_init_99 : decode cX9_init 99 = .ok (.invokespecial 59, 3) := by decide +kernel
theorem dX9_init_102 : decode cX9_init 102 = .ok (.putfield 60, 3) := by decide +kernel
theorem dX9_init_105 : decode cX9_init 105 = .ok (.aload_n 0, 1) := by decide +kernel
theorem dX9_init_106 : decode cX9_init 106 = .ok (.new 64, 3) := by decide +kernel
theorem dX9_init_109 : decode cX9_init 109 = .ok (.dup, 1) := by decide +kernel
theorem dX9_init_110 : decode cX9_init 110 = .ok (.aload_n 0, 1) := by decide +kernel
theorem dX9_init_111 : decode cX9_init 111 = .ok (.getfield 10, 3) := by decide +kernel
theorem dX9_init_114 : decode cX9_init 114 = .ok (.aload_n 0, 1) := by decide +kernel
theorem dX9_init_115 : decode cX9_init 115 = .ok (.getfield 35, 3) := by decide +kernel
theorem dX9_init_118 : decode cX9_init 118 = .ok (.invokespecial 66, 3) := by decide +kernel
theorem dX9_init_121 : decode cX9_init 121 = .ok (.putfield 67, 3) := by decide +kernel
theorem dX9_init_124 : decode cX9_init 124 = .ok (.aload_n 0, 1) := by decide +kernel
theorem dX9_init_125 : decode cX9_init 125 = .ok (.new 71, 3) := by decide +kernel
theorem dX9_init_128 : decode cX9_init 128 = .ok (.dup, 1) := by decide +kernel
theorem dX9_init_129 : decode cX9_init 129 = .ok (.aload_n 0, 1) := by decide +kernel
theorem dX9_init_130 : decode cX9_init 130 = .ok (.getfield 10, 3) := by decide +kernel
theorem dX9_init_133 : decode cX9_init 133 = .ok (.aload_n 0, 1) := by decide +kernel
theorem dX9_init_134 : decode cX9_init 134 = .ok (.getfield 35, 3) := by decide +kernel
theorem dX9_init_137 : decode cX9_init 137 = .ok (.aload_n 0, 1) := by decide +kernel
theorem dX9_init_138 : decode cX9_init 138 = .ok (.getfield 67, 3) := by decide +kernel
theorem dX9_init_141 : decode cX9_init 141 = .ok (.invokespecial 73, 3) := by decide +kernel
theorem dX9_init_144 : decode cX9_init 144 = .ok (.putfield 76, 3) := by decide +kernel
theorem dX9_init_147 : decode cX9_init 147 = .ok (.return_, 1) := by decide +kernel
theorem dX9_write_0 : decode cX9_write 0 = .ok (.iload_n 1, 1) := by decide +kernel
theorem dX9_write_1 : decode cX9_write 1 = .ok (.ifCond .lt 10, 3) := by decide +kernel
theorem dX9_write_4 : decode cX9_write 4 = .ok (.iload_n 1, 1) := by decide +kernel
theorem dX9_write_5 : decode cX9_write 5 = .ok (.sipush 255, 3) := by decide +kernel
theorem dX9_write_8 : decode cX9_write 8 = .ok (.if_icmp .le 6, 3) := by decide +kernel
theorem dX9_write_11 : decode cX9_write 11 = .ok (.bipush (-3), 2) := by decide +kernel
theorem dX9_write_13 : decode cX9_write 13 = .ok (.ireturn, 1) := by decide +kernel
theorem dX9_write_14 : decode cX9_write 14 = .ok (.aload_n 0, 1) := by decide +kernel
theorem dX9_write_15 : decode cX9_write 15 = .ok (.getfield 21, 3) := by decide +kernel
theorem dX9_write_18 : decode cX9_write 18 = .ok (.getfield 80, 3) := by decide +kernel
theorem dX9_write_21 : decode cX9_write 21 = .ok (.sipush 200, 3) := by decide +kernel
theorem dX9_write_24 : decode cX9_write 24 = .ok (.if_icmp .lt 6, 3) := by decide +kernel
theorem dX9_write_27 : decode cX9_write 27 = .ok (.bipush (-5), 2) := by decide +kernel
theorem dX9_write_29 : decode cX9_write 29 = .ok (.ireturn, 1) := by decide +kernel
theorem dX9_write_30 : decode cX9_write 30 = .ok (.aload_n 0, 1) := by decide +kernel
theorem dX9_write_31 : decode cX9_write 31 = .ok (.getfield 21, 3) := by decide +kernel
theorem dX9_write_34 : decode cX9_write 34 = .ok (.iload_n 1, 1) := by decide +kernel
theorem dX9_write_35 : decode cX9_write 35 = .ok (.invokevirtual 84, 3) := by decide +kernel
theorem dX9_write_38 : decode cX9_write 38 = .ok (.aload_n 0, 1) := by decide +kernel
theorem dX9_write_39 : decode cX9_write 39 = .ok (.getfield 21, 3) := by decide +kernel
theorem dX9_write_42 : decode cX9_write 42 = .ok (.getfield 80, 3) := by decide +kernel
theorem dX9_write_45 : decode cX9_write 45 = .ok (.ireturn, 1) := by decide +kernel
theorem dX9_erase_0 : decode cX9_erase 0 = .ok (.aload_n 0, 1) := by decide +kernel
theorem dX9_erase_1 : decode cX9_erase 1 = .ok (.getfield 21, 3) := by decide +kernel
theorem dX9_erase_4 : decode cX9_erase 4 = .ok (.getfield 80, 3) := by decide +kernel
theorem dX9_erase_7 : decode cX9_erase 7 = .ok (.istore_n 1, 1) := by decide +kernel
theorem dX9_erase_8 : decode cX9_erase 8 = .ok (.aload_n 0, 1) := by decide +kernel
theorem dX9_erase_9 : decode cX9_erase 9 = .ok (.getfield 21, 3) := by decide +kernel
theorem dX9_erase_12 : decode cX9_erase 12 = .ok (.iconst 0, 1) := by decide +kernel
theorem dX9_erase_13 : decode cX9_erase 13 = .ok (.putfield 80, 3) := by decide +kernel
theorem dX9_erase_16 : decode cX9_erase 16 = .ok (.iload_n 1, 1) := by decide +kernel
theorem dX9_erase_17 : decode cX9_erase 17 = .ok (.ireturn, 1) := by decide +kernel
theorem dX9_fault_0 : decode cX9_fault 0 = .ok (.aload_n 0, 1) := by decide +kernel
theorem dX9_fault_1 : decode cX9_fault 1 = .ok (.getfield 21, 3) := by decide +kernel
theorem dX9_fault_4 : decode cX9_fault 4 = .ok (.invokevirtual 87, 3) := by decide +kernel
theorem dX9_fault_7 : decode cX9_fault 7 = .ok (.ireturn, 1) := by decide +kernel
theorem dX9_tell_0 : decode cX9_tell 0 = .ok (.aload_n 0, 1) := by decide +kernel
theorem dX9_tell_1 : decode cX9_tell 1 = .ok (.getfield 21, 3) := by decide +kernel
theorem dX9_tell_4 : decode cX9_tell 4 = .ok (.invokevirtual 87, 3) := by decide +kernel
theorem dX9_tell_7 : decode cX9_tell 7 = .ok (.iconst (-1), 1) := by decide +kernel
theorem dX9_tell_8 : decode cX9_tell 8 = .ok (.if_icmp .eq 6, 3) := by decide +kernel
theorem dX9_tell_11 : decode cX9_tell 11 = .ok (.bipush (-4), 2) := by decide +kernel
theorem dX9_tell_13 : decode cX9_tell 13 = .ok (.ireturn, 1) := by decide +kernel
theorem dX9_tell_14 : decode cX9_tell 14 = .ok (.iconst 0, 1) := by decide +kernel
theorem dX9_tell_15 : decode cX9_tell 15 = .ok (.istore_n 1, 1) := by decide +kernel
theorem dX9_tell_16 : decode cX9_tell 16 = .ok (.iload_n 1, 1) := by decide +kernel
theorem dX9_tell_17 : decode cX9_tell 17 = .ok (.aload_n 0, 1) := by decide +kernel
theorem dX9_tell_18 : decode cX9_tell 18 = .ok (.getfield 21, 3) := by decide +kernel
theorem dX9_tell_21 : decode cX9_tell 21 = .ok (.getfield 91, 3) := by decide +kernel
theorem dX9_tell_24 : decode cX9_tell 24 = .ok (.if_icmp .ge 14, 3) := by decide +kernel
theorem dX9_tell_27 : decode cX9_tell 27 = .ok (.aload_n 0, 1) := by decide +kernel
theorem dX9_tell_28 : decode cX9_tell 28 = .ok (.iload_n 1, 1) := by decide +kernel
theorem dX9_tell_29 : decode cX9_tell 29 = .ok (.invokevirtual 94, 3) := by decide +kernel
theorem dX9_tell_32 : decode cX9_tell 32 = .ok (.iinc 1 1, 3) := by decide +kernel
theorem dX9_tell_35 : decode cX9_tell 35 = .ok (.goto (-19), 3) := by decide +kernel
theorem dX9_tell_38 : decode cX9_tell 38 = .ok (.aload_n 0, 1) := by decide +kernel
theorem dX9_tell_39 : decode cX9_tell 39 = .ok (.getfield 28, 3) := by decide +kernel
theorem dX9_tell_42 : decode cX9_tell 42 = .ok (.iconst 0, 1) := by decide +kernel
theorem dX9_tell_43 : decode cX9_tell 43 = .ok (.putfield 97, 3) := by decide +kernel
theorem dX9_tell_46 : decode cX9_tell 46 = .ok (.aload_n 0, 1) := by decide +kernel
theorem dX9_tell_47 : decode cX9_tell 47 = .ok (.getfield 76, 3) := by decide +kernel
theorem dX9_tell_50 : decode cX9_tell 50 = .ok (.invokevirtual 100, 3) := by decide +kernel
theorem dX9_tell_53 : decode cX9_tell 53 = .ok (.aload_n 0, 1) := by decide +kernel
theorem dX9_tell_54 : decode cX9_tell 54 = .ok (.getfield 10, 3) := by decide +kernel
theorem dX9_tell_57 : decode cX9_tell 57 = .ok (.getfield 103, 3) := by decide +kernel
theorem dX9_tell_60 : decode cX9_tell 60 = .ok (.iconst 0, 1) := by decide +kernel
theorem dX9_tell_61 : decode cX9_tell 61 = .ok (.invokestatic 107, 3) := by decide +kernel
theorem dX9_tell_64 : decode cX9_tell 64 = .ok (.aload_n 0, 1) := by decide +kernel
theorem dX9_tell_65 : decode cX9_tell 65 = .ok (.getfield 21, 3) := by decide +kernel
theorem dX9_tell_68 : decode cX9_tell 68 = .ok (.iconst 0, 1) := by decide +kernel
theorem dX9_tell_69 : decode cX9_tell 69 = .ok (.putfield 80, 3) := by decide +kernel
theorem dX9_tell_72 : decode cX9_tell 72 = .ok (.aload_n 0, 1) := by decide +kernel
theorem dX9_tell_73 : decode cX9_tell 73 = .ok (.getfield 21, 3) := by decide +kernel
theorem dX9_tell_76 : decode cX9_tell 76 = .ok (.getfield 91, 3) := by decide +kernel
theorem dX9_tell_79 : decode cX9_tell 79 = .ok (.ireturn, 1) := by decide +kernel
theorem dX9_doClause_0 : decode cX9_doClause 0 = .ok (.aload_n 0, 1) := by decide +kernel
theorem dX9_doClause_1 : decode cX9_doClause 1 = .ok (.getfield 21, 3) := by decide +kernel
theorem dX9_doClause_4 : decode cX9_doClause 4 = .ok (.iload_n 1, 1) := by decide +kernel
theorem dX9_doClause_5 : decode cX9_doClause 5 = .ok (.invokevirtual 113, 3) := by decide +kernel
theorem dX9_doClause_8 : decode cX9_doClause 8 = .ok (.ifCond .eq 46, 3) := by decide +kernel
theorem dX9_doClause_11 : decode cX9_doClause 11 = .ok (.aload_n 0, 1) := by decide +kernel
theorem dX9_doClause_12 : decode cX9_doClause 12 = .ok (.getfield 10, 3) := by decide +kernel
theorem dX9_doClause_15 : decode cX9_doClause 15 = .ok (.aload_n 0, 1) := by decide +kernel
theorem dX9_doClause_16 : decode cX9_doClause 16 = .ok (.getfield 21, 3) := by decide +kernel
theorem dX9_doClause_19 : decode cX9_doClause 19 = .ok (.iload_n 1, 1) := by decide +kernel
theorem dX9_doClause_20 : decode cX9_doClause 20 = .ok (.iconst 0, 1) := by decide +kernel
theorem dX9_doClause_21 : decode cX9_doClause 21 = .ok (.invokevirtual 117, 3) := by decide +kernel
theorem dX9_doClause_24 : decode cX9_doClause 24 = .ok (.invokevirtual 121, 3) := by decide +kernel
theorem dX9_doClause_27 : decode cX9_doClause 27 = .ok (.aload_n 0, 1) := by decide +kernel
theorem dX9_doClause_28 : decode cX9_doClause 28 = .ok (.getfield 53, 3) := by decide +kernel
theorem dX9_doClause_31 : decode cX9_doClause 31 = .ok (.iconst 0, 1) := by decide +kernel
theorem dX9_doClause_32 : decode cX9_doClause 32 = .ok (.putfield 124, 3) := by decide +kernel
theorem dX9_doClause_35 : decode cX9_doClause 35 = .ok (.aload_n 0, 1) := by decide +kernel
theorem dX9_doClause_36 : decode cX9_doClause 36 = .ok (.getfield 60, 3) := by decide +kernel
theorem dX9_doClause_39 : decode cX9_doClause 39 = .ok (.iconst 0, 1) := by decide +kernel
theorem dX9_doClause_40 : decode cX9_doClause 40 = .ok (.putfield 125, 3) := by decide +kernel
theorem dX9_doClause_43 : decode cX9_doClause 43 = .ok (.aload_n 0, 1) := by decide +kernel
theorem dX9_doClause_44 : decode cX9_doClause 44 = .ok (.getfield 76, 3) := by decide +kernel
theorem dX9_doClause_47 : decode cX9_doClause 47 = .ok (.iconst 0, 1) := by decide +kernel
theorem dX9_doClause_48 : decode cX9_doClause 48 = .ok (.putfield 126, 3) := by decide +kernel
theorem dX9_doClause_51 : decode cX9_doClause 51 = .ok (.goto 46, 3) := by decide +kernel
theorem dX9_doClause_54 : decode cX9_doClause 54 = .ok (.aload_n 0, 1) := by decide +kernel
theorem dX9_doClause_55 : decode cX9_doClause 55 = .ok (.getfield 10, 3) := by decide +kernel
theorem dX9_doClause_58 : decode cX9_doClause 58 = .ok (.aload_n 0, 1) := by decide +kernel
theorem dX9_doClause_59 : decode cX9_doClause 59 = .ok (.getfield 21, 3) := by decide +kernel
theorem dX9_doClause_62 : decode cX9_doClause 62 = .ok (.iload_n 1, 1) := by decide +kernel
theorem dX9_doClause_63 : decode cX9_doClause 63 = .ok (.iconst 0, 1) := by decide +kernel
theorem dX9_doClause_64 : decode cX9_doClause 64 = .ok (.invokevirtual 117, 3) := by decide +kernel
theorem dX9_doClause_67 : decode cX9_doClause 67 = .ok (.aload_n 0, 1) := by decide +kernel
theorem dX9_doClause_68 : decode cX9_doClause 68 = .ok (.getfield 21, 3) := by decide +kernel
theorem dX9_doClause_71 : decode cX9_doClause 71 = .ok (.iload_n 1, 1) := by decide +kernel
theorem dX9_doClause_72 : decode cX9_doClause 72 = .ok (.iconst 1, 1) := by decide +kernel
theorem dX9_doClause_73 : decode cX9_doClause 73 = .ok (.invokevirtual 117, 3) := by decide +kernel
theorem dX9_doClause_76 : decode cX9_doClause 76 = .ok (.aload_n 0, 1) := by decide +kernel
theorem dX9_doClause_77 : decode cX9_doClause 77 = .ok (.getfield 21, 3) := by decide +kernel
theorem dX9_doClause_80 : decode cX9_doClause 80 = .ok (.iload_n 1, 1) := by decide +kernel
theorem dX9_doClause_81 : decode cX9_doClause 81 = .ok (.iconst 2, 1) := by decide +kernel
theorem dX9_doClause_82 : decode cX9_doClause 82 = .ok (.invokevirtual 117, 3) := by decide +kernel
theorem dX9_doClause_85 : decode cX9_doClause 85 = .ok (.aload_n 0, 1) := by decide +kernel
theorem dX9_doClause_86 : decode cX9_doClause 86 = .ok (.getfield 21, 3) := by decide +kernel
theorem dX9_doClause_89 : decode cX9_doClause 89 = .ok (.iload_n 1, 1) := by decide +kernel
theorem dX9_doClause_90 : decode cX9_doClause 90 = .ok (.iconst 3, 1) := by decide +kernel
theorem dX9_doClause_91 : decode cX9_doClause 91 = .ok (.invokevirtual 117, 3) := by decide +kernel
theorem dX9_doClause_94 : decode cX9_doClause 94 = .ok (.invokevirtual 129, 3) := by decide +kernel
theorem dX9_doClause_97 : decode cX9_doClause 97 = .ok (.return_, 1) := by decide +kernel
theorem dX9_link_0 : decode cX9_link 0 = .ok (.aload_n 0, 1) := by decide +kernel
theorem dX9_link_1 : decode cX9_link 1 = .ok (.getfield 10, 3) := by decide +kernel
theorem dX9_link_4 : decode cX9_link 4 = .ok (.iload_n 1, 1) := by decide +kernel
theorem dX9_link_5 : decode cX9_link 5 = .ok (.invokevirtual 133, 3) := by decide +kernel
theorem dX9_link_8 : decode cX9_link 8 = .ok (.ifCond .ne 6, 3) := by decide +kernel
theorem dX9_link_11 : decode cX9_link 11 = .ok (.bipush (-2), 2) := by decide +kernel
theorem dX9_link_13 : decode cX9_link 13 = .ok (.ireturn, 1) := by decide +kernel
theorem dX9_link_14 : decode cX9_link 14 = .ok (.iload_n 2, 1) := by decide +kernel
theorem dX9_link_15 : decode cX9_link 15 = .ok (.tableswitch 104 0 5 #[37, 47, 57, 67, 77, 94], 37) := by decide +kernel
theorem dX9_link_52 : decode cX9_link 52 = .ok (.aload_n 0, 1) := by decide +kernel
theorem dX9_link_53 : decode cX9_link 53 = .ok (.getfield 10, 3) := by decide +kernel
theorem dX9_link_56 : decode cX9_link 56 = .ok (.getfield 136, 3) := by decide +kernel
theorem dX9_link_59 : decode cX9_link 59 = .ok (.iload_n 1, 1) := by decide +kernel
theorem dX9_link_60 : decode cX9_link 60 = .ok (.iaload, 1) := by decide +kernel
theorem dX9_link_61 : decode cX9_link 61 = .ok (.ireturn, 1) := by decide +kernel
theorem dX9_link_62 : decode cX9_link 62 = .ok (.aload_n 0, 1) := by decide +kernel
theorem dX9_link_63 : decode cX9_link 63 = .ok (.getfield 10, 3) := by decide +kernel
theorem dX9_link_66 : decode cX9_link 66 = .ok (.getfield 139, 3) := by decide +kernel
theorem dX9_link_69 : decode cX9_link 69 = .ok (.iload_n 1, 1) := by decide +kernel
theorem dX9_link_70 : decode cX9_link 70 = .ok (.iaload, 1) := by decide +kernel
theorem dX9_link_71 : decode cX9_link 71 = .ok (.ireturn, 1) := by decide +kernel
theorem dX9_link_72 : decode cX9_link 72 = .ok (.aload_n 0, 1) := by decide +kernel
theorem dX9_link_73 : decode cX9_link 73 = .ok (.getfield 10, 3) := by decide +kernel
theorem dX9_link_76 : decode cX9_link 76 = .ok (.getfield 142, 3) := by decide +kernel
theorem dX9_link_79 : decode cX9_link 79 = .ok (.iload_n 1, 1) := by decide +kernel
theorem dX9_link_80 : decode cX9_link 80 = .ok (.iaload, 1) := by decide +kernel
theorem dX9_link_81 : decode cX9_link 81 = .ok (.ireturn, 1) := by decide +kernel
theorem dX9_link_82 : decode cX9_link 82 = .ok (.aload_n 0, 1) := by decide +kernel
theorem dX9_link_83 : decode cX9_link 83 = .ok (.getfield 10, 3) := by decide +kernel
theorem dX9_link_86 : decode cX9_link 86 = .ok (.getfield 145, 3) := by decide +kernel
theorem dX9_link_89 : decode cX9_link 89 = .ok (.iload_n 1, 1) := by decide +kernel
theorem dX9_link_90 : decode cX9_link 90 = .ok (.iaload, 1) := by decide +kernel
theorem dX9_link_91 : decode cX9_link 91 = .ok (.ireturn, 1) := by decide +kernel
theorem dX9_link_92 : decode cX9_link 92 = .ok (.aload_n 0, 1) := by decide +kernel
theorem dX9_link_93 : decode cX9_link 93 = .ok (.getfield 10, 3) := by decide +kernel
theorem dX9_link_96 : decode cX9_link 96 = .ok (.iload_n 1, 1) := by decide +kernel
theorem dX9_link_97 : decode cX9_link 97 = .ok (.invokevirtual 148, 3) := by decide +kernel
theorem dX9_link_100 : decode cX9_link 100 = .ok (.ifCond .eq 7, 3) := by decide +kernel
theorem dX9_link_103 : decode cX9_link 103 = .ok (.iconst 1, 1) := by decide +kernel
theorem dX9_link_104 : decode cX9_link 104 = .ok (.goto 4, 3) := by decide +kernel
theorem dX9_link_107 : decode cX9_link 107 = .ok (.iconst 0, 1) := by decide +kernel
theorem dX9_link_108 : decode cX9_link 108 = .ok (.ireturn, 1) := by decide +kernel
theorem dX9_link_109 : decode cX9_link 109 = .ok (.aload_n 0, 1) := by decide +kernel
theorem dX9_link_110 : decode cX9_link 110 = .ok (.getfield 10, 3) := by decide +kernel
theorem dX9_link_113 : decode cX9_link 113 = .ok (.getfield 103, 3) := by decide +kernel
theorem dX9_link_116 : decode cX9_link 116 = .ok (.iload_n 1, 1) := by decide +kernel
theorem dX9_link_117 : decode cX9_link 117 = .ok (.iaload, 1) := by decide +kernel
theorem dX9_link_118 : decode cX9_link 118 = .ok (.ireturn, 1) := by decide +kernel
theorem dX9_link_119 : decode cX9_link 119 = .ok (.bipush (-3), 2) := by decide +kernel
theorem dX9_link_121 : decode cX9_link 121 = .ok (.ireturn, 1) := by decide +kernel
theorem dX9_fail_0 : decode cX9_fail 0 = .ok (.aload_n 0, 1) := by decide +kernel
theorem dX9_fail_1 : decode cX9_fail 1 = .ok (.getfield 10, 3) := by decide +kernel
theorem dX9_fail_4 : decode cX9_fail 4 = .ok (.iload_n 1, 1) := by decide +kernel
theorem dX9_fail_5 : decode cX9_fail 5 = .ok (.invokevirtual 133, 3) := by decide +kernel
theorem dX9_fail_8 : decode cX9_fail 8 = .ok (.ifCond .ne 6, 3) := by decide +kernel
theorem dX9_fail_11 : decode cX9_fail 11 = .ok (.bipush (-2), 2) := by decide +kernel
theorem dX9_fail_13 : decode cX9_fail 13 = .ok (.ireturn, 1) := by decide +kernel
theorem dX9_fail_14 : decode cX9_fail 14 = .ok (.aload_n 0, 1) := by decide +kernel
theorem dX9_fail_15 : decode cX9_fail 15 = .ok (.getfield 10, 3) := by decide +kernel
theorem dX9_fail_18 : decode cX9_fail 18 = .ok (.iload_n 1, 1) := by decide +kernel
theorem dX9_fail_19 : decode cX9_fail 19 = .ok (.invokevirtual 148, 3) := by decide +kernel
theorem dX9_fail_22 : decode cX9_fail 22 = .ok (.ifCond .eq 11, 3) := by decide +kernel
theorem dX9_fail_25 : decode cX9_fail 25 = .ok (.aload_n 0, 1) := by decide +kernel
theorem dX9_fail_26 : decode cX9_fail 26 = .ok (.iload_n 1, 1) := by decide +kernel
theorem dX9_fail_27 : decode cX9_fail 27 = .ok (.invokevirtual 151, 3) := by decide +kernel
theorem dX9_fail_30 : decode cX9_fail 30 = .ok (.goto 5, 3) := by decide +kernel
theorem dX9_fail_33 : decode cX9_fail 33 = .ok (.bipush (-4), 2) := by decide +kernel
theorem dX9_fail_35 : decode cX9_fail 35 = .ok (.ireturn, 1) := by decide +kernel
theorem dX9_heal_0 : decode cX9_heal 0 = .ok (.aload_n 0, 1) := by decide +kernel
theorem dX9_heal_1 : decode cX9_heal 1 = .ok (.getfield 10, 3) := by decide +kernel
theorem dX9_heal_4 : decode cX9_heal 4 = .ok (.iload_n 1, 1) := by decide +kernel
theorem dX9_heal_5 : decode cX9_heal 5 = .ok (.invokevirtual 133, 3) := by decide +kernel
theorem dX9_heal_8 : decode cX9_heal 8 = .ok (.ifCond .ne 6, 3) := by decide +kernel
theorem dX9_heal_11 : decode cX9_heal 11 = .ok (.bipush (-2), 2) := by decide +kernel
theorem dX9_heal_13 : decode cX9_heal 13 = .ok (.ireturn, 1) := by decide +kernel
theorem dX9_heal_14 : decode cX9_heal 14 = .ok (.aload_n 0, 1) := by decide +kernel
theorem dX9_heal_15 : decode cX9_heal 15 = .ok (.getfield 10, 3) := by decide +kernel
theorem dX9_heal_18 : decode cX9_heal 18 = .ok (.iload_n 1, 1) := by decide +kernel
theorem dX9_heal_19 : decode cX9_heal 19 = .ok (.invokevirtual 148, 3) := by decide +kernel
theorem dX9_heal_22 : decode cX9_heal 22 = .ok (.ifCond .eq 8, 3) := by decide +kernel
theorem dX9_heal_25 : decode cX9_heal 25 = .ok (.bipush (-4), 2) := by decide +kernel
theorem dX9_heal_27 : decode cX9_heal 27 = .ok (.goto 8, 3) := by decide +kernel
theorem dX9_heal_30 : decode cX9_heal 30 = .ok (.aload_n 0, 1) := by decide +kernel
theorem dX9_heal_31 : decode cX9_heal 31 = .ok (.iload_n 1, 1) := by decide +kernel
theorem dX9_heal_32 : decode cX9_heal 32 = .ok (.invokevirtual 151, 3) := by decide +kernel
theorem dX9_heal_35 : decode cX9_heal 35 = .ok (.ireturn, 1) := by decide +kernel
theorem dX9_turn_0 : decode cX9_turn 0 = .ok (.aload_n 0, 1) := by decide +kernel
theorem dX9_turn_1 : decode cX9_turn 1 = .ok (.getfield 28, 3) := by decide +kernel
theorem dX9_turn_4 : decode cX9_turn 4 = .ok (.invokevirtual 155, 3) := by decide +kernel
theorem dX9_turn_7 : decode cX9_turn 7 = .ok (.aload_n 0, 1) := by decide +kernel
theorem dX9_turn_8 : decode cX9_turn 8 = .ok (.getfield 10, 3) := by decide +kernel
theorem dX9_turn_11 : decode cX9_turn 11 = .ok (.dup, 1) := by decide +kernel
theorem dX9_turn_12 : decode cX9_turn 12 = .ok (.getfield 158, 3) := by decide +kernel
theorem dX9_turn_15 : decode cX9_turn 15 = .ok (.iconst 1, 1) := by decide +kernel
theorem dX9_turn_16 : decode cX9_turn 16 = .ok (.iload_n 1, 1) := by decide +kernel
theorem dX9_turn_17 : decode cX9_turn 17 = .ok (.ishl, 1) := by decide +kernel
theorem dX9_turn_18 : decode cX9_turn 18 = .ok (.ixor, 1) := by decide +kernel
theorem dX9_turn_19 : decode cX9_turn 19 = .ok (.putfield 158, 3) := by decide +kernel
theorem dX9_turn_22 : decode cX9_turn 22 = .ok (.aload_n 0, 1) := by decide +kernel
theorem dX9_turn_23 : decode cX9_turn 23 = .ok (.getfield 10, 3) := by decide +kernel
theorem dX9_turn_26 : decode cX9_turn 26 = .ok (.getfield 158, 3) := by decide +kernel
theorem dX9_turn_29 : decode cX9_turn 29 = .ok (.invokestatic 161, 3) := by decide +kernel
theorem dX9_turn_32 : decode cX9_turn 32 = .ok (.ireturn, 1) := by decide +kernel
theorem dX9_tune_0 : decode cX9_tune 0 = .ok (.aload_n 0, 1) := by decide +kernel
theorem dX9_tune_1 : decode cX9_tune 1 = .ok (.getfield 10, 3) := by decide +kernel
theorem dX9_tune_4 : decode cX9_tune 4 = .ok (.iload_n 1, 1) := by decide +kernel
theorem dX9_tune_5 : decode cX9_tune 5 = .ok (.invokevirtual 133, 3) := by decide +kernel
theorem dX9_tune_8 : decode cX9_tune 8 = .ok (.ifCond .ne 6, 3) := by decide +kernel
theorem dX9_tune_11 : decode cX9_tune 11 = .ok (.bipush (-2), 2) := by decide +kernel
theorem dX9_tune_13 : decode cX9_tune 13 = .ok (.ireturn, 1) := by decide +kernel
theorem dX9_tune_14 : decode cX9_tune 14 = .ok (.iload_n 2, 1) := by decide +kernel
theorem dX9_tune_15 : decode cX9_tune 15 = .ok (.iconst 1, 1) := by decide +kernel
theorem dX9_tune_16 : decode cX9_tune 16 = .ok (.if_icmp .lt 20, 3) := by decide +kernel
theorem dX9_tune_19 : decode cX9_tune 19 = .ok (.iload_n 2, 1) := by decide +kernel
theorem dX9_tune_20 : decode cX9_tune 20 = .ok (.bipush 9, 2) := by decide +kernel
theorem dX9_tune_22 : decode cX9_tune 22 = .ok (.if_icmp .gt 14, 3) := by decide +kernel
theorem dX9_tune_25 : decode cX9_tune 25 = .ok (.iload_n 3, 1) := by decide +kernel
theorem dX9_tune_26 : decode cX9_tune 26 = .ok (.iconst 1, 1) := by decide +kernel
theorem dX9_tune_27 : decode cX9_tune 27 = .ok (.if_icmp .lt 9, 3) := by decide +kernel
theorem dX9_tune_30 : decode cX9_tune 30 = .ok (.iload_n 3, 1) := by decide +kernel
theorem dX9_tune_31 : decode cX9_tune 31 = .ok (.bipush 9, 2) := by decide +kernel
theorem dX9_tune_33 : decode cX9_tune 33 = .ok (.if_icmp .le 6, 3) := by decide +kernel
theorem dX9_tune_36 : decode cX9_tune 36 = .ok (.bipush (-3), 2) := by decide +kernel
theorem dX9_tune_38 : decode cX9_tune 38 = .ok (.ireturn, 1) := by decide +kernel
theorem dX9_tune_39 : decode cX9_tune 39 = .ok (.aload_n 0, 1) := by decide +kernel
theorem dX9_tune_40 : decode cX9_tune 40 = .ok (.getfield 10, 3) := by decide +kernel
theorem dX9_tune_43 : decode cX9_tune 43 = .ok (.getfield 142, 3) := by decide +kernel
theorem dX9_tune_46 : decode cX9_tune 46 = .ok (.iload_n 1, 1) := by decide +kernel
theorem dX9_tune_47 : decode cX9_tune 47 = .ok (.iaload, 1) := by decide +kernel
theorem dX9_tune_48 : decode cX9_tune 48 = .ok (.istore 4, 2) := by decide +kernel
theorem dX9_tune_50 : decode cX9_tune 50 = .ok (.aload_n 0, 1) := by decide +kernel
theorem dX9_tune_51 : decode cX9_tune 51 = .ok (.getfield 28, 3) := by decide +kernel
theorem dX9_tune_54 : decode cX9_tune 54 = .ok (.iload_n 1, 1) := by decide +kernel
theorem dX9_tune_55 : decode cX9_tune 55 = .ok (.invokevirtual 166, 3) := by decide +kernel
theorem dX9_tune_58 : decode cX9_tune 58 = .ok (.aload_n 0, 1) := by decide +kernel
theorem dX9_tune_59 : decode cX9_tune 59 = .ok (.getfield 10, 3) := by decide +kernel
theorem dX9_tune_62 : decode cX9_tune 62 = .ok (.getfield 142, 3) := by decide +kernel
theorem dX9_tune_65 : decode cX9_tune 65 = .ok (.iload_n 1, 1) := by decide +kernel
theorem dX9_tune_66 : decode cX9_tune 66 = .ok (.iload_n 2, 1) := by decide +kernel
theorem dX9_tune_67 : decode cX9_tune 67 = .ok (.iastore, 1) := by decide +kernel
theorem dX9_tune_68 : decode cX9_tune 68 = .ok (.aload_n 0, 1) := by decide +kernel
theorem dX9_tune_69 : decode cX9_tune 69 = .ok (.getfield 10, 3) := by decide +kernel
theorem dX9_tune_72 : decode cX9_tune 72 = .ok (.getfield 145, 3) := by decide +kernel
theorem dX9_tune_75 : decode cX9_tune 75 = .ok (.iload_n 1, 1) := by decide +kernel
theorem dX9_tune_76 : decode cX9_tune 76 = .ok (.iload_n 3, 1) := by decide +kernel
theorem dX9_tune_77 : decode cX9_tune 77 = .ok (.iastore, 1) := by decide +kernel
theorem dX9_tune_78 : decode cX9_tune 78 = .ok (.iload 4, 2) := by decide +kernel
theorem dX9_tune_80 : decode cX9_tune 80 = .ok (.ireturn, 1) := by decide +kernel
theorem dX9_learn_0 : decode cX9_learn 0 = .ok (.aload_n 0, 1) := by decide +kernel
theorem dX9_learn_1 : decode cX9_learn 1 = .ok (.getfield 10, 3) := by decide +kernel
theorem dX9_learn_4 : decode cX9_learn 4 = .ok (.iload_n 1, 1) := by decide +kernel
theorem dX9_learn_5 : decode cX9_learn 5 = .ok (.invokevirtual 169, 3) := by decide +kernel
theorem dX9_learn_8 : decode cX9_learn 8 = .ok (.ifCond .ne 6, 3) := by decide +kernel
theorem dX9_learn_11 : decode cX9_learn 11 = .ok (.bipush (-2), 2) := by decide +kernel
theorem dX9_learn_13 : decode cX9_learn 13 = .ok (.ireturn, 1) := by decide +kernel
theorem dX9_learn_14 : decode cX9_learn 14 = .ok (.aload_n 0, 1) := by decide +kernel
theorem dX9_learn_15 : decode cX9_learn 15 = .ok (.getfield 10, 3) := by decide +kernel
theorem dX9_learn_18 : decode cX9_learn 18 = .ok (.getfield 172, 3) := by decide +kernel
theorem dX9_learn_21 : decode cX9_learn 21 = .ok (.iload_n 1, 1) := by decide +kernel
theorem dX9_learn_22 : decode cX9_learn 22 = .ok (.iaload, 1) := by decide +kernel
theorem dX9_learn_23 : decode cX9_learn 23 = .ok (.aload_n 0, 1) := by decide +kernel
theorem dX9_learn_24 : decode cX9_learn 24 = .ok (.getfield 10, 3) := by decide +kernel
theorem dX9_learn_27 : decode cX9_learn 27 = .ok (.getfield 158, 3) := by decide +kernel
theorem dX9_learn_30 : decode cX9_learn 30 = .ok (.ixor, 1) := by decide +kernel
theorem dX9_learn_31 : decode cX9_learn 31 = .ok (.invokestatic 161, 3) := by decide +kernel
theorem dX9_learn_34 : decode cX9_learn 34 = .ok (.istore_n 2, 1) := by decide +kernel
theorem dX9_learn_35 : decode cX9_learn 35 = .ok (.aload_n 0, 1) := by decide +kernel
theorem dX9_learn_36 : decode cX9_learn 36 = .ok (.getfield 28, 3) := by decide +kernel
theorem dX9_learn_39 : decode cX9_learn 39 = .ok (.iload_n 1, 1) := by decide +kernel
theorem dX9_learn_40 : decode cX9_learn 40 = .ok (.invokevirtual 175, 3) := by decide +kernel
theorem dX9_learn_43 : decode cX9_learn 43 = .ok (.aload_n 0, 1) := by decide +kernel
theorem dX9_learn_44 : decode cX9_learn 44 = .ok (.getfield 10, 3) := by decide +kernel
theorem dX9_learn_47 : decode cX9_learn 47 = .ok (.getfield 172, 3) := by decide +kernel
theorem dX9_learn_50 : decode cX9_learn 50 = .ok (.iload_n 1, 1) := by decide +kernel
theorem dX9_learn_51 : decode cX9_learn 51 = .ok (.aload_n 0, 1) := by decide +kernel
theorem dX9_learn_52 : decode cX9_learn 52 = .ok (.getfield 10, 3) := by decide +kernel
theorem dX9_learn_55 : decode cX9_learn 55 = .ok (.getfield 158, 3) := by decide +kernel
theorem dX9_learn_58 : decode cX9_learn 58 = .ok (.iastore, 1) := by decide +kernel
theorem dX9_learn_59 : decode cX9_learn 59 = .ok (.iload_n 2, 1) := by decide +kernel
theorem dX9_learn_60 : decode cX9_learn 60 = .ok (.ireturn, 1) := by decide +kernel
theorem dX9_undo_0 : decode cX9_undo 0 = .ok (.aload_n 0, 1) := by decide +kernel
theorem dX9_undo_1 : decode cX9_undo 1 = .ok (.getfield 28, 3) := by decide +kernel
theorem dX9_undo_4 : decode cX9_undo 4 = .ok (.getfield 97, 3) := by decide +kernel
theorem dX9_undo_7 : decode cX9_undo 7 = .ok (.ifCond .ne 6, 3) := by decide +kernel
theorem dX9_undo_10 : decode cX9_undo 10 = .ok (.bipush (-4), 2) := by decide +kernel
theorem dX9_undo_12 : decode cX9_undo 12 = .ok (.ireturn, 1) := by decide +kernel
theorem dX9_undo_13 : decode cX9_undo 13 = .ok (.aload_n 0, 1) := by decide +kernel
theorem dX9_undo_14 : decode cX9_undo 14 = .ok (.getfield 28, 3) := by decide +kernel
theorem dX9_undo_17 : decode cX9_undo 17 = .ok (.invokevirtual 178, 3) := by decide +kernel
theorem dX9_undo_20 : decode cX9_undo 20 = .ok (.aload_n 0, 1) := by decide +kernel
theorem dX9_undo_21 : decode cX9_undo 21 = .ok (.getfield 28, 3) := by decide +kernel
theorem dX9_undo_24 : decode cX9_undo 24 = .ok (.getfield 97, 3) := by decide +kernel
theorem dX9_undo_27 : decode cX9_undo 27 = .ok (.ireturn, 1) := by decide +kernel
theorem dX9_seen_0 : decode cX9_seen 0 = .ok (.aload_n 0, 1) := by decide +kernel
theorem dX9_seen_1 : decode cX9_seen 1 = .ok (.getfield 10, 3) := by decide +kernel
theorem dX9_seen_4 : decode cX9_seen 4 = .ok (.iload_n 1, 1) := by decide +kernel
theorem dX9_seen_5 : decode cX9_seen 5 = .ok (.invokevirtual 169, 3) := by decide +kernel
theorem dX9_seen_8 : decode cX9_seen 8 = .ok (.ifCond .eq 15, 3) := by decide +kernel
theorem dX9_seen_11 : decode cX9_seen 11 = .ok (.aload_n 0, 1) := by decide +kernel
theorem dX9_seen_12 : decode cX9_seen 12 = .ok (.getfield 10, 3) := by decide +kernel
theorem dX9_seen_15 : decode cX9_seen 15 = .ok (.getfield 172, 3) := by decide +kernel
theorem dX9_seen_18 : decode cX9_seen 18 = .ok (.iload_n 1, 1) := by decide +kernel
theorem dX9_seen_19 : decode cX9_seen 19 = .ok (.iaload, 1) := by decide +kernel
theorem dX9_seen_20 : decode cX9_seen 20 = .ok (.goto 5, 3) := by decide +kernel
theorem dX9_seen_23 : decode cX9_seen 23 = .ok (.bipush (-2), 2) := by decide +kernel
theorem dX9_seen_25 : decode cX9_seen 25 = .ok (.ireturn, 1) := by decide +kernel
theorem dX9_next_0 : decode cX9_next 0 = .ok (.aload_n 0, 1) := by decide +kernel
theorem dX9_next_1 : decode cX9_next 1 = .ok (.getfield 10, 3) := by decide +kernel
theorem dX9_next_4 : decode cX9_next 4 = .ok (.iload_n 1, 1) := by decide +kernel
theorem dX9_next_5 : decode cX9_next 5 = .ok (.invokevirtual 169, 3) := by decide +kernel
theorem dX9_next_8 : decode cX9_next 8 = .ok (.ifCond .eq 14, 3) := by decide +kernel
theorem dX9_next_11 : decode cX9_next 11 = .ok (.aload_n 0, 1) := by decide +kernel
theorem dX9_next_12 : decode cX9_next 12 = .ok (.getfield 10, 3) := by decide +kernel
theorem dX9_next_15 : decode cX9_next 15 = .ok (.iload_n 2, 1) := by decide +kernel
theorem dX9_next_16 : decode cX9_next 16 = .ok (.invokevirtual 169, 3) := by decide +kernel
theorem dX9_next_19 : decode cX9_next 19 = .ok (.ifCond .ne 6, 3) := by decide +kernel
theorem dX9_next_22 : decode cX9_next 22 = .ok (.bipush (-2), 2) := by decide +kernel
theorem dX9_next_24 : decode cX9_next 24 = .ok (.ireturn, 1) := by decide +kernel
theorem dX9_next_25 : decode cX9_next 25 = .ok (.iload_n 3, 1) := by decide +kernel
theorem dX9_next_26 : decode cX9_next 26 = .ok (.ifCond .eq 11, 3) := by decide +kernel
theorem dX9_next_29 : decode cX9_next 29 = .ok (.iload_n 3, 1) := by decide +kernel
theorem dX9_next_30 : decode cX9_next 30 = .ok (.iconst 1, 1) := by decide +kernel
theorem dX9_next_31 : decode cX9_next 31 = .ok (.if_icmp .eq 6, 3) := by decide +kernel
theorem dX9_next_34 : decode cX9_next 34 = .ok (.bipush (-3), 2) := by decide +kernel
theorem dX9_next_36 : decode cX9_next 36 = .ok (.ireturn, 1) := by decide +kernel
theorem dX9_next_37 : decode cX9_next 37 = .ok (.aload_n 0, 1) := by decide +kernel
theorem dX9_next_38 : decode cX9_next 38 = .ok (.getfield 35, 3) := by decide +kernel
theorem dX9_next_41 : decode cX9_next 41 = .ok (.iload_n 2, 1) := by decide +kernel
theorem dX9_next_42 : decode cX9_next 42 = .ok (.iload_n 3, 1) := by decide +kernel
theorem dX9_next_43 : decode cX9_next 43 = .ok (.aload_n 0, 1) := by decide +kernel
theorem dX9_next_44 : decode cX9_next 44 = .ok (.getfield 10, 3) := by decide +kernel
theorem dX9_next_47 : decode cX9_next 47 = .ok (.getfield 172, 3) := by decide +kernel
theorem dX9_next_50 : decode cX9_next 50 = .ok (.iload_n 1, 1) := by decide +kernel
theorem dX9_next_51 : decode cX9_next 51 = .ok (.iaload, 1) := by decide +kernel
theorem dX9_next_52 : decode cX9_next 52 = .ok (.invokevirtual 181, 3) := by decide +kernel
theorem dX9_next_55 : decode cX9_next 55 = .ok (.aload_n 0, 1) := by decide +kernel
theorem dX9_next_56 : decode cX9_next 56 = .ok (.getfield 35, 3) := by decide +kernel
theorem dX9_next_59 : decode cX9_next 59 = .ok (.iload_n 1, 1) := by decide +kernel
theorem dX9_next_60 : decode cX9_next 60 = .ok (.invokevirtual 185, 3) := by decide +kernel
theorem dX9_next_63 : decode cX9_next 63 = .ok (.ireturn, 1) := by decide +kernel
theorem dX9_far_0 : decode cX9_far 0 = .ok (.aload_n 0, 1) := by decide +kernel
theorem dX9_far_1 : decode cX9_far 1 = .ok (.getfield 10, 3) := by decide +kernel
theorem dX9_far_4 : decode cX9_far 4 = .ok (.iload_n 1, 1) := by decide +kernel
theorem dX9_far_5 : decode cX9_far 5 = .ok (.invokevirtual 169, 3) := by decide +kernel
theorem dX9_far_8 : decode cX9_far 8 = .ok (.ifCond .eq 14, 3) := by decide +kernel
theorem dX9_far_11 : decode cX9_far 11 = .ok (.aload_n 0, 1) := by decide +kernel
theorem dX9_far_12 : decode cX9_far 12 = .ok (.getfield 10, 3) := by decide +kernel
theorem dX9_far_15 : decode cX9_far 15 = .ok (.iload_n 2, 1) := by decide +kernel
theorem dX9_far_16 : decode cX9_far 16 = .ok (.invokevirtual 169, 3) := by decide +kernel
theorem dX9_far_19 : decode cX9_far 19 = .ok (.ifCond .ne 6, 3) := by decide +kernel
theorem dX9_far_22 : decode cX9_far 22 = .ok (.bipush (-2), 2) := by decide +kernel
theorem dX9_far_24 : decode cX9_far 24 = .ok (.ireturn, 1) := by decide +kernel
theorem dX9_far_25 : decode cX9_far 25 = .ok (.iload_n 3, 1) := by decide +kernel
theorem dX9_far_26 : decode cX9_far 26 = .ok (.ifCond .eq 11, 3) := by decide +kernel
theorem dX9_far_29 : decode cX9_far 29 = .ok (.iload_n 3, 1) := by decide +kernel
theorem dX9_far_30 : decode cX9_far 30 = .ok (.iconst 1, 1) := by decide +kernel
theorem dX9_far_31 : decode cX9_far 31 = .ok (.if_icmp .eq 6, 3) := by decide +kernel
theorem dX9_far_34 : decode cX9_far 34 = .ok (.bipush (-3), 2) := by decide +kernel
theorem dX9_far_36 : decode cX9_far 36 = .ok (.ireturn, 1) := by decide +kernel
theorem dX9_far_37 : decode cX9_far 37 = .ok (.aload_n 0, 1) := by decide +kernel
theorem dX9_far_38 : decode cX9_far 38 = .ok (.getfield 35, 3) := by decide +kernel
theorem dX9_far_41 : decode cX9_far 41 = .ok (.iload_n 2, 1) := by decide +kernel
theorem dX9_far_42 : decode cX9_far 42 = .ok (.iload_n 3, 1) := by decide +kernel
theorem dX9_far_43 : decode cX9_far 43 = .ok (.aload_n 0, 1) := by decide +kernel
theorem dX9_far_44 : decode cX9_far 44 = .ok (.getfield 10, 3) := by decide +kernel
theorem dX9_far_47 : decode cX9_far 47 = .ok (.getfield 172, 3) := by decide +kernel
theorem dX9_far_50 : decode cX9_far 50 = .ok (.iload_n 1, 1) := by decide +kernel
theorem dX9_far_51 : decode cX9_far 51 = .ok (.iaload, 1) := by decide +kernel
theorem dX9_far_52 : decode cX9_far 52 = .ok (.invokevirtual 181, 3) := by decide +kernel
theorem dX9_far_55 : decode cX9_far 55 = .ok (.aload_n 0, 1) := by decide +kernel
theorem dX9_far_56 : decode cX9_far 56 = .ok (.getfield 35, 3) := by decide +kernel
theorem dX9_far_59 : decode cX9_far 59 = .ok (.iload_n 1, 1) := by decide +kernel
theorem dX9_far_60 : decode cX9_far 60 = .ok (.invokevirtual 188, 3) := by decide +kernel
theorem dX9_far_63 : decode cX9_far 63 = .ok (.ireturn, 1) := by decide +kernel
theorem dX9_space_0 : decode cX9_space 0 = .ok (.aload_n 0, 1) := by decide +kernel
theorem dX9_space_1 : decode cX9_space 1 = .ok (.getfield 10, 3) := by decide +kernel
theorem dX9_space_4 : decode cX9_space 4 = .ok (.iload_n 1, 1) := by decide +kernel
theorem dX9_space_5 : decode cX9_space 5 = .ok (.invokevirtual 169, 3) := by decide +kernel
theorem dX9_space_8 : decode cX9_space 8 = .ok (.ifCond .eq 14, 3) := by decide +kernel
theorem dX9_space_11 : decode cX9_space 11 = .ok (.aload_n 0, 1) := by decide +kernel
theorem dX9_space_12 : decode cX9_space 12 = .ok (.getfield 10, 3) := by decide +kernel
theorem dX9_space_15 : decode cX9_space 15 = .ok (.iload_n 2, 1) := by decide +kernel
theorem dX9_space_16 : decode cX9_space 16 = .ok (.invokevirtual 133, 3) := by decide +kernel
theorem dX9_space_19 : decode cX9_space 19 = .ok (.ifCond .ne 6, 3) := by decide +kernel
theorem dX9_space_22 : decode cX9_space 22 = .ok (.bipush (-2), 2) := by decide +kernel
theorem dX9_space_24 : decode cX9_space 24 = .ok (.ireturn, 1) := by decide +kernel
theorem dX9_space_25 : decode cX9_space 25 = .ok (.iload_n 3, 1) := by decide +kernel
theorem dX9_space_26 : decode cX9_space 26 = .ok (.ifCond .eq 11, 3) := by decide +kernel
theorem dX9_space_29 : decode cX9_space 29 = .ok (.iload_n 3, 1) := by decide +kernel
theorem dX9_space_30 : decode cX9_space 30 = .ok (.iconst 1, 1) := by decide +kernel
theorem dX9_space_31 : decode cX9_space 31 = .ok (.if_icmp .eq 6, 3) := by decide +kernel
theorem dX9_space_34 : decode cX9_space 34 = .ok (.bipush (-3), 2) := by decide +kernel
theorem dX9_space_36 : decode cX9_space 36 = .ok (.ireturn, 1) := by decide +kernel
theorem dX9_space_37 : decode cX9_space 37 = .ok (.iconst 0, 1) := by decide +kernel
theorem dX9_space_38 : decode cX9_space 38 = .ok (.istore 4, 2) := by decide +kernel
theorem dX9_space_40 : decode cX9_space 40 = .ok (.iconst 0, 1) := by decide +kernel
theorem dX9_space_41 : decode cX9_space 41 = .ok (.istore 5, 2) := by decide +kernel
theorem dX9_space_43 : decode cX9_space 43 = .ok (.iload 5, 2) := by decide +kernel
theorem dX9_space_45 : decode cX9_space 45 = .ok (.aload_n 0, 1) := by decide +kernel
theorem dX9_space_46 : decode cX9_space 46 = .ok (.getfield 10, 3) := by decide +kernel
theorem dX9_space_49 : decode cX9_space 49 = .ok (.getfield 191, 3) := by decide +kernel
theorem dX9_space_52 : decode cX9_space 52 = .ok (.if_icmp .ge 66, 3) := by decide +kernel
theorem dX9_space_55 : decode cX9_space 55 = .ok (.iload_n 3, 1) := by decide +kernel
theorem dX9_space_56 : decode cX9_space 56 = .ok (.ifCond .ne 7, 3) := by decide +kernel
theorem dX9_space_59 : decode cX9_space 59 = .ok (.iload_n 1, 1) := by decide +kernel
theorem dX9_space_60 : decode cX9_space 60 = .ok (.goto 5, 3) := by decide +kernel
theorem dX9_space_63 : decode cX9_space 63 = .ok (.iload 5, 2) := by decide +kernel
theorem dX9_space_65 : decode cX9_space 65 = .ok (.istore 6, 2) := by decide +kernel
theorem dX9_space_67 : decode cX9_space 67 = .ok (.iload_n 3, 1) := by decide +kernel
theorem dX9_space_68 : decode cX9_space 68 = .ok (.ifCond .ne 8, 3) := by decide +kernel
theorem dX9_space_71 : decode cX9_space 71 = .ok (.iload 5, 2) := by decide +kernel
theorem dX9_space_73 : decode cX9_space 73 = .ok (.goto 4, 3) := by decide +kernel
theorem dX9_space_76 : decode cX9_space 76 = .ok (.iload_n 1, 1) := by decide +kernel
theorem dX9_space_77 : decode cX9_space 77 = .ok (.istore 7, 2) := by decide +kernel
theorem dX9_space_79 : decode cX9_space 79 = .ok (.aload_n 0, 1) := by decide +kernel
theorem dX9_space_80 : decode cX9_space 80 = .ok (.getfield 35, 3) := by decide +kernel
theorem dX9_space_83 : decode cX9_space 83 = .ok (.iload 6, 2) := by decide +kernel
theorem dX9_space_85 : decode cX9_space 85 = .ok (.iload 7, 2) := by decide +kernel
theorem dX9_space_87 : decode cX9_space 87 = .ok (.aload_n 0, 1) := by decide +kernel
theorem dX9_space_88 : decode cX9_space 88 = .ok (.getfield 10, 3) := by decide +kernel
theorem dX9_space_91 : decode cX9_space 91 = .ok (.getfield 172, 3) := by decide +kernel
theorem dX9_space_94 : decode cX9_space 94 = .ok (.iload_n 1, 1) := by decide +kernel
theorem dX9_space_95 : decode cX9_space 95 = .ok (.iaload, 1) := by decide +kernel
theorem dX9_space_96 : decode cX9_space 96 = .ok (.iload_n 2, 1) := by decide +kernel
theorem dX9_space_97 : decode cX9_space 97 = .ok (.invokevirtual 194, 3) := by decide +kernel
theorem dX9_space_100 : decode cX9_space 100 = .ok (.ifCond .eq 12, 3) := by decide +kernel
theorem dX9_space_103 : decode cX9_space 103 = .ok (.iload 4, 2) := by decide +kernel
theorem dX9_space_105 : decode cX9_space 105 = .ok (.iconst 1, 1) := by decide +kernel
theorem dX9_space_106 : decode cX9_space 106 = .ok (.iload 5, 2) := by decide +kernel
theorem dX9_space_108 : decode cX9_space 108 = .ok (.ishl, 1) := by decide +kernel
theorem dX9_space_109 : decode cX9_space 109 = .ok (.ior, 1) := by decide +kernel
theorem dX9_space_110 : decode cX9_space 110 = .ok (.istore 4, 2) := by decide +kernel
theorem dX9_space_112 : decode cX9_space 112 = .ok (.iinc 5 1, 3) := by decide +kernel
theorem dX9_space_115 : decode cX9_space 115 = .ok (.goto (-72), 3) := by decide +kernel
theorem dX9_space_118 : decode cX9_space 118 = .ok (.iload 4, 2) := by decide +kernel
theorem dX9_space_120 : decode cX9_space 120 = .ok (.ireturn, 1) := by decide +kernel
theorem dX9_rings_0 : decode cX9_rings 0 = .ok (.aload_n 0, 1) := by decide +kernel
theorem dX9_rings_1 : decode cX9_rings 1 = .ok (.getfield 10, 3) := by decide +kernel
theorem dX9_rings_4 : decode cX9_rings 4 = .ok (.iload_n 1, 1) := by decide +kernel
theorem dX9_rings_5 : decode cX9_rings 5 = .ok (.invokevirtual 169, 3) := by decide +kernel
theorem dX9_rings_8 : decode cX9_rings 8 = .ok (.ifCond .ne 6, 3) := by decide +kernel
theorem dX9_rings_11 : decode cX9_rings 11 = .ok (.bipush (-2), 2) := by decide +kernel
theorem dX9_rings_13 : decode cX9_rings 13 = .ok (.ireturn, 1) := by decide +kernel
theorem dX9_rings_14 : decode cX9_rings 14 = .ok (.aload_n 0, 1) := by decide +kernel
theorem dX9_rings_15 : decode cX9_rings 15 = .ok (.getfield 44, 3) := by decide +kernel
theorem dX9_rings_18 : decode cX9_rings 18 = .ok (.iload_n 1, 1) := by decide +kernel
theorem dX9_rings_19 : decode cX9_rings 19 = .ok (.invokevirtual 198, 3) := by decide +kernel
theorem dX9_rings_22 : decode cX9_rings 22 = .ok (.aload_n 0, 1) := by decide +kernel
theorem dX9_rings_23 : decode cX9_rings 23 = .ok (.getfield 44, 3) := by decide +kernel
theorem dX9_rings_26 : decode cX9_rings 26 = .ok (.iload_n 1, 1) := by decide +kernel
theorem dX9_rings_27 : decode cX9_rings 27 = .ok (.iconst 0, 1) := by decide +kernel
theorem dX9_rings_28 : decode cX9_rings 28 = .ok (.invokevirtual 201, 3) := by decide +kernel
theorem dX9_rings_31 : decode cX9_rings 31 = .ok (.ireturn, 1) := by decide +kernel
theorem dX9_safe_0 : decode cX9_safe 0 = .ok (.aload_n 0, 1) := by decide +kernel
theorem dX9_safe_1 : decode cX9_safe 1 = .ok (.getfield 10, 3) := by decide +kernel
theorem dX9_safe_4 : decode cX9_safe 4 = .ok (.iload_n 1, 1) := by decide +kernel
theorem dX9_safe_5 : decode cX9_safe 5 = .ok (.invokevirtual 169, 3) := by decide +kernel
theorem dX9_safe_8 : decode cX9_safe 8 = .ok (.ifCond .ne 6, 3) := by decide +kernel
theorem dX9_safe_11 : decode cX9_safe 11 = .ok (.bipush (-2), 2) := by decide +kernel
theorem dX9_safe_13 : decode cX9_safe 13 = .ok (.ireturn, 1) := by decide +kernel
theorem dX9_safe_14 : decode cX9_safe 14 = .ok (.aload_n 0, 1) := by decide +kernel
theorem dX9_safe_15 : decode cX9_safe 15 = .ok (.getfield 44, 3) := by decide +kernel
theorem dX9_safe_18 : decode cX9_safe 18 = .ok (.invokevirtual 204, 3) := by decide +kernel
theorem dX9_safe_21 : decode cX9_safe 21 = .ok (.aload_n 0, 1) := by decide +kernel
theorem dX9_safe_22 : decode cX9_safe 22 = .ok (.getfield 44, 3) := by decide +kernel
theorem dX9_safe_25 : decode cX9_safe 25 = .ok (.iconst 1, 1) := by decide +kernel
theorem dX9_safe_26 : decode cX9_safe 26 = .ok (.iload_n 1, 1) := by decide +kernel
theorem dX9_safe_27 : decode cX9_safe 27 = .ok (.ishl, 1) := by decide +kernel
theorem dX9_safe_28 : decode cX9_safe 28 = .ok (.invokevirtual 207, 3) := by decide +kernel
theorem dX9_safe_31 : decode cX9_safe 31 = .ok (.ifCond .eq 7, 3) := by decide +kernel
theorem dX9_safe_34 : decode cX9_safe 34 = .ok (.iconst 0, 1) := by decide +kernel
theorem dX9_safe_35 : decode cX9_safe 35 = .ok (.goto 4, 3) := by decide +kernel
theorem dX9_safe_38 : decode cX9_safe 38 = .ok (.iconst 1, 1) := by decide +kernel
theorem dX9_safe_39 : decode cX9_safe 39 = .ok (.ireturn, 1) := by decide +kernel
theorem dX9_order_0 : decode cX9_order 0 = .ok (.iload_n 1, 1) := by decide +kernel
theorem dX9_order_1 : decode cX9_order 1 = .ok (.iconst (-1), 1) := by decide +kernel
theorem dX9_order_2 : decode cX9_order 2 = .ok (.if_icmp .ge 6, 3) := by decide +kernel
theorem dX9_order_5 : decode cX9_order 5 = .ok (.bipush (-3), 2) := by decide +kernel
theorem dX9_order_7 : decode cX9_order 7 = .ok (.ireturn, 1) := by decide +kernel
theorem dX9_order_8 : decode cX9_order 8 = .ok (.aload_n 0, 1) := by decide +kernel
theorem dX9_order_9 : decode cX9_order 9 = .ok (.getfield 44, 3) := by decide +kernel
theorem dX9_order_12 : decode cX9_order 12 = .ok (.invokevirtual 210, 3) := by decide +kernel
theorem dX9_order_15 : decode cX9_order 15 = .ok (.ifCond .eq 17, 3) := by decide +kernel
theorem dX9_order_18 : decode cX9_order 18 = .ok (.aload_n 0, 1) := by decide +kernel
theorem dX9_order_19 : decode cX9_order 19 = .ok (.getfield 44, 3) := by decide +kernel
theorem dX9_order_22 : decode cX9_order 22 = .ok (.getfield 214, 3) := by decide +kernel
theorem dX9_order_25 : decode cX9_order 25 = .ok (.iload_n 1, 1) := by decide +kernel
theorem dX9_order_26 : decode cX9_order 26 = .ok (.invokevirtual 217, 3) := by decide +kernel
theorem dX9_order_29 : decode cX9_order 29 = .ok (.goto 5, 3) := by decide +kernel
theorem dX9_order_32 : decode cX9_order 32 = .ok (.bipush (-4), 2) := by decide +kernel
theorem dX9_order_34 : decode cX9_order 34 = .ok (.ireturn, 1) := by decide +kernel
theorem dX9_push_0 : decode cX9_push 0 = .ok (.iload_n 1, 1) := by decide +kernel
theorem dX9_push_1 : decode cX9_push 1 = .ok (.ifCond .lt 8, 3) := by decide +kernel
theorem dX9_push_4 : decode cX9_push 4 = .ok (.iload_n 1, 1) := by decide +kernel
theorem dX9_push_5 : decode cX9_push 5 = .ok (.iconst 2, 1) := by decide +kernel
theorem dX9_push_6 : decode cX9_push 6 = .ok (.if_icmp .le 6, 3) := by decide +kernel
theorem dX9_push_9 : decode cX9_push 9 = .ok (.bipush (-3), 2) := by decide +kernel
theorem dX9_push_11 : decode cX9_push 11 = .ok (.ireturn, 1) := by decide +kernel
theorem dX9_push_12 : decode cX9_push 12 = .ok (.iload_n 1, 1) := by decide +kernel
theorem dX9_push_13 : decode cX9_push 13 = .ok (.iconst 2, 1) := by decide +kernel
theorem dX9_push_14 : decode cX9_push 14 = .ok (.if_icmp .ne 17, 3) := by decide +kernel
theorem dX9_push_17 : decode cX9_push 17 = .ok (.aload_n 0, 1) := by decide +kernel
theorem dX9_push_18 : decode cX9_push 18 = .ok (.getfield 10, 3) := by decide +kernel
theorem dX9_push_21 : decode cX9_push 21 = .ok (.iload_n 2, 1) := by decide +kernel
theorem dX9_push_22 : decode cX9_push 22 = .ok (.invokevirtual 133, 3) := by decide +kernel
theorem dX9_push_25 : decode cX9_push 25 = .ok (.ifCond .ne 20, 3) := by decide +kernel
theorem dX9_push_28 : decode cX9_push 28 = .ok (.goto 14, 3) := by decide +kernel
theorem dX9_push_31 : decode cX9_push 31 = .ok (.aload_n 0, 1) := by decide +kernel
theorem dX9_push_32 : decode cX9_push 32 = .ok (.getfield 10, 3) := by decide +kernel
theorem dX9_push_35 : decode cX9_push 35 = .ok (.iload_n 2, 1) := by decide +kernel
theorem dX9_push_36 : decode cX9_push 36 = .ok (.invokevirtual 169, 3) := by decide +kernel
theorem dX9_push_39 : decode cX9_push 39 = .ok (.ifCond .ne 6, 3) := by decide +kernel
theorem dX9_push_42 : decode cX9_push 42 = .ok (.bipush (-2), 2) := by decide +kernel
theorem dX9_push_44 : decode cX9_push 44 = .ok (.ireturn, 1) := by decide +kernel
theorem dX9_push_45 : decode cX9_push 45 = .ok (.aload_n 0, 1) := by decide +kernel
theorem dX9_push_46 : decode cX9_push 46 = .ok (.getfield 53, 3) := by decide +kernel
theorem dX9_push_49 : decode cX9_push 49 = .ok (.getfield 124, 3) := by decide +kernel
theorem dX9_push_52 : decode cX9_push 52 = .ok (.bipush 8, 2) := by decide +kernel
theorem dX9_push_54 : decode cX9_push 54 = .ok (.if_icmp .lt 6, 3) := by decide +kernel
theorem dX9_push_57 : decode cX9_push 57 = .ok (.bipush (-5), 2) := by decide +kernel
theorem dX9_push_59 : decode cX9_push 59 = .ok (.ireturn, 1) := by decide +kernel
theorem dX9_push_60 : decode cX9_push 60 = .ok (.aload_n 0, 1) := by decide +kernel
theorem dX9_push_61 : decode cX9_push 61 = .ok (.getfield 53, 3) := by decide +kernel
theorem dX9_push_64 : decode cX9_push 64 = .ok (.iload_n 1, 1) := by decide +kernel
theorem dX9_push_65 : decode cX9_push 65 = .ok (.iload_n 2, 1) := by decide +kernel
theorem dX9_push_66 : decode cX9_push 66 = .ok (.invokevirtual 219, 3) := by decide +kernel
theorem dX9_push_69 : decode cX9_push 69 = .ok (.aload_n 0, 1) := by decide +kernel
theorem dX9_push_70 : decode cX9_push 70 = .ok (.getfield 53, 3) := by decide +kernel
theorem dX9_push_73 : decode cX9_push 73 = .ok (.getfield 124, 3) := by decide +kernel
theorem dX9_push_76 : decode cX9_push 76 = .ok (.ireturn, 1) := by decide +kernel
theorem dX9_clear_0 : decode cX9_clear 0 = .ok (.aload_n 0, 1) := by decide +kernel
theorem dX9_clear_1 : decode cX9_clear 1 = .ok (.getfield 53, 3) := by decide +kernel
theorem dX9_clear_4 : decode cX9_clear 4 = .ok (.getfield 124, 3) := by decide +kernel
theorem dX9_clear_7 : decode cX9_clear 7 = .ok (.istore_n 1, 1) := by decide +kernel
theorem dX9_clear_8 : decode cX9_clear 8 = .ok (.aload_n 0, 1) := by decide +kernel
theorem dX9_clear_9 : decode cX9_clear 9 = .ok (.getfield 53, 3) := by decide +kernel
theorem dX9_clear_12 : decode cX9_clear 12 = .ok (.iconst 0, 1) := by decide +kernel
theorem dX9_clear_13 : decode cX9_clear 13 = .ok (.putfield 124, 3) := by decide +kernel
theorem dX9_clear_16 : decode cX9_clear 16 = .ok (.iload_n 1, 1) := by decide +kernel
theorem dX9_clear_17 : decode cX9_clear 17 = .ok (.ireturn, 1) := by decide +kernel
theorem dX9_segment_0 : decode cX9_segment 0 = .ok (.iload_n 1, 1) := by decide +kernel
theorem dX9_segment_1 : decode cX9_segment 1 = .ok (.ifCond .lt 14, 3) := by decide +kernel
theorem dX9_segment_4 : decode cX9_segment 4 = .ok (.iload_n 1, 1) := by decide +kernel
theorem dX9_segment_5 : decode cX9_segment 5 = .ok (.aload_n 0, 1) := by decide +kernel
theorem dX9_segment_6 : decode cX9_segment 6 = .ok (.getfield 53, 3) := by decide +kernel
theorem dX9_segment_9 : decode cX9_segment 9 = .ok (.getfield 124, 3) := by decide +kernel
theorem dX9_segment_12 : decode cX9_segment 12 = .ok (.if_icmp .lt 6, 3) := by decide +kernel
theorem dX9_segment_15 : decode cX9_segment 15 = .ok (.bipush (-2), 2) := by decide +kernel
theorem dX9_segment_17 : decode cX9_segment 17 = .ok (.ireturn, 1) := by decide +kernel
theorem dX9_segment_18 : decode cX9_segment 18 = .ok (.iload_n 2, 1) := by decide +kernel
theorem dX9_segment_19 : decode cX9_segment 19 = .ok (.ifCond .eq 11, 3) := by decide +kernel
theorem dX9_segment_22 : decode cX9_segment 22 = .ok (.iload_n 2, 1) := by decide +kernel
theorem dX9_segment_23 : decode cX9_segment 23 = .ok (.iconst 1, 1) := by decide +kernel
theorem dX9_segment_24 : decode cX9_segment 24 = .ok (.if_icmp .eq 6, 3) := by decide +kernel
theorem dX9_segment_27 : decode cX9_segment 27 = .ok (.bipush (-3), 2) := by decide +kernel
theorem dX9_segment_29 : decode cX9_segment 29 = .ok (.ireturn, 1) := by decide +kernel
theorem dX9_segment_30 : decode cX9_segment 30 = .ok (.iload_n 2, 1) := by decide +kernel
theorem dX9_segment_31 : decode cX9_segment 31 = .ok (.ifCond .ne 15, 3) := by decide +kernel
theorem dX9_segment_34 : decode cX9_segment 34 = .ok (.aload_n 0, 1) := by decide +kernel
theorem dX9_segment_35 : decode cX9_segment 35 = .ok (.getfield 53, 3) := by decide +kernel
theorem dX9_segment_38 : decode cX9_segment 38 = .ok (.getfield 223, 3) := by decide +kernel
theorem dX9_segment_41 : decode cX9_segment 41 = .ok (.iload_n 1, 1) := by decide +kernel
theorem dX9_segment_42 : decode cX9_segment 42 = .ok (.iaload, 1) := by decide +kernel
theorem dX9_segment_43 : decode cX9_segment 43 = .ok (.goto 12, 3) := by decide +kernel
theorem dX9_segment_46 : decode cX9_segment 46 = .ok (.aload_n 0, 1) := by decide +kernel
theorem dX9_segment_47 : decode cX9_segment 47 = .ok (.getfield 53, 3) := by decide +kernel
theorem dX9_segment_50 : decode cX9_segment 50 = .ok (.getfield 226, 3) := by decide +kernel
theorem dX9_segment_53 : decode cX9_segment 53 = .ok (.iload_n 1, 1) := by decide +kernel
theorem dX9_segment_54 : decode cX9_segment 54 = .ok (.iaload, 1) := by decide +kernel
theorem dX9_segment_55 : decode cX9_segment 55 = .ok (.ireturn, 1) := by decide +kernel
theorem dX9_repair_0 : decode cX9_repair 0 = .ok (.aload_n 0, 1) := by decide +kernel
theorem dX9_repair_1 : decode cX9_repair 1 = .ok (.getfield 10, 3) := by decide +kernel
theorem dX9_repair_4 : decode cX9_repair 4 = .ok (.iload_n 1, 1) := by decide +kernel
theorem dX9_repair_5 : decode cX9_repair 5 = .ok (.invokevirtual 169, 3) := by decide +kernel
theorem dX9_repair_8 : decode cX9_repair 8 = .ok (.ifCond .eq 30, 3) := by decide +kernel
theorem dX9_repair_11 : decode cX9_repair 11 = .ok (.aload_n 0, 1) := by decide +kernel
theorem dX9_repair_12 : decode cX9_repair 12 = .ok (.getfield 10, 3) := by decide +kernel
theorem dX9_repair_15 : decode cX9_repair 15 = .ok (.iload_n 2, 1) := by decide +kernel
theorem dX9_repair_16 : decode cX9_repair 16 = .ok (.invokevirtual 133, 3) := by decide +kernel
theorem dX9_repair_19 : decode cX9_repair 19 = .ok (.ifCond .eq 19, 3) := by decide +kernel
theorem dX9_repair_22 : decode cX9_repair 22 = .ok (.aload_n 0, 1) := by decide +kernel
theorem dX9_repair_23 : decode cX9_repair 23 = .ok (.getfield 10, 3) := by decide +kernel
theorem dX9_repair_26 : decode cX9_repair 26 = .ok (.iload_n 3, 1) := by decide +kernel
theorem dX9_repair_27 : decode cX9_repair 27 = .ok (.invokevirtual 169, 3) := by decide +kernel
theorem dX9_repair_30 : decode cX9_repair 30 = .ok (.ifCond .eq 8, 3) := by decide +kernel
theorem dX9_repair_33 : decode cX9_repair 33 = .ok (.iload_n 3, 1) := by decide +kernel
theorem dX9_repair_34 : decode cX9_repair 34 = .ok (.iload_n 1, 1) := by decide +kernel
theorem dX9_repair_35 : decode cX9_repair 35 = .ok (.if_icmp .ne 6, 3) := by decide +kernel
theorem dX9_repair_38 : decode cX9_repair 38 = .ok (.bipush (-2), 2) := by decide +kernel
theorem dX9_repair_40 : decode cX9_repair 40 = .ok (.ireturn, 1) := by decide +kernel
theorem dX9_repair_41 : decode cX9_repair 41 = .ok (.iload 4, 2) := by decide +kernel
theorem dX9_repair_43 : decode cX9_repair 43 = .ok (.iconst (-1), 1) := by decide +kernel
theorem dX9_repair_44 : decode cX9_repair 44 = .ok (.if_icmp .ge 6, 3) := by decide +kernel
theorem dX9_repair_47 : decode cX9_repair 47 = .ok (.bipush (-3), 2) := by decide +kernel
theorem dX9_repair_49 : decode cX9_repair 49 = .ok (.ireturn, 1) := by decide +kernel
theorem dX9_repair_50 : decode cX9_repair 50 = .ok (.aload_n 0, 1) := by decide +kernel
theorem dX9_repair_51 : decode cX9_repair 51 = .ok (.getfield 67, 3) := by decide +kernel
theorem dX9_repair_54 : decode cX9_repair 54 = .ok (.iload_n 1, 1) := by decide +kernel
theorem dX9_repair_55 : decode cX9_repair 55 = .ok (.iload_n 2, 1) := by decide +kernel
theorem dX9_repair_56 : decode cX9_repair 56 = .ok (.iload_n 3, 1) := by decide +kernel
theorem dX9_repair_57 : decode cX9_repair 57 = .ok (.invokevirtual 229, 3) := by decide +kernel
theorem dX9_repair_60 : decode cX9_repair 60 = .ok (.ifCond .eq 18, 3) := by decide +kernel
theorem dX9_repair_63 : decode cX9_repair 63 = .ok (.aload_n 0, 1) := by decide +kernel
theorem dX9_repair_64 : decode cX9_repair 64 = .ok (.getfield 67, 3) := by decide +kernel
theorem dX9_repair_67 : decode cX9_repair 67 = .ok (.getfield 233, 3) := by decide +kernel
theorem dX9_repair_70 : decode cX9_repair 70 = .ok (.iload 4, 2) := by decide +kernel
theorem dX9_repair_72 : decode cX9_repair 72 = .ok (.invokevirtual 236, 3) := by decide +kernel
theorem dX9_repair_75 : decode cX9_repair 75 = .ok (.goto 5, 3) := by decide +kernel
theorem dX9_repair_78 : decode cX9_repair 78 = .ok (.bipush (-4), 2) := by decide +kernel
theorem dX9_repair_80 : decode cX9_repair 80 = .ok (.ireturn, 1) := by decide +kernel
theorem dX9_trace_0 : decode cX9_trace 0 = .ok (.aload_n 0, 1) := by decide +kernel
theorem dX9_trace_1 : decode cX9_trace 1 = .ok (.getfield 10, 3) := by decide +kernel
theorem dX9_trace_4 : decode cX9_trace 4 = .ok (.iload_n 1, 1) := by decide +kernel
theorem dX9_trace_5 : decode cX9_trace 5 = .ok (.invokevirtual 169, 3) := by decide +kernel
theorem dX9_trace_8 : decode cX9_trace 8 = .ok (.ifCond .ne 6, 3) := by decide +kernel
theorem dX9_trace_11 : decode cX9_trace 11 = .ok (.bipush (-2), 2) := by decide +kernel
theorem dX9_trace_13 : decode cX9_trace 13 = .ok (.ireturn, 1) := by decide +kernel
theorem dX9_trace_14 : decode cX9_trace 14 = .ok (.aload_n 0, 1) := by decide +kernel
theorem dX9_trace_15 : decode cX9_trace 15 = .ok (.getfield 60, 3) := by decide +kernel
theorem dX9_trace_18 : decode cX9_trace 18 = .ok (.invokevirtual 237, 3) := by decide +kernel
theorem dX9_trace_21 : decode cX9_trace 21 = .ok (.istore_n 2, 1) := by decide +kernel
theorem dX9_trace_22 : decode cX9_trace 22 = .ok (.aload_n 0, 1) := by decide +kernel
theorem dX9_trace_23 : decode cX9_trace 23 = .ok (.getfield 60, 3) := by decide +kernel
theorem dX9_trace_26 : decode cX9_trace 26 = .ok (.iload_n 1, 1) := by decide +kernel
theorem dX9_trace_27 : decode cX9_trace 27 = .ok (.invokevirtual 240, 3) := by decide +kernel
theorem dX9_trace_30 : decode cX9_trace 30 = .ok (.ifCond .ne 21, 3) := by decide +kernel
theorem dX9_trace_33 : decode cX9_trace 33 = .ok (.iload_n 2, 1) := by decide +kernel
theorem dX9_trace_34 : decode cX9_trace 34 = .ok (.iconst (-1), 1) := by decide +kernel
theorem dX9_trace_35 : decode cX9_trace 35 = .ok (.if_icmp .eq 19, 3) := by decide +kernel
theorem dX9_trace_38 : decode cX9_trace 38 = .ok (.aload_n 0, 1) := by decide +kernel
theorem dX9_trace_39 : decode cX9_trace 39 = .ok (.getfield 10, 3) := by decide +kernel
theorem dX9_trace_42 : decode cX9_trace 42 = .ok (.iload_n 2, 1) := by decide +kernel
theorem dX9_trace_43 : decode cX9_trace 43 = .ok (.iload_n 1, 1) := by decide +kernel
theorem dX9_trace_44 : decode cX9_trace 44 = .ok (.invokevirtual 243, 3) := by decide +kernel
theorem dX9_trace_47 : decode cX9_trace 47 = .ok (.iconst (-1), 1) := by decide +kernel
theorem dX9_trace_48 : decode cX9_trace 48 = .ok (.if_icmp .ne 6, 3) := by decide +kernel
theorem dX9_trace_51 : decode cX9_trace 51 = .ok (.bipush (-4), 2) := by decide +kernel
theorem dX9_trace_53 : decode cX9_trace 53 = .ok (.ireturn, 1) := by decide +kernel
theorem dX9_trace_54 : decode cX9_trace 54 = .ok (.aload_n 0, 1) := by decide +kernel
theorem dX9_trace_55 : decode cX9_trace 55 = .ok (.getfield 60, 3) := by decide +kernel
theorem dX9_trace_58 : decode cX9_trace 58 = .ok (.getfield 125, 3) := by decide +kernel
theorem dX9_trace_61 : decode cX9_trace 61 = .ok (.bipush 8, 2) := by decide +kernel
theorem dX9_trace_63 : decode cX9_trace 63 = .ok (.if_icmp .lt 6, 3) := by decide +kernel
theorem dX9_trace_66 : decode cX9_trace 66 = .ok (.bipush (-5), 2) := by decide +kernel
theorem dX9_trace_68 : decode cX9_trace 68 = .ok (.ireturn, 1) := by decide +kernel
theorem dX9_trace_69 : decode cX9_trace 69 = .ok (.aload_n 0, 1) := by decide +kernel
theorem dX9_trace_70 : decode cX9_trace 70 = .ok (.getfield 60, 3) := by decide +kernel
theorem dX9_trace_73 : decode cX9_trace 73 = .ok (.iload_n 1, 1) := by decide +kernel
theorem dX9_trace_74 : decode cX9_trace 74 = .ok (.invokevirtual 246, 3) := by decide +kernel
theorem dX9_trace_77 : decode cX9_trace 77 = .ok (.aload_n 0, 1) := by decide +kernel
theorem dX9_trace_78 : decode cX9_trace 78 = .ok (.getfield 60, 3) := by decide +kernel
theorem dX9_trace_81 : decode cX9_trace 81 = .ok (.getfield 125, 3) := by decide +kernel
theorem dX9_trace_84 : decode cX9_trace 84 = .ok (.ireturn, 1) := by decide +kernel
theorem dX9_untrace_0 : decode cX9_untrace 0 = .ok (.aload_n 0, 1) := by decide +kernel
theorem dX9_untrace_1 : decode cX9_untrace 1 = .ok (.getfield 60, 3) := by decide +kernel
theorem dX9_untrace_4 : decode cX9_untrace 4 = .ok (.getfield 125, 3) := by decide +kernel
theorem dX9_untrace_7 : decode cX9_untrace 7 = .ok (.istore_n 1, 1) := by decide +kernel
theorem dX9_untrace_8 : decode cX9_untrace 8 = .ok (.aload_n 0, 1) := by decide +kernel
theorem dX9_untrace_9 : decode cX9_untrace 9 = .ok (.getfield 60, 3) := by decide +kernel
theorem dX9_untrace_12 : decode cX9_untrace 12 = .ok (.iconst 0, 1) := by decide +kernel
theorem dX9_untrace_13 : decode cX9_untrace 13 = .ok (.putfield 125, 3) := by decide +kernel
theorem dX9_untrace_16 : decode cX9_untrace 16 = .ok (.iload_n 1, 1) := by decide +kernel
theorem dX9_untrace_17 : decode cX9_untrace 17 = .ok (.ireturn, 1) := by decide +kernel
theorem dX9_brief_0 : decode cX9_brief 0 = .ok (.iload_n 1, 1) := by decide +kernel
theorem dX9_brief_1 : decode cX9_brief 1 = .ok (.iconst (-1), 1) := by decide +kernel
theorem dX9_brief_2 : decode cX9_brief 2 = .ok (.if_icmp .ge 6, 3) := by decide +kernel
theorem dX9_brief_5 : decode cX9_brief 5 = .ok (.bipush (-3), 2) := by decide +kernel
theorem dX9_brief_7 : decode cX9_brief 7 = .ok (.ireturn, 1) := by decide +kernel
theorem dX9_brief_8 : decode cX9_brief 8 = .ok (.aload_n 0, 1) := by decide +kernel
theorem dX9_brief_9 : decode cX9_brief 9 = .ok (.getfield 67, 3) := by decide +kernel
theorem dX9_brief_12 : decode cX9_brief 12 = .ok (.aload_n 0, 1) := by decide +kernel
theorem dX9_brief_13 : decode cX9_brief 13 = .ok (.getfield 60, 3) := by decide +kernel
theorem dX9_brief_16 : decode cX9_brief 16 = .ok (.invokevirtual 248, 3) := by decide +kernel
theorem dX9_brief_19 : decode cX9_brief 19 = .ok (.ifCond .eq 17, 3) := by decide +kernel
theorem dX9_brief_22 : decode cX9_brief 22 = .ok (.aload_n 0, 1) := by decide +kernel
theorem dX9_brief_23 : decode cX9_brief 23 = .ok (.getfield 67, 3) := by decide +kernel
theorem dX9_brief_26 : decode cX9_brief 26 = .ok (.getfield 233, 3) := by decide +kernel
theorem dX9_brief_29 : decode cX9_brief 29 = .ok (.iload_n 1, 1) := by decide +kernel
theorem dX9_brief_30 : decode cX9_brief 30 = .ok (.invokevirtual 236, 3) := by decide +kernel
theorem dX9_brief_33 : decode cX9_brief 33 = .ok (.goto 5, 3) := by decide +kernel
theorem dX9_brief_36 : decode cX9_brief 36 = .ok (.bipush (-4), 2) := by decide +kernel
theorem dX9_brief_38 : decode cX9_brief 38 = .ok (.ireturn, 1) := by decide +kernel
theorem dX9_adopt_0 : decode cX9_adopt 0 = .ok (.aload_n 0, 1) := by decide +kernel
theorem dX9_adopt_1 : decode cX9_adopt 1 = .ok (.getfield 67, 3) := by decide +kernel
theorem dX9_adopt_4 : decode cX9_adopt 4 = .ok (.aload_n 0, 1) := by decide +kernel
theorem dX9_adopt_5 : decode cX9_adopt 5 = .ok (.getfield 60, 3) := by decide +kernel
theorem dX9_adopt_8 : decode cX9_adopt 8 = .ok (.invokevirtual 248, 3) := by decide +kernel
theorem dX9_adopt_11 : decode cX9_adopt 11 = .ok (.ifCond .ne 6, 3) := by decide +kernel
theorem dX9_adopt_14 : decode cX9_adopt 14 = .ok (.bipush (-4), 2) := by decide +kernel
theorem dX9_adopt_16 : decode cX9_adopt 16 = .ok (.ireturn, 1) := by decide +kernel
theorem dX9_adopt_17 : decode cX9_adopt 17 = .ok (.aload_n 0, 1) := by decide +kernel
theorem dX9_adopt_18 : decode cX9_adopt 18 = .ok (.getfield 53, 3) := by decide +kernel
theorem dX9_adopt_21 : decode cX9_adopt 21 = .ok (.aload_n 0, 1) := by decide +kernel
theorem dX9_adopt_22 : decode cX9_adopt 22 = .ok (.getfield 67, 3) := by decide +kernel
theorem dX9_adopt_25 : decode cX9_adopt 25 = .ok (.getfield 233, 3) := by decide +kernel
theorem dX9_adopt_28 : decode cX9_adopt 28 = .ok (.invokevirtual 252, 3) := by decide +kernel
theorem dX9_adopt_31 : decode cX9_adopt 31 = .ok (.aload_n 0, 1) := by decide +kernel
theorem dX9_adopt_32 : decode cX9_adopt 32 = .ok (.getfield 53, 3) := by decide +kernel
theorem dX9_adopt_35 : decode cX9_adopt 35 = .ok (.getfield 124, 3) := by decide +kernel
theorem dX9_adopt_38 : decode cX9_adopt 38 = .ok (.ireturn, 1) := by decide +kernel
theorem dX9_protect_0 : decode cX9_protect 0 = .ok (.iload_n 1, 1) := by decide +kernel
theorem dX9_protect_1 : decode cX9_protect 1 = .ok (.ifCond .eq 11, 3) := by decide +kernel
theorem dX9_protect_4 : decode cX9_protect 4 = .ok (.iload_n 1, 1) := by decide +kernel
theorem dX9_protect_5 : decode cX9_protect 5 = .ok (.iconst 1, 1) := by decide +kernel
theorem dX9_protect_6 : decode cX9_protect 6 = .ok (.if_icmp .eq 6, 3) := by decide +kernel
theorem dX9_protect_9 : decode cX9_protect 9 = .ok (.bipush (-3), 2) := by decide +kernel
theorem dX9_protect_11 : decode cX9_protect 11 = .ok (.ireturn, 1) := by decide +kernel
theorem dX9_protect_12 : decode cX9_protect 12 = .ok (.aload_n 0, 1) := by decide +kernel
theorem dX9_protect_13 : decode cX9_protect 13 = .ok (.getfield 76, 3) := by decide +kernel
theorem dX9_protect_16 : decode cX9_protect 16 = .ok (.getfield 126, 3) := by decide +kernel
theorem dX9_protect_19 : decode cX9_protect 19 = .ok (.istore_n 2, 1) := by decide +kernel
theorem dX9_protect_20 : decode cX9_protect 20 = .ok (.aload_n 0, 1) := by decide +kernel
theorem dX9_protect_21 : decode cX9_protect 21 = .ok (.getfield 76, 3) := by decide +kernel
theorem dX9_protect_24 : decode cX9_protect 24 = .ok (.iload_n 1, 1) := by decide +kernel
theorem dX9_protect_25 : decode cX9_protect 25 = .ok (.putfield 126, 3) := by decide +kernel
theorem dX9_protect_28 : decode cX9_protect 28 = .ok (.iload_n 2, 1) := by decide +kernel
theorem dX9_protect_29 : decode cX9_protect 29 = .ok (.ireturn, 1) := by decide +kernel
theorem dX9_send_0 : decode cX9_send 0 = .ok (.aload_n 0, 1) := by decide +kernel
theorem dX9_send_1 : decode cX9_send 1 = .ok (.getfield 10, 3) := by decide +kernel
theorem dX9_send_4 : decode cX9_send 4 = .ok (.iload_n 1, 1) := by decide +kernel
theorem dX9_send_5 : decode cX9_send 5 = .ok (.invokevirtual 169, 3) := by decide +kernel
theorem dX9_send_8 : decode cX9_send 8 = .ok (.ifCond .ne 6, 3) := by decide +kernel
theorem dX9_send_11 : decode cX9_send 11 = .ok (.bipush (-2), 2) := by decide +kernel
theorem dX9_send_13 : decode cX9_send 13 = .ok (.ireturn, 1) := by decide +kernel
theorem dX9_send_14 : decode cX9_send 14 = .ok (.aload_n 0, 1) := by decide +kernel
theorem dX9_send_15 : decode cX9_send 15 = .ok (.getfield 76, 3) := by decide +kernel
theorem dX9_send_18 : decode cX9_send 18 = .ok (.iload_n 1, 1) := by decide +kernel
theorem dX9_send_19 : decode cX9_send 19 = .ok (.aload_n 0, 1) := by decide +kernel
theorem dX9_send_20 : decode cX9_send 20 = .ok (.getfield 53, 3) := by decide +kernel
theorem dX9_send_23 : decode cX9_send 23 = .ok (.invokevirtual 256, 3) := by decide +kernel
theorem dX9_send_26 : decode cX9_send 26 = .ok (.aload_n 0, 1) := by decide +kernel
theorem dX9_send_27 : decode cX9_send 27 = .ok (.getfield 76, 3) := by decide +kernel
theorem dX9_send_30 : decode cX9_send 30 = .ok (.iload_n 1, 1) := by decide +kernel
theorem dX9_send_31 : decode cX9_send 31 = .ok (.invokevirtual 260, 3) := by decide +kernel
theorem dX9_send_34 : decode cX9_send 34 = .ok (.istore_n 2, 1) := by decide +kernel
theorem dX9_send_35 : decode cX9_send 35 = .ok (.aload_n 0, 1) := by decide +kernel
theorem dX9_send_36 : decode cX9_send 36 = .ok (.getfield 76, 3) := by decide +kernel
theorem dX9_send_39 : decode cX9_send 39 = .ok (.iload_n 2, 1) := by decide +kernel
theorem dX9_send_40 : decode cX9_send 40 = .ok (.invokevirtual 263, 3) := by decide +kernel
theorem dX9_send_43 : decode cX9_send 43 = .ok (.iload_n 2, 1) := by decide +kernel
theorem dX9_send_44 : decode cX9_send 44 = .ok (.ireturn, 1) := by decide +kernel
theorem dX9_way_0 : decode cX9_way 0 = .ok (.iload_n 1, 1) := by decide +kernel
theorem dX9_way_1 : decode cX9_way 1 = .ok (.iconst (-1), 1) := by decide +kernel
theorem dX9_way_2 : decode cX9_way 2 = .ok (.if_icmp .ge 6, 3) := by decide +kernel
theorem dX9_way_5 : decode cX9_way 5 = .ok (.bipush (-3), 2) := by decide +kernel
theorem dX9_way_7 : decode cX9_way 7 = .ok (.ireturn, 1) := by decide +kernel
theorem dX9_way_8 : decode cX9_way 8 = .ok (.aload_n 0, 1) := by decide +kernel
theorem dX9_way_9 : decode cX9_way 9 = .ok (.getfield 76, 3) := by decide +kernel
theorem dX9_way_12 : decode cX9_way 12 = .ok (.getfield 266, 3) := by decide +kernel
theorem dX9_way_15 : decode cX9_way 15 = .ok (.ifCond .ne 5, 3) := by decide +kernel
theorem dX9_way_18 : decode cX9_way 18 = .ok (.iconst (-1), 1) := by decide +kernel
theorem dX9_way_19 : decode cX9_way 19 = .ok (.ireturn, 1) := by decide +kernel
theorem dX9_way_20 : decode cX9_way 20 = .ok (.iload_n 1, 1) := by decide +kernel
theorem dX9_way_21 : decode cX9_way 21 = .ok (.iconst (-1), 1) := by decide +kernel
theorem dX9_way_22 : decode cX9_way 22 = .ok (.if_icmp .ne 13, 3) := by decide +kernel
theorem dX9_way_25 : decode cX9_way 25 = .ok (.aload_n 0, 1) := by decide +kernel
theorem dX9_way_26 : decode cX9_way 26 = .ok (.getfield 76, 3) := by decide +kernel
theorem dX9_way_29 : decode cX9_way 29 = .ok (.invokevirtual 269, 3) := by decide +kernel
theorem dX9_way_32 : decode cX9_way 32 = .ok (.goto 14, 3) := by decide +kernel
theorem dX9_way_35 : decode cX9_way 35 = .ok (.aload_n 0, 1) := by decide +kernel
theorem dX9_way_36 : decode cX9_way 36 = .ok (.getfield 76, 3) := by decide +kernel
theorem dX9_way_39 : decode cX9_way 39 = .ok (.getfield 272, 3) := by decide +kernel
theorem dX9_way_42 : decode cX9_way 42 = .ok (.iload_n 1, 1) := by decide +kernel
theorem dX9_way_43 : decode cX9_way 43 = .ok (.invokevirtual 217, 3) := by decide +kernel
theorem dX9_way_46 : decode cX9_way 46 = .ok (.ireturn, 1) := by decide +kernel
theorem dX9_count_0 : decode cX9_count 0 = .ok (.iload_n 1, 1) := by decide +kernel
theorem dX9_count_1 : decode cX9_count 1 = .ok (.tableswitch 137 0 12 #[67, 75, 83, 94, 105, 113, 137, 137, 137, 137, 137, 121, 129], 67) := by decide +kernel
theorem dX9_count_68 : decode cX9_count 68 = .ok (.aload_n 0, 1) := by decide +kernel
theorem dX9_count_69 : decode cX9_count 69 = .ok (.getfield 10, 3) := by decide +kernel
theorem dX9_count_72 : decode cX9_count 72 = .ok (.getfield 191, 3) := by decide +kernel
theorem dX9_count_75 : decode cX9_count 75 = .ok (.ireturn, 1) := by decide +kernel
theorem dX9_count_76 : decode cX9_count 76 = .ok (.aload_n 0, 1) := by decide +kernel
theorem dX9_count_77 : decode cX9_count 77 = .ok (.getfield 10, 3) := by decide +kernel
theorem dX9_count_80 : decode cX9_count 80 = .ok (.getfield 275, 3) := by decide +kernel
theorem dX9_count_83 : decode cX9_count 83 = .ok (.ireturn, 1) := by decide +kernel
theorem dX9_count_84 : decode cX9_count 84 = .ok (.aload_n 0, 1) := by decide +kernel
theorem dX9_count_85 : decode cX9_count 85 = .ok (.getfield 10, 3) := by decide +kernel
theorem dX9_count_88 : decode cX9_count 88 = .ok (.getfield 158, 3) := by decide +kernel
theorem dX9_count_91 : decode cX9_count 91 = .ok (.invokestatic 161, 3) := by decide +kernel
theorem dX9_count_94 : decode cX9_count 94 = .ok (.ireturn, 1) := by decide +kernel
theorem dX9_count_95 : decode cX9_count 95 = .ok (.aload_n 0, 1) := by decide +kernel
theorem dX9_count_96 : decode cX9_count 96 = .ok (.getfield 10, 3) := by decide +kernel
theorem dX9_count_99 : decode cX9_count 99 = .ok (.invokevirtual 278, 3) := by decide +kernel
theorem dX9_count_102 : decode cX9_count 102 = .ok (.invokestatic 161, 3) := by decide +kernel
theorem dX9_count_105 : decode cX9_count 105 = .ok (.ireturn, 1) := by decide +kernel
theorem dX9_count_106 : decode cX9_count 106 = .ok (.aload_n 0, 1) := by decide +kernel
theorem dX9_count_107 : decode cX9_count 107 = .ok (.getfield 53, 3) := by decide +kernel
theorem dX9_count_110 : decode cX9_count 110 = .ok (.getfield 124, 3) := by decide +kernel
theorem dX9_count_113 : decode cX9_count 113 = .ok (.ireturn, 1) := by decide +kernel
theorem dX9_count_114 : decode cX9_count 114 = .ok (.aload_n 0, 1) := by decide +kernel
theorem dX9_count_115 : decode cX9_count 115 = .ok (.getfield 60, 3) := by decide +kernel
theorem dX9_count_118 : decode cX9_count 118 = .ok (.getfield 125, 3) := by decide +kernel
theorem dX9_count_121 : decode cX9_count 121 = .ok (.ireturn, 1) := by decide +kernel
theorem dX9_count_122 : decode cX9_count 122 = .ok (.aload_n 0, 1) := by decide +kernel
theorem dX9_count_123 : decode cX9_count 123 = .ok (.getfield 28, 3) := by decide +kernel
theorem dX9_count_126 : decode cX9_count 126 = .ok (.getfield 97, 3) := by decide +kernel
theorem dX9_count_129 : decode cX9_count 129 = .ok (.ireturn, 1) := by decide +kernel
theorem dX9_count_130 : decode cX9_count 130 = .ok (.aload_n 0, 1) := by decide +kernel
theorem dX9_count_131 : decode cX9_count 131 = .ok (.getfield 21, 3) := by decide +kernel
theorem dX9_count_134 : decode cX9_count 134 = .ok (.getfield 80, 3) := by decide +kernel
theorem dX9_count_137 : decode cX9_count 137 = .ok (.ireturn, 1) := by decide +kernel
theorem dX9_count_138 : decode cX9_count 138 = .ok (.aload_n 0, 1) := by decide +kernel
theorem dX9_count_139 : decode cX9_count 139 = .ok (.getfield 76, 3) := by decide +kernel
theorem dX9_count_142 : decode cX9_count 142 = .ok (.iload_n 1, 1) := by decide +kernel
theorem dX9_count_143 : decode cX9_count 143 = .ok (.invokevirtual 281, 3) := by decide +kernel
theorem dX9_count_146 : decode cX9_count 146 = .ok (.ireturn, 1) := by decide +kernel
theorem dX10_init_0 : decode cX10_init 0 = .ok (.aload_n 0, 1) := by decide +kernel
theorem dX10_init_1 : decode cX10_init 1 = .ok (.invokespecial 1, 3) := by decide +kernel
theorem dX10_init_4 : decode cX10_init 4 = .ok (.aload_n 0, 1) := by decide +kernel
theorem dX10_init_5 : decode cX10_init 5 = .ok (.iconst 2, 1) := by decide +kernel
theorem dX10_init_6 : decode cX10_init 6 = .ok (.putfield 7, 3) := by decide +kernel
theorem dX10_init_9 : decode cX10_init 9 = .ok (.aload_n 0, 1) := by decide +kernel
theorem dX10_init_10 : decode cX10_init 10 = .ok (.bipush 14, 2) := by decide +kernel
theorem dX10_init_12 : decode cX10_init 12 = .ok (.newarray .int, 2) := by decide +kernel
theorem dX10_init_14 : decode cX10_init 14 = .ok (.putfield 13, 3) := by decide +kernel
theorem dX10_init_17 : decode cX10_init 17 = .ok (.aload_n 0, 1) := by decide +kernel
theorem dX10_init_18 : decode cX10_init 18 = .ok (.bipush 14, 2) := by decide +kernel
theorem dX10_init_20 : decode cX10_init 20 = .ok (.newarray .int, 2) := by decide +kernel
theorem dX10_init_22 : decode cX10_init 22 = .ok (.putfield 17, 3) := by decide +kernel
theorem dX10_init_25 : decode cX10_init 25 = .ok (.aload_n 0, 1) := by decide +kernel
theorem dX10_init_26 : decode cX10_init 26 = .ok (.bipush 14, 2) := by decide +kernel
theorem dX10_init_28 : decode cX10_init 28 = .ok (.newarray .int, 2) := by decide +kernel
theorem dX10_init_30 : decode cX10_init 30 = .ok (.putfield 20, 3) := by decide +kernel
theorem dX10_init_33 : decode cX10_init 33 = .ok (.aload_n 0, 1) := by decide +kernel
theorem dX10_init_34 : decode cX10_init 34 = .ok (.bipush 37, 2) := by decide +kernel
theorem dX10_init_36 : decode cX10_init 36 = .ok (.newarray .int, 2) := by decide +kernel
theorem dX10_init_38 : decode cX10_init 38 = .ok (.putfield 23, 3) := by decide +kernel
theorem dX10_init_41 : decode cX10_init 41 = .ok (.aload_n 0, 1) := by decide +kernel
theorem dX10_init_42 : decode cX10_init 42 = .ok (.sipush 296, 3) := by decide +kernel
theorem dX10_init_45 : decode cX10_init 45 = .ok (.newarray .int, 2) := by decide +kernel
theorem dX10_init_47 : decode cX10_init 47 = .ok (.putfield 26, 3) := by decide +kernel
theorem dX10_init_50 : decode cX10_init 50 = .ok (.aload_n 0, 1) := by decide +kernel
theorem dX10_init_51 : decode cX10_init 51 = .ok (.bipush 8, 2) := by decide +kernel
theorem dX10_init_53 : decode cX10_init 53 = .ok (.newarray .int, 2) := by decide +kernel
theorem dX10_init_55 : decode cX10_init 55 = .ok (.putfield 29, 3) := by decide +kernel
theorem dX10_init_58 : decode cX10_init 58 = .ok (.aload_n 0, 1) := by decide +kernel
theorem dX10_init_59 : decode cX10_init 59 = .ok (.bipush 8, 2) := by decide +kernel
theorem dX10_init_61 : decode cX10_init 61 = .ok (.newarray .int, 2) := by decide +kernel
theorem dX10_init_63 : decode cX10_init 63 = .ok (.putfield 32, 3) := by decide +kernel
theorem dX10_init_66 : decode cX10_init 66 = .ok (.aload_n 0, 1) := by decide +kernel
theorem dX10_init_67 : decode cX10_init 67 = .ok (.bipush 8, 2) := by decide +kernel
theorem dX10_init_69 : decode cX10_init 69 = .ok (.newarray .int, 2) := by decide +kernel
theorem dX10_init_71 : decode cX10_init 71 = .ok (.putfield 35, 3) := by decide +kernel
theorem dX10_init_74 : decode cX10_init 74 = .ok (.aload_n 0, 1) := by decide +kernel
theorem dX10_init_75 : decode cX10_init 75 = .ok (.bipush 64, 2) := by decide +kernel
theorem dX10_init_77 : decode cX10_init 77 = .ok (.newarray .int, 2) := by decide +kernel
theorem dX10_init_79 : decode cX10_init 79 = .ok (.putfield 38, 3) := by decide +kernel
theorem dX10_init_82 : decode cX10_init 82 = .ok (.aload_n 0, 1) := by decide +kernel
theorem dX10_init_83 : decode cX10_init 83 = .ok (.bipush 8, 2) := by decide +kernel
theorem dX10_init_85 : decode cX10_init 85 = .ok (.newarray .int, 2) := by decide +kernel
theorem dX10_init_87 : decode cX10_init 87 = .ok (.putfield 41, 3) := by decide +kernel
theorem dX10_init_90 : decode cX10_init 90 = .ok (.aload_n 0, 1) := by decide +kernel
theorem dX10_init_91 : decode cX10_init 91 = .ok (.bipush 64, 2) := by decide +kernel
theorem dX10_init_93 : decode cX10_init 93 = .ok (.newarray .int, 2) := by decide +kernel
theorem dX10_init_95 : decode cX10_init 95 = .ok (.putfield 44, 3) := by decide +kernel
theorem dX10_init_98 : decode cX10_init 98 = .ok (.aload_n 0, 1) := by decide +kernel
theorem dX10_init_99 : decode cX10_init 99 = .ok (.bipush 8, 2) := by decide +kernel
theorem dX10_init_101 : decode cX10_init 101 = .ok (.newarray .int, 2) := by decide +kernel
theorem dX10_init_103 : decode cX10_init 103 = .ok (.putfield 47, 3) := by decide +kernel
theorem dX10_init_106 : decode cX10_init 106 = .ok (.aload_n 0, 1) := by decide +kernel
theorem dX10_init_107 : decode cX10_init 107 = .ok (.bipush 8, 2) := by decide +kernel
theorem dX10_init_109 : decode cX10_init 109 = .ok (.newarray .int, 2) := by decide +kernel
theorem dX10_init_111 : decode cX10_init 111 = .ok (.putfield 50, 3) := by decide +kernel
theorem dX10_init_114 : decode cX10_init 114 = .ok (.aload_n 0, 1) := by decide +kernel
theorem dX10_init_115 : decode cX10_init 115 = .ok (.bipush 8, 2) := by decide +kernel
theorem dX10_init_117 : decode cX10_init 117 = .ok (.newarray .int, 2) := by decide +kernel
theorem dX10_init_119 : decode cX10_init 119 = .ok (.putfield 53, 3) := by decide +kernel
theorem dX10_init_122 : decode cX10_init 122 = .ok (.aload_n 0, 1) := by decide +kernel
theorem dX10_init_123 : decode cX10_init 123 = .ok (.sipush 200, 3) := by decide +kernel
theorem dX10_init_126 : decode cX10_init 126 = .ok (.newarray .int, 2) := by decide +kernel
theorem dX10_init_128 : decode cX10_init 128 = .ok (.putfield 56, 3) := by decide +kernel
theorem dX10_init_131 : decode cX10_init 131 = .ok (.aload_n 0, 1) := by decide +kernel
theorem dX10_init_132 : decode cX10_init 132 = .ok (.bipush 14, 2) := by decide +kernel
theorem dX10_init_134 : decode cX10_init 134 = .ok (.newarray .int, 2) := by decide +kernel
theorem dX10_init_136 : decode cX10_init 136 = .ok (.putfield 59, 3) := by decide +kernel
theorem dX10_init_139 : decode cX10_init 139 = .ok (.aload_n 0, 1) := by decide +kernel
theorem dX10_init_140 : decode cX10_init 140 = .ok (.bipush 14, 2) := by decide +kernel
theorem dX10_init_142 : decode cX10_init 142 = .ok (.newarray .int, 2) := by decide +kernel
theorem dX10_init_144 : decode cX10_init 144 = .ok (.putfield 62, 3) := by decide +kernel
theorem dX10_init_147 : decode cX10_init 147 = .ok (.aload_n 0, 1) := by decide +kernel
theorem dX10_init_148 : decode cX10_init 148 = .ok (.bipush 64, 2) := by decide +kernel
theorem dX10_init_150 : decode cX10_init 150 = .ok (.newarray .int, 2) := by decide +kernel
theorem dX10_init_152 : decode cX10_init 152 = .ok (.putfield 65, 3) := by decide +kernel
theorem dX10_init_155 : decode cX10_init 155 = .ok (.aload_n 0, 1) := by decide +kernel
theorem dX10_init_156 : decode cX10_init 156 = .ok (.bipush 64, 2) := by decide +kernel
theorem dX10_init_158 : decode cX10_init 158 = .ok (.newarray .int, 2) := by decide +kernel
theorem dX10_init_160 : decode cX10_init 160 = .ok (.putfield 68, 3) := by decide +kernel
theorem dX10_init_163 : decode cX10_init 163 = .ok (.aload_n 0, 1) := by decide +kernel
theorem dX10_init_164 : decode cX10_init 164 = .ok (.sipush 256, 3) := by decide +kernel
theorem dX10_init_167 : decode cX10_init 167 = .ok (.newarray .int, 2) := by decide +kernel
theorem dX10_init_169 : decode cX10_init 169 = .ok (.putfield 71, 3) := by decide +kernel
theorem dX10_init_172 : decode cX10_init 172 = .ok (.aload_n 0, 1) := by decide +kernel
theorem dX10_init_173 : decode cX10_init 173 = .ok (.iconst (-1), 1) := by decide +kernel
theorem dX10_init_174 : decode cX10_init 174 = .ok (.putfield 74, 3) := by decide +kernel
theorem dX10_init_177 : decode cX10_init 177 = .ok (.aload_n 0, 1) := by decide +kernel
theorem dX10_init_178 : decode cX10_init 178 = .ok (.bipush 21, 2) := by decide +kernel
theorem dX10_init_180 : decode cX10_init 180 = .ok (.newarray .int, 2) := by decide +kernel
theorem dX10_init_182 : decode cX10_init 182 = .ok (.putfield 77, 3) := by decide +kernel
theorem dX10_init_185 : decode cX10_init 185 = .ok (.aload_n 0, 1) := by decide +kernel
theorem dX10_init_186 : decode cX10_init 186 = .ok (.bipush 24, 2) := by decide +kernel
theorem dX10_init_188 : decode cX10_init 188 = .ok (.newarray .int, 2) := by decide +kernel
theorem dX10_init_190 : decode cX10_init 190 = .ok (.putfield 80, 3) := by decide +kernel
theorem dX10_init_193 : decode cX10_init 193 = .ok (.aload_n 0, 1) := by decide +kernel
theorem dX10_init_194 : decode cX10_init 194 = .ok (.bipush 24, 2) := by decide +kernel
theorem dX10_init_196 : decode cX10_init 196 = .ok (.newarray .int, 2) := by decide +kernel
theorem dX10_init_198 : decode cX10_init 198 = .ok (.putfield 83, 3) := by decide +kernel
theorem dX10_init_201 : decode cX10_init 201 = .ok (.return_, 1) := by decide +kernel
theorem dX10_in_0 : decode cX10_in 0 = .ok (.iload_n 0, 1) := by decide +kernel
theorem dX10_in_1 : decode cX10_in 1 = .ok (.iload_n 1, 1) := by decide +kernel
theorem dX10_in_2 : decode cX10_in 2 = .ok (.if_icmp .lt 12, 3) := by decide +kernel
theorem dX10_in_5 : decode cX10_in 5 = .ok (.iload_n 0, 1) := by decide +kernel
theorem dX10_in_6 : decode cX10_in 6 = .ok (.iload_n 2, 1) := by decide +kernel
theorem dX10_in_7 : decode cX10_in 7 = .ok (.if_icmp .gt 7, 3) := by decide +kernel
theorem dX10_in_10 : decode cX10_in 10 = .ok (.iconst 1, 1) := by decide +kernel
theorem dX10_in_11 : decode cX10_in 11 = .ok (.goto 4, 3) := by decide +kernel
theorem dX10_in_14 : decode cX10_in 14 = .ok (.iconst 0, 1) := by decide +kernel
theorem dX10_in_15 : decode cX10_in 15 = .ok (.ireturn, 1) := by decide +kernel
theorem dX10_has_0 : decode cX10_has 0 = .ok (.iload_n 0, 1) := by decide +kernel
theorem dX10_has_1 : decode cX10_has 1 = .ok (.iload_n 1, 1) := by decide +kernel
theorem dX10_has_2 : decode cX10_has 2 = .ok (.ishr, 1) := by decide +kernel
theorem dX10_has_3 : decode cX10_has 3 = .ok (.iconst 1, 1) := by decide +kernel
theorem dX10_has_4 : decode cX10_has 4 = .ok (.iand, 1) := by decide +kernel
theorem dX10_has_5 : decode cX10_has 5 = .ok (.iconst 1, 1) := by decide +kernel
theorem dX10_has_6 : decode cX10_has 6 = .ok (.if_icmp .ne 7, 3) := by decide +kernel
theorem dX10_has_9 : decode cX10_has 9 = .ok (.iconst 1, 1) := by decide +kernel
theorem dX10_has_10 : decode cX10_has 10 = .ok (.goto 4, 3) := by decide +kernel
theorem dX10_has_13 : decode cX10_has 13 = .ok (.iconst 0, 1) := by decide +kernel
theorem dX10_has_14 : decode cX10_has 14 = .ok (.ireturn, 1) := by decide +kernel
theorem dX10_ones_0 : decode cX10_ones 0 = .ok (.iconst 0, 1) := by decide +kernel
theorem dX10_ones_1 : decode cX10_ones 1 = .ok (.istore_n 1, 1) := by decide +kernel
theorem dX10_ones_2 : decode cX10_ones 2 = .ok (.iload_n 0, 1) := by decide +kernel
theorem dX10_ones_3 : decode cX10_ones 3 = .ok (.istore_n 2, 1) := by decide +kernel
theorem dX10_ones_4 : decode cX10_ones 4 = .ok (.iload_n 2, 1) := by decide +kernel
theorem dX10_ones_5 : decode cX10_ones 5 = .ok (.ifCond .le 15, 3) := by decide +kernel
theorem dX10_ones_8 : decode cX10_ones 8 = .ok (.iinc 1 1, 3) := by decide +kernel
theorem dX10_ones_11 : decode cX10_ones 11 = .ok (.iload_n 2, 1) := by decide +kernel
theorem dX10_ones_12 : decode cX10_ones 12 = .ok (.iload_n 2, 1) := by decide +kernel
theorem dX10_ones_13 : decode cX10_ones 13 = .ok (.iconst 1, 1) := by decide +kernel
theorem dX10_ones_14 : decode cX10_ones 14 = .ok (.isub, 1) := by decide +kernel
theorem dX10_ones_15 : decode cX10_ones 15 = .ok (.iand, 1) := by decide +kernel
theorem dX10_ones_16 : decode cX10_ones 16 = .ok (.istore_n 2, 1) := by decide +kernel
theorem dX10_ones_17 : decode cX10_ones 17 = .ok (.goto (-13), 3) := by decide +kernel
theorem dX10_ones_20 : decode cX10_ones 20 = .ok (.iload_n 1, 1) := by decide +kernel
theorem dX10_ones_21 : decode cX10_ones 21 = .ok (.ireturn, 1) := by decide +kernel
theorem dX10_isNode_0 : decode cX10_isNode 0 = .ok (.iload_n 1, 1) := by decide +kernel
theorem dX10_isNode_1 : decode cX10_isNode 1 = .ok (.iconst 0, 1) := by decide +kernel
theorem dX10_isNode_2 : decode cX10_isNode 2 = .ok (.aload_n 0, 1) := by decide +kernel
theorem dX10_isNode_3 : decode cX10_isNode 3 = .ok (.getfield 7, 3) := by decide +kernel
theorem dX10_isNode_6 : decode cX10_isNode 6 = .ok (.iconst 1, 1) := by decide +kernel
theorem dX10_isNode_7 : decode cX10_isNode 7 = .ok (.isub, 1) := by decide +kernel
theorem dX10_isNode_8 : decode cX10_isNode 8 = .ok (.invokestatic 86, 3) := by decide +kernel
theorem dX10_isNode_11 : decode cX10_isNode 11 = .ok (.ireturn, 1) := by decide +kernel
theorem dX10_isLink_0 : decode cX10_isLink 0 = .ok (.iload_n 1, 1) := by decide +kernel
theorem dX10_isLink_1 : decode cX10_isLink 1 = .ok (.iconst 0, 1) := by decide +kernel
theorem dX10_isLink_2 : decode cX10_isLink 2 = .ok (.aload_n 0, 1) := by decide +kernel
theorem dX10_isLink_3 : decode cX10_isLink 3 = .ok (.getfield 90, 3) := by decide +kernel
theorem dX10_isLink_6 : decode cX10_isLink 6 = .ok (.iconst 1, 1) := by decide +kernel
theorem dX10_isLink_7 : decode cX10_isLink 7 = .ok (.isub, 1) := by decide +kernel
theorem dX10_isLink_8 : decode cX10_isLink 8 = .ok (.invokestatic 86, 3) := by decide +kernel
theorem dX10_isLink_11 : decode cX10_isLink 11 = .ok (.ireturn, 1) := by decide +kernel
theorem dX10_linkOf_0 : decode cX10_linkOf 0 = .ok (.iconst 0, 1) := by decide +kernel
theorem dX10_linkOf_1 : decode cX10_linkOf 1 = .ok (.istore_n 3, 1) := by decide +kernel
theorem dX10_linkOf_2 : decode cX10_linkOf 2 = .ok (.iload_n 3, 1) := by decide +kernel
theorem dX10_linkOf_3 : decode cX10_linkOf 3 = .ok (.aload_n 0, 1) := by decide +kernel
theorem dX10_linkOf_4 : decode cX10_linkOf 4 = .ok (.getfield 90, 3) := by decide +kernel
theorem dX10_linkOf_7 : decode cX10_linkOf 7 = .ok (.if_icmp .ge 51, 3) := by decide +kernel
theorem dX10_linkOf_10 : decode cX10_linkOf 10 = .ok (.aload_n 0, 1) := by decide +kernel
theorem dX10_linkOf_11 : decode cX10_linkOf 11 = .ok (.getfield 13, 3) := by decide +kernel
theorem dX10_linkOf_14 : decode cX10_linkOf 14 = .ok (.iload_n 3, 1) := by decide +kernel
theorem dX10_linkOf_15 : decode cX10_linkOf 15 = .ok (.iaload, 1) := by decide +kernel
theorem dX10_linkOf_16 : decode cX10_linkOf 16 = .ok (.iload_n 1, 1) := by decide +kernel
theorem dX10_linkOf_17 : decode cX10_linkOf 17 = .ok (.if_icmp .ne 13, 3) := by decide +kernel
theorem dX10_linkOf_20 : decode cX10_linkOf 20 = .ok (.aload_n 0, 1) := by decide +kernel
theorem dX10_linkOf_21 : decode cX10_linkOf 21 = .ok (.getfield 17, 3) := by decide +kernel
theorem dX10_linkOf_24 : decode cX10_linkOf 24 = .ok (.iload_n 3, 1) := by decide +kernel
theorem dX10_linkOf_25 : decode cX10_linkOf 25 = .ok (.iaload, 1) := by decide +kernel
theorem dX10_linkOf_26 : decode cX10_linkOf 26 = .ok (.iload_n 2, 1) := by decide +kernel
theorem dX10_linkOf_27 : decode cX10_linkOf 27 = .ok (.if_icmp .eq 23, 3) := by decide +kernel
theorem dX10_linkOf_30 : decode cX10_linkOf 30 = .ok (.aload_n 0, 1) := by decide +kernel
theorem dX10_linkOf_31 : decode cX10_linkOf 31 = .ok (.getfield 13, 3) := by decide +kernel
theorem dX10_linkOf_34 : decode cX10_linkOf 34 = .ok (.iload_n 3, 1) := by decide +kernel
theorem dX10_linkOf_35 : decode cX10_linkOf 35 = .ok (.iaload, 1) := by decide +kernel
theorem dX10_linkOf_36 : decode cX10_linkOf 36 = .ok (.iload_n 2, 1) := by decide +kernel
theorem dX10_linkOf_37 : decode cX10_linkOf 37 = .ok (.if_icmp .ne 15, 3) := by decide +kernel
theorem dX10_linkOf_40 : decode cX10_linkOf 40 = .ok (.aload_n 0, 1) := by decide +kernel
theorem dX10_linkOf_41 : decode cX10_linkOf 41 = .ok (.getfield 17, 3) := by decide +kernel
theorem dX10_linkOf_44 : decode cX10_linkOf 44 = .ok (.iload_n 3, 1) := by decide +kernel
theorem dX10_linkOf_45 : decode cX10_linkOf 45 = .ok (.iaload, 1) := by decide +kernel
theorem dX10_linkOf_46 : decode cX10_linkOf 46 = .ok (.iload_n 1, 1) := by decide +kernel
theorem dX10_linkOf_47 : decode cX10_linkOf 47 = .ok (.if_icmp .ne 5, 3) := by decide +kernel
theorem dX10_linkOf_50 : decode cX10_linkOf 50 = .ok (.iload_n 3, 1) := by decide +kernel
theorem dX10_linkOf_51 : decode cX10_linkOf 51 = .ok (.ireturn, 1) := by decide +kernel
theorem dX10_linkOf_52 : decode cX10_linkOf 52 = .ok (.iinc 3 1, 3) := by decide +kernel
theorem dX10_linkOf_55 : decode cX10_linkOf 55 = .ok (.goto (-53), 3) := by decide +kernel
theorem dX10_linkOf_58 : decode cX10_linkOf 58 = .ok (.iconst (-1), 1) := by decide +kernel
theorem dX10_linkOf_59 : decode cX10_linkOf 59 = .ok (.ireturn, 1) := by decide +kernel
theorem dX10_otherEnd_0 : decode cX10_otherEnd 0 = .ok (.aload_n 0, 1) := by decide +kernel
theorem dX10_otherEnd_1 : decode cX10_otherEnd 1 = .ok (.getfield 13, 3) := by decide +kernel
theorem dX10_otherEnd_4 : decode cX10_otherEnd 4 = .ok (.iload_n 1, 1) := by decide +kernel
theorem dX10_otherEnd_5 : decode cX10_otherEnd 5 = .ok (.iaload, 1) := by decide +kernel
theorem dX10_otherEnd_6 : decode cX10_otherEnd 6 = .ok (.iload_n 2, 1) := by decide +kernel
theorem dX10_otherEnd_7 : decode cX10_otherEnd 7 = .ok (.if_icmp .ne 12, 3) := by decide +kernel
theorem dX10_otherEnd_10 : decode cX10_otherEnd 10 = .ok (.aload_n 0, 1) := by decide +kernel
theorem dX10_otherEnd_11 : decode cX10_otherEnd 11 = .ok (.getfield 17, 3) := by decide +kernel
theorem dX10_otherEnd_14 : decode cX10_otherEnd 14 = .ok (.iload_n 1, 1) := by decide +kernel
theorem dX10_otherEnd_15 : decode cX10_otherEnd 15 = .ok (.iaload, 1) := by decide +kernel
theorem dX10_otherEnd_16 : decode cX10_otherEnd 16 = .ok (.goto 9, 3) := by decide +kernel
theorem dX10_otherEnd_19 : decode cX10_otherEnd 19 = .ok (.aload_n 0, 1) := by decide +kernel
theorem dX10_otherEnd_20 : decode cX10_otherEnd 20 = .ok (.getfield 13, 3) := by decide +kernel
theorem dX10_otherEnd_23 : decode cX10_otherEnd 23 = .ok (.iload_n 1, 1) := by decide +kernel
theorem dX10_otherEnd_24 : decode cX10_otherEnd 24 = .ok (.iaload, 1) := by decide +kernel
theorem dX10_otherEnd_25 : decode cX10_otherEnd 25 = .ok (.ireturn, 1) := by decide +kernel
theorem dX10_length_0 : decode cX10_length 0 = .ok (.aload_n 0, 1) := by decide +kernel
theorem dX10_length_1 : decode cX10_length 1 = .ok (.getfield 23, 3) := by decide +kernel
theorem dX10_length_4 : decode cX10_length 4 = .ok (.iload_n 2, 1) := by decide +kernel
theorem dX10_length_5 : decode cX10_length 5 = .ok (.ifCond .ne 7, 3) := by decide +kernel
theorem dX10_length_8 : decode cX10_length 8 = .ok (.iconst 0, 1) := by decide +kernel
theorem dX10_length_9 : decode cX10_length 9 = .ok (.goto 5, 3) := by decide +kernel
theorem dX10_length_12 : decode cX10_length 12 = .ok (.bipush 14, 2) := by decide +kernel
theorem dX10_length_14 : decode cX10_length 14 = .ok (.iload_n 1, 1) := by decide +kernel
theorem dX10_length_15 : decode cX10_length 15 = .ok (.iadd, 1) := by decide +kernel
theorem dX10_length_16 : decode cX10_length 16 = .ok (.iaload, 1) := by decide +kernel
theorem dX10_length_17 : decode cX10_length 17 = .ok (.ireturn, 1) := by decide +kernel
theorem dX10_lays_0 : decode cX10_lays 0 = .ok (.iconst 0, 1) := by decide +kernel
theorem dX10_lays_1 : decode cX10_lays 1 = .ok (.istore_n 3, 1) := by decide +kernel
theorem dX10_lays_2 : decode cX10_lays 2 = .ok (.iload_n 3, 1) := by decide +kernel
theorem dX10_lays_3 : decode cX10_lays 3 = .ok (.bipush 64, 2) := by decide +kernel
theorem dX10_lays_5 : decode cX10_lays 5 = .ok (.if_icmp .ge 33, 3) := by decide +kernel
theorem dX10_lays_8 : decode cX10_lays 8 = .ok (.aload_n 0, 1) := by decide +kernel
theorem dX10_lays_9 : decode cX10_lays 9 = .ok (.getfield 38, 3) := by decide +kernel
theorem dX10_lays_12 : decode cX10_lays 12 = .ok (.iload_n 3, 1) := by decide +kernel
theorem dX10_lays_13 : decode cX10_lays 13 = .ok (.iload_n 3, 1) := by decide +kernel
theorem dX10_lays_14 : decode cX10_lays 14 = .ok (.bipush 8, 2) := by decide +kernel
theorem dX10_lays_16 : decode cX10_lays 16 = .ok (.idiv, 1) := by decide +kernel
theorem dX10_lays_17 : decode cX10_lays 17 = .ok (.iload_n 3, 1) := by decide +kernel
theorem dX10_lays_18 : decode cX10_lays 18 = .ok (.bipush 8, 2) := by decide +kernel
theorem dX10_lays_20 : decode cX10_lays 20 = .ok (.irem, 1) := by decide +kernel
theorem dX10_lays_21 : decode cX10_lays 21 = .ok (.if_icmp .ne 7, 3) := by decide +kernel
theorem dX10_lays_24 : decode cX10_lays 24 = .ok (.iconst 0, 1) := by decide +kernel
theorem dX10_lays_25 : decode cX10_lays 25 = .ok (.goto 6, 3) := by decide +kernel
theorem dX10_lays_28 : decode cX10_lays 28 = .ok (.sipush 9999, 3) := by decide +kernel
theorem dX10_lays_31 : decode cX10_lays 31 = .ok (.iastore, 1) := by decide +kernel
theorem dX10_lays_32 : decode cX10_lays 32 = .ok (.iinc 3 1, 3) := by decide +kernel
theorem dX10_lays_35 : decode cX10_lays 35 = .ok (.goto (-33), 3) := by decide +kernel
theorem dX10_lays_38 : decode cX10_lays 38 = .ok (.iconst 0, 1) := by decide +kernel
theorem dX10_lays_39 : decode cX10_lays 39 = .ok (.istore_n 3, 1) := by decide +kernel
theorem dX10_lays_40 : decode cX10_lays 40 = .ok (.iload_n 3, 1) := by decide +kernel
theorem dX10_lays_41 : decode cX10_lays 41 = .ok (.aload_n 0, 1) := by decide +kernel
theorem dX10_lays_42 : decode cX10_lays 42 = .ok (.getfield 90, 3) := by decide +kernel
theorem dX10_lays_45 : decode cX10_lays 45 = .ok (.if_icmp .ge 71, 3) := by decide +kernel
theorem dX10_lays_48 : decode cX10_lays 48 = .ok (.iload_n 2, 1) := by decide +kernel
theorem dX10_lays_49 : decode cX10_lays 49 = .ok (.iload_n 3, 1) := by decide +kernel
theorem dX10_lays_50 : decode cX10_lays 50 = .ok (.invokestatic 93, 3) := by decide +kernel
theorem dX10_lays_53 : decode cX10_lays 53 = .ok (.ifCond .eq 57, 3) := by decide +kernel
theorem dX10_lays_56 : decode cX10_lays 56 = .ok (.aload_n 0, 1) := by decide +kernel
theorem dX10_lays_57 : decode cX10_lays 57 = .ok (.getfield 38, 3) := by decide +kernel
theorem dX10_lays_60 : decode cX10_lays 60 = .ok (.bipush 8, 2) := by decide +kernel
theorem dX10_lays_62 : decode cX10_lays 62 = .ok (.aload_n 0, 1) := by decide +kernel
theorem dX10_lays_63 : decode cX10_lays 63 = .ok (.getfield 13, 3) := by decide +kernel
theorem dX10_lays_66 : decode cX10_lays 66 = .ok (.iload_n 3, 1) := by decide +kernel
theorem dX10_lays_67 : decode cX10_lays 67 = .ok (.iaload, 1) := by decide +kernel
theorem dX10_lays_68 : decode cX10_lays 68 = .ok (.imul, 1) := by decide +kernel
theorem dX10_lays_69 : decode cX10_lays 69 = .ok (.aload_n 0, 1) := by decide +kernel
theorem dX10_lays_70 : decode cX10_lays 70 = .ok (.getfield 17, 3) := by decide +kernel
theorem dX10_lays_73 : decode cX10_lays 73 = .ok (.iload_n 3, 1) := by decide +kernel
theorem dX10_lays_74 : decode cX10_lays 74 = .ok (.iaload, 1) := by decide +kernel
theorem dX10_lays_75 : decode cX10_lays 75 = .ok (.iadd, 1) := by decide +kernel
theorem dX10_lays_76 : decode cX10_lays 76 = .ok (.aload_n 0, 1) := by decide +kernel
theorem dX10_lays_77 : decode cX10_lays 77 = .ok (.iload_n 3, 1) := by decide +kernel
theorem dX10_lays_78 : decode cX10_lays 78 = .ok (.iload_n 1, 1) := by decide +kernel
theorem dX10_lays_79 : decode cX10_lays 79 = .ok (.invokevirtual 97, 3) := by decide +kernel
theorem dX10_lays_82 : decode cX10_lays 82 = .ok (.iastore, 1) := by decide +kernel
theorem dX10_lays_83 : decode cX10_lays 83 = .ok (.aload_n 0, 1) := by decide +kernel
theorem dX10_lays_84 : decode cX10_lays 84 = .ok (.getfield 38, 3) := by decide +kernel
theorem dX10_lays_87 : decode cX10_lays 87 = .ok (.bipush 8, 2) := by decide +kernel
theorem dX10_lays_89 : decode cX10_lays 89 = .ok (.aload_n 0, 1) := by decide +kernel
theorem dX10_lays_90 : decode cX10_lays 90 = .ok (.getfield 17, 3) := by decide +kernel
theorem dX10_lays_93 : decode cX10_lays 93 = .ok (.iload_n 3, 1) := by decide +kernel
theorem dX10_lays_94 : decode cX10_lays 94 = .ok (.iaload, 1) := by decide +kernel
theorem dX10_lays_95 : decode cX10_lays 95 = .ok (.imul, 1) := by decide +kernel
theorem dX10_lays_96 : decode cX10_lays 96 = .ok (.aload_n 0, 1) := by decide +kernel
theorem dX10_lays_97 : decode cX10_lays 97 = .ok (.getfield 13, 3) := by decide +kernel
theorem dX10_lays_100 : decode cX10_lays 100 = .ok (.iload_n 3, 1) := by decide +kernel
theorem dX10_lays_101 : decode cX10_lays 101 = .ok (.iaload, 1) := by decide +kernel
theorem dX10_lays_102 : decode cX10_lays 102 = .ok (.iadd, 1) := by decide +kernel
theorem dX10_lays_103 : decode cX10_lays 103 = .ok (.aload_n 0, 1) := by decide +kernel
theorem dX10_lays_104 : decode cX10_lays 104 = .ok (.iload_n 3, 1) := by decide +kernel
theorem dX10_lays_105 : decode cX10_lays 105 = .ok (.iload_n 1, 1) := by decide +kernel
theorem dX10_lays_106 : decode cX10_lays 106 = .ok (.invokevirtual 97, 3) := by decide +kernel
theorem dX10_lays_109 : decode cX10_lays 109 = .ok (.iastore, 1) := by decide +kernel
theorem dX10_lays_110 : decode cX10_lays 110 = .ok (.iinc 3 1, 3) := by decide +kernel
theorem dX10_lays_113 : decode cX10_lays 113 = .ok (.goto (-73), 3) := by decide +kernel
theorem dX10_lays_116 : decode cX10_lays 116 = .ok (.iconst 0, 1) := by decide +kernel
theorem dX10_lays_117 : decode cX10_lays 117 = .ok (.istore_n 3, 1) := by decide +kernel
theorem dX10_lays_118 : decode cX10_lays 118 = .ok (.iload_n 3, 1) := by decide +kernel
theorem dX10_lays_119 : decode cX10_lays 119 = .ok (.aload_n 0, 1) := by decide +kernel
theorem dX10_lays_120 : decode cX10_lays 120 = .ok (.getfield 7, 3) := by decide +kernel
theorem dX10_lays_123 : decode cX10_lays 123 = .ok (.if_icmp .ge 89, 3) := by decide +kernel
theorem dX10_lays_126 : decode cX10_lays 126 = .ok (.iconst 0, 1) := by decide +kernel
theorem dX10_lays_127 : decode cX10_lays 127 = .ok (.istore 4, 2) := by decide +kernel
theorem dX10_lays_129 : decode cX10_lays 129 = .ok (.iload 4, 2) := by decide +kernel
theorem dX10_lays_131 : decode cX10_lays 131 = .ok (.bipush 64, 2) := by decide +kernel
theorem dX10_lays_133 : decode cX10_lays 133 = .ok (.if_icmp .ge 73, 3) := by decide +kernel
theorem dX10_lays_136 : decode cX10_lays 136 = .ok (.aload_n 0, 1) := by decide +kernel
theorem dX10_lays_137 : decode cX10_lays 137 = .ok (.getfield 38, 3) := by decide +kernel
theorem dX10_lays_140 : decode cX10_lays 140 = .ok (.iload 4, 2) := by decide +kernel
theorem dX10_lays_142 : decode cX10_lays 142 = .ok (.bipush 8, 2) := by decide +kernel
theorem dX10_lays_144 : decode cX10_lays 144 = .ok (.idiv, 1) := by decide +kernel
theorem dX10_lays_145 : decode cX10_lays 145 = .ok (.bipush 8, 2) := by decide +kernel
theorem dX10_lays_147 : decode cX10_lays 147 = .ok (.imul, 1) := by decide +kernel
theorem dX10_lays_148 : decode cX10_lays 148 = .ok (.iload_n 3, 1) := by decide +kernel
theorem dX10_lays_149 : decode cX10_lays 149 = .ok (.iadd, 1) := by decide +kernel
theorem dX10_lays_150 : decode cX10_lays 150 = .ok (.iaload, 1) := by decide +kernel
theorem dX10_lays_151 : decode cX10_lays 151 = .ok (.aload_n 0, 1) := by decide +kernel
theorem dX10_lays_152 : decode cX10_lays 152 = .ok (.getfield 38, 3) := by decide +kernel
theorem dX10_lays_155 : decode cX10_lays 155 = .ok (.bipush 8, 2) := by decide +kernel
theorem dX10_lays_157 : decode cX10_lays 157 = .ok (.iload_n 3, 1) := by decide +kernel
theorem dX10_lays_158 : decode cX10_lays 158 = .ok (.imul, 1) := by decide +kernel
theorem dX10_lays_159 : decode cX10_lays 159 = .ok (.iload 4, 2) := by decide +kernel
theorem dX10_lays_161 : decode cX10_lays 161 = .ok (.bipush 8, 2) := by decide +kernel
theorem dX10_lays_163 : decode cX10_lays 163 = .ok (.irem, 1) := by decide +kernel
theorem dX10_lays_164 : decode cX10_lays 164 = .ok (.iadd, 1) := by decide +kernel
theorem dX10_lays_165 : decode cX10_lays 165 = .ok (.iaload, 1) := by decide +kernel
theorem dX10_lays_166 : decode cX10_lays 166 = .ok (.iadd, 1) := by decide +kernel
theorem dX10_lays_167 : decode cX10_lays 167 = .ok (.istore 5, 2) := by decide +kernel
theorem dX10_lays_169 : decode cX10_lays 169 = .ok (.aload_n 0, 1) := by decide +kernel
theorem dX10_lays_170 : decode cX10_lays 170 = .ok (.getfield 38, 3) := by decide +kernel
theorem dX10_lays_173 : decode cX10_lays 173 = .ok (.iload 4, 2) := by decide +kernel
theorem dX10_lays_175 : decode cX10_lays 175 = .ok (.iload 5, 2) := by decide +kernel
theorem dX10_lays_177 : decode cX10_lays 177 = .ok (.aload_n 0, 1) := by decide +kernel
theorem dX10_lays_178 : decode cX10_lays 178 = .ok (.getfield 38, 3) := by decide +kernel
theorem dX10_lays_181 : decode cX10_lays 181 = .ok (.iload 4, 2) := by decide +kernel
theorem dX10_lays_183 : decode cX10_lays 183 = .ok (.iaload, 1) := by decide +kernel
theorem dX10_lays_184 : decode cX10_lays 184 = .ok (.if_icmp .ge 8, 3) := by decide +kernel
theorem dX10_lays_187 : decode cX10_lays 187 = .ok (.iload 5, 2) := by decide +kernel
theorem dX10_lays_189 : decode cX10_lays 189 = .ok (.goto 10, 3) := by decide +kernel
theorem dX10_lays_192 : decode cX10_lays 192 = .ok (.aload_n 0, 1) := by decide +kernel
theorem dX10_lays_193 : decode cX10_lays 193 = .ok (.getfield 38, 3) := by decide +kernel
theorem dX10_lays_196 : decode cX10_lays 196 = .ok (.iload 4, 2) := by decide +kernel
theorem dX10_lays_198 : decode cX10_lays 198 = .ok (.iaload, 1) := by decide +kernel
theorem dX10_lays_199 : decode cX10_lays 199 = .ok (.iastore, 1) := by decide +kernel
theorem dX10_lays_200 : decode cX10_lays 200 = .ok (.iinc 4 1, 3) := by decide +kernel
theorem dX10_lays_203 : decode cX10_lays 203 = .ok (.goto (-74), 3) := by decide +kernel
theorem dX10_lays_206 : decode cX10_lays 206 = .ok (.iinc 3 1, 3) := by decide +kernel
theorem dX10_lays_209 : decode cX10_lays 209 = .ok (.goto (-91), 3) := by decide +kernel
theorem dX10_lays_212 : decode cX10_lays 212 = .ok (.return_, 1) := by decide +kernel
theorem dX10_nextOf_0 : decode cX10_nextOf 0 = .ok (.iconst 0, 1) := by decide +kernel
theorem dX10_nextOf_1 : decode cX10_nextOf 1 = .ok (.istore 5, 2) := by decide +kernel
theorem dX10_nextOf_3 : decode cX10_nextOf 3 = .ok (.iload 5, 2) := by decide +kernel
theorem dX10_nextOf_5 : decode cX10_nextOf 5 = .ok (.aload_n 0, 1) := by decide +kernel
theorem dX10_nextOf_6 : decode cX10_nextOf 6 = .ok (.getfield 7, 3) := by decide +kernel
theorem dX10_nextOf_9 : decode cX10_nextOf 9 = .ok (.if_icmp .ge 93, 3) := by decide +kernel
theorem dX10_nextOf_12 : decode cX10_nextOf 12 = .ok (.iload_n 1, 1) := by decide +kernel
theorem dX10_nextOf_13 : decode cX10_nextOf 13 = .ok (.iload_n 2, 1) := by decide +kernel
theorem dX10_nextOf_14 : decode cX10_nextOf 14 = .ok (.if_icmp .eq 88, 3) := by decide +kernel
theorem dX10_nextOf_17 : decode cX10_nextOf 17 = .ok (.aload_n 0, 1) := by decide +kernel
theorem dX10_nextOf_18 : decode cX10_nextOf 18 = .ok (.getfield 38, 3) := by decide +kernel
theorem dX10_nextOf_21 : decode cX10_nextOf 21 = .ok (.bipush 8, 2) := by decide +kernel
theorem dX10_nextOf_23 : decode cX10_nextOf 23 = .ok (.iload_n 1, 1) := by decide +kernel
theorem dX10_nextOf_24 : decode cX10_nextOf 24 = .ok (.imul, 1) := by decide +kernel
theorem dX10_nextOf_25 : decode cX10_nextOf 25 = .ok (.iload_n 2, 1) := by decide +kernel
theorem dX10_nextOf_26 : decode cX10_nextOf 26 = .ok (.iadd, 1) := by decide +kernel
theorem dX10_nextOf_27 : decode cX10_nextOf 27 = .ok (.iaload, 1) := by decide +kernel
theorem dX10_nextOf_28 : decode cX10_nextOf 28 = .ok (.sipush 9999, 3) := by decide +kernel
theorem dX10_nextOf_31 : decode cX10_nextOf 31 = .ok (.if_icmp .ge 71, 3) := by decide +kernel
theorem dX10_nextOf_34 : decode cX10_nextOf 34 = .ok (.aload_n 0, 1) := by decide +kernel
theorem dX10_nextOf_35 : decode cX10_nextOf 35 = .ok (.iload_n 1, 1) := by decide +kernel
theorem dX10_nextOf_36 : decode cX10_nextOf 36 = .ok (.iload 5, 2) := by decide +kernel
theorem dX10_nextOf_38 : decode cX10_nextOf 38 = .ok (.invokevirtual 101, 3) := by decide +kernel
theorem dX10_nextOf_41 : decode cX10_nextOf 41 = .ok (.istore 6, 2) := by decide +kernel
theorem dX10_nextOf_43 : decode cX10_nextOf 43 = .ok (.iload 6, 2) := by decide +kernel
theorem dX10_nextOf_45 : decode cX10_nextOf 45 = .ok (.iconst (-1), 1) := by decide +kernel
theorem dX10_nextOf_46 : decode cX10_nextOf 46 = .ok (.if_icmp .eq 50, 3) := by decide +kernel
theorem dX10_nextOf_49 : decode cX10_nextOf 49 = .ok (.iload 4, 2) := by decide +kernel
theorem dX10_nextOf_51 : decode cX10_nextOf 51 = .ok (.iload 6, 2) := by decide +kernel
theorem dX10_nextOf_53 : decode cX10_nextOf 53 = .ok (.invokestatic 93, 3) := by decide +kernel
theorem dX10_nextOf_56 : decode cX10_nextOf 56 = .ok (.ifCond .eq 40, 3) := by decide +kernel
theorem dX10_nextOf_59 : decode cX10_nextOf 59 = .ok (.aload_n 0, 1) := by decide +kernel
theorem dX10_nextOf_60 : decode cX10_nextOf 60 = .ok (.iload 6, 2) := by decide +kernel
theorem dX10_nextOf_62 : decode cX10_nextOf 62 = .ok (.iload_n 3, 1) := by decide +kernel
theorem dX10_nextOf_63 : decode cX10_nextOf 63 = .ok (.invokevirtual 97, 3) := by decide +kernel
theorem dX10_nextOf_66 : decode cX10_nextOf 66 = .ok (.aload_n 0, 1) := by decide +kernel
theorem dX10_nextOf_67 : decode cX10_nextOf 67 = .ok (.getfield 38, 3) := by decide +kernel
theorem dX10_nextOf_70 : decode cX10_nextOf 70 = .ok (.bipush 8, 2) := by decide +kernel
theorem dX10_nextOf_72 : decode cX10_nextOf 72 = .ok (.iload 5, 2) := by decide +kernel
theorem dX10_nextOf_74 : decode cX10_nextOf 74 = .ok (.imul, 1) := by decide +kernel
theorem dX10_nextOf_75 : decode cX10_nextOf 75 = .ok (.iload_n 2, 1) := by decide +kernel
theorem dX10_nextOf_76 : decode cX10_nextOf 76 = .ok (.iadd, 1) := by decide +kernel
theorem dX10_nextOf_77 : decode cX10_nextOf 77 = .ok (.iaload, 1) := by decide +kernel
theorem dX10_nextOf_78 : decode cX10_nextOf 78 = .ok (.iadd, 1) := by decide +kernel
theorem dX10_nextOf_79 : decode cX10_nextOf 79 = .ok (.aload_n 0, 1) := by decide +kernel
theorem dX10_nextOf_80 : decode cX10_nextOf 80 = .ok (.getfield 38, 3) := by decide +kernel
theorem dX10_nextOf_83 : decode cX10_nextOf 83 = .ok (.bipush 8, 2) := by decide +kernel
theorem dX10_nextOf_85 : decode cX10_nextOf 85 = .ok (.iload_n 1, 1) := by decide +kernel
theorem dX10_nextOf_86 : decode cX10_nextOf 86 = .ok (.imul, 1) := by decide +kernel
theorem dX10_nextOf_87 : decode cX10_nextOf 87 = .ok (.iload_n 2, 1) := by decide +kernel
theorem dX10_nextOf_88 : decode cX10_nextOf 88 = .ok (.iadd, 1) := by decide +kernel
theorem dX10_nextOf_89 : decode cX10_nextOf 89 = .ok (.iaload, 1) := by decide +kernel
theorem dX10_nextOf_90 : decode cX10_nextOf 90 = .ok (.if_icmp .ne 6, 3) := by decide +kernel
theorem dX10_nextOf_93 : decode cX10_nextOf 93 = .ok (.iload 5, 2) := by decide +kernel
theorem dX10_nextOf_95 : decode cX10_nextOf 95 = .ok (.ireturn, 1) := by decide +kernel
theorem dX10_nextOf_96 : decode cX10_nextOf 96 = .ok (.iinc 5 1, 3) := by decide +kernel
theorem dX10_nextOf_99 : decode cX10_nextOf 99 = .ok (.goto (-96), 3) := by decide +kernel
theorem dX10_nextOf_102 : decode cX10_nextOf 102 = .ok (.iconst (-1), 1) := by decide +kernel
theorem dX10_nextOf_103 : decode cX10_nextOf 103 = .ok (.ireturn, 1) := by decide +kernel
theorem dX10_walks_0 : decode cX10_walks 0 = .ok (.aload_n 0, 1) := by decide +kernel
theorem dX10_walks_1 : decode cX10_walks 1 = .ok (.iload_n 3, 1) := by decide +kernel
theorem dX10_walks_2 : decode cX10_walks 2 = .ok (.iload 4, 2) := by decide +kernel
theorem dX10_walks_4 : decode cX10_walks 4 = .ok (.invokevirtual 104, 3) := by decide +kernel
theorem dX10_walks_7 : decode cX10_walks 7 = .ok (.aload_n 0, 1) := by decide +kernel
theorem dX10_walks_8 : decode cX10_walks 8 = .ok (.getfield 41, 3) := by decide +kernel
theorem dX10_walks_11 : decode cX10_walks 11 = .ok (.iconst 0, 1) := by decide +kernel
theorem dX10_walks_12 : decode cX10_walks 12 = .ok (.iload_n 1, 1) := by decide +kernel
theorem dX10_walks_13 : decode cX10_walks 13 = .ok (.iastore, 1) := by decide +kernel
theorem dX10_walks_14 : decode cX10_walks 14 = .ok (.aload_n 0, 1) := by decide +kernel
theorem dX10_walks_15 : decode cX10_walks 15 = .ok (.iconst 1, 1) := by decide +kernel
theorem dX10_walks_16 : decode cX10_walks 16 = .ok (.putfield 108, 3) := by decide +kernel
theorem dX10_walks_19 : decode cX10_walks 19 = .ok (.iload_n 1, 1) := by decide +kernel
theorem dX10_walks_20 : decode cX10_walks 20 = .ok (.istore 5, 2) := by decide +kernel
theorem dX10_walks_22 : decode cX10_walks 22 = .ok (.iload 5, 2) := by decide +kernel
theorem dX10_walks_24 : decode cX10_walks 24 = .ok (.iload_n 2, 1) := by decide +kernel
theorem dX10_walks_25 : decode cX10_walks 25 = .ok (.if_icmp .eq 51, 3) := by decide +kernel
theorem dX10_walks_28 : decode cX10_walks 28 = .ok (.iload 5, 2) := by decide +kernel
theorem dX10_walks_30 : decode cX10_walks 30 = .ok (.iconst (-1), 1) := by decide +kernel
theorem dX10_walks_31 : decode cX10_walks 31 = .ok (.if_icmp .eq 45, 3) := by decide +kernel
theorem dX10_walks_34 : decode cX10_walks 34 = .ok (.aload_n 0, 1) := by decide +kernel
theorem dX10_walks_35 : decode cX10_walks 35 = .ok (.iload 5, 2) := by decide +kernel
theorem dX10_walks_37 : decode cX10_walks 37 = .ok (.iload_n 2, 1) := by decide +kernel
theorem dX10_walks_38 : decode cX10_walks 38 = .ok (.iload_n 3, 1) := by decide +kernel
theorem dX10_walks_39 : decode cX10_walks 39 = .ok (.iload 4, 2) := by decide +kernel
theorem dX10_walks_41 : decode cX10_walks 41 = .ok (.invokevirtual 111, 3) := by decide +kernel
theorem dX10_walks_44 : decode cX10_walks 44 = .ok (.istore 5, 2) := by decide +kernel
theorem dX10_walks_46 : decode cX10_walks 46 = .ok (.iload 5, 2) := by decide +kernel
theorem dX10_walks_48 : decode cX10_walks 48 = .ok (.iconst (-1), 1) := by decide +kernel
theorem dX10_walks_49 : decode cX10_walks 49 = .ok (.if_icmp .eq (-27), 3) := by decide +kernel
theorem dX10_walks_52 : decode cX10_walks 52 = .ok (.aload_n 0, 1) := by decide +kernel
theorem dX10_walks_53 : decode cX10_walks 53 = .ok (.getfield 41, 3) := by decide +kernel
theorem dX10_walks_56 : decode cX10_walks 56 = .ok (.aload_n 0, 1) := by decide +kernel
theorem dX10_walks_57 : decode cX10_walks 57 = .ok (.getfield 108, 3) := by decide +kernel
theorem dX10_walks_60 : decode cX10_walks 60 = .ok (.iload 5, 2) := by decide +kernel
theorem dX10_walks_62 : decode cX10_walks 62 = .ok (.iastore, 1) := by decide +kernel
theorem dX10_walks_63 : decode cX10_walks 63 = .ok (.aload_n 0, 1) := by decide +kernel
theorem dX10_walks_64 : decode cX10_walks 64 = .ok (.dup, 1) := by decide +kernel
theorem dX10_walks_65 : decode cX10_walks 65 = .ok (.getfield 108, 3) := by decide +kernel
theorem dX10_walks_68 : decode cX10_walks 68 = .ok (.iconst 1, 1) := by decide +kernel
theorem dX10_walks_69 : decode cX10_walks 69 = .ok (.iadd, 1) := by decide +kernel
theorem dX10_walks_70 : decode cX10_walks 70 = .ok (.putfield 108, 3) := by decide +kernel
theorem dX10_walks_73 : decode cX10_walks 73 = .ok (.goto (-51), 3) := by decide +kernel
theorem dX10_walks_76 : decode cX10_walks 76 = .ok (.iload 5, 2) := by decide +kernel
theorem dX10_walks_78 : decode cX10_walks 78 = .ok (.iload_n 2, 1) := by decide +kernel
theorem dX10_walks_79 : decode cX10_walks 79 = .ok (.if_icmp .ne 7, 3) := by decide +kernel
theorem dX10_walks_82 : decode cX10_walks 82 = .ok (.iconst 1, 1) := by decide +kernel
theorem dX10_walks_83 : decode cX10_walks 83 = .ok (.goto 4, 3) := by decide +kernel
theorem dX10_walks_86 : decode cX10_walks 86 = .ok (.iconst 0, 1) := by decide +kernel
theorem dX10_walks_87 : decode cX10_walks 87 = .ok (.ireturn, 1) := by decide +kernel
theorem dX10_isOver_0 : decode cX10_isOver 0 = .ok (.iconst 0, 1) := by decide +kernel
theorem dX10_isOver_1 : decode cX10_isOver 1 = .ok (.istore_n 2, 1) := by decide +kernel
theorem dX10_isOver_2 : decode cX10_isOver 2 = .ok (.iconst 1, 1) := by decide +kernel
theorem dX10_isOver_3 : decode cX10_isOver 3 = .ok (.istore_n 3, 1) := by decide +kernel
theorem dX10_isOver_4 : decode cX10_isOver 4 = .ok (.iload_n 3, 1) := by decide +kernel
theorem dX10_isOver_5 : decode cX10_isOver 5 = .ok (.aload_n 0, 1) := by decide +kernel
theorem dX10_isOver_6 : decode cX10_isOver 6 = .ok (.getfield 108, 3) := by decide +kernel
theorem dX10_isOver_9 : decode cX10_isOver 9 = .ok (.if_icmp .ge 41, 3) := by decide +kernel
theorem dX10_isOver_12 : decode cX10_isOver 12 = .ok (.iload_n 2, 1) := by decide +kernel
theorem dX10_isOver_13 : decode cX10_isOver 13 = .ok (.ifCond .ne 25, 3) := by decide +kernel
theorem dX10_isOver_16 : decode cX10_isOver 16 = .ok (.aload_n 0, 1) := by decide +kernel
theorem dX10_isOver_17 : decode cX10_isOver 17 = .ok (.aload_n 0, 1) := by decide +kernel
theorem dX10_isOver_18 : decode cX10_isOver 18 = .ok (.getfield 41, 3) := by decide +kernel
theorem dX10_isOver_21 : decode cX10_isOver 21 = .ok (.iload_n 3, 1) := by decide +kernel
theorem dX10_isOver_22 : decode cX10_isOver 22 = .ok (.iconst 1, 1) := by decide +kernel
theorem dX10_isOver_23 : decode cX10_isOver 23 = .ok (.isub, 1) := by decide +kernel
theorem dX10_isOver_24 : decode cX10_isOver 24 = .ok (.iaload, 1) := by decide +kernel
theorem dX10_isOver_25 : decode cX10_isOver 25 = .ok (.aload_n 0, 1) := by decide +kernel
theorem dX10_isOver_26 : decode cX10_isOver 26 = .ok (.getfield 41, 3) := by decide +kernel
theorem dX10_isOver_29 : decode cX10_isOver 29 = .ok (.iload_n 3, 1) := by decide +kernel
theorem dX10_isOver_30 : decode cX10_isOver 30 = .ok (.iaload, 1) := by decide +kernel
theorem dX10_isOver_31 : decode cX10_isOver 31 = .ok (.invokevirtual 101, 3) := by decide +kernel
theorem dX10_isOver_34 : decode cX10_isOver 34 = .ok (.iload_n 1, 1) := by decide +kernel
theorem dX10_isOver_35 : decode cX10_isOver 35 = .ok (.if_icmp .ne 7, 3) := by decide +kernel
theorem dX10_isOver_38 : decode cX10_isOver 38 = .ok (.iconst 1, 1) := by decide +kernel
theorem dX10_isOver_39 : decode cX10_isOver 39 = .ok (.goto 4, 3) := by decide +kernel
theorem dX10_isOver_42 : decode cX10_isOver 42 = .ok (.iconst 0, 1) := by decide +kernel
theorem dX10_isOver_43 : decode cX10_isOver 43 = .ok (.istore_n 2, 1) := by decide +kernel
theorem dX10_isOver_44 : decode cX10_isOver 44 = .ok (.iinc 3 1, 3) := by decide +kernel
theorem dX10_isOver_47 : decode cX10_isOver 47 = .ok (.goto (-43), 3) := by decide +kernel
theorem dX10_isOver_50 : decode cX10_isOver 50 = .ok (.iload_n 2, 1) := by decide +kernel
theorem dX10_isOver_51 : decode cX10_isOver 51 = .ok (.ireturn, 1) := by decide +kernel
theorem dX10_leads_0 : decode cX10_leads 0 = .ok (.iload_n 2, 1) := by decide +kernel
theorem dX10_leads_1 : decode cX10_leads 1 = .ok (.istore 6, 2) := by decide +kernel
theorem dX10_leads_3 : decode cX10_leads 3 = .ok (.iload 6, 2) := by decide +kernel
theorem dX10_leads_5 : decode cX10_leads 5 = .ok (.iload_n 3, 1) := by decide +kernel
theorem dX10_leads_6 : decode cX10_leads 6 = .ok (.if_icmp .ge 33, 3) := by decide +kernel
theorem dX10_leads_9 : decode cX10_leads 9 = .ok (.aload_n 0, 1) := by decide +kernel
theorem dX10_leads_10 : decode cX10_leads 10 = .ok (.aload_n 1, 1) := by decide +kernel
theorem dX10_leads_11 : decode cX10_leads 11 = .ok (.iload 6, 2) := by decide +kernel
theorem dX10_leads_13 : decode cX10_leads 13 = .ok (.iaload, 1) := by decide +kernel
theorem dX10_leads_14 : decode cX10_leads 14 = .ok (.aload_n 1, 1) := by decide +kernel
theorem dX10_leads_15 : decode cX10_leads 15 = .ok (.iload_n 3, 1) := by decide +kernel
theorem dX10_leads_16 : decode cX10_leads 16 = .ok (.iaload, 1) := by decide +kernel
theorem dX10_leads_17 : decode cX10_leads 17 = .ok (.iload 4, 2) := by decide +kernel
theorem dX10_leads_19 : decode cX10_leads 19 = .ok (.iload 5, 2) := by decide +kernel
theorem dX10_leads_21 : decode cX10_leads 21 = .ok (.invokevirtual 111, 3) := by decide +kernel
theorem dX10_leads_24 : decode cX10_leads 24 = .ok (.aload_n 1, 1) := by decide +kernel
theorem dX10_leads_25 : decode cX10_leads 25 = .ok (.iload 6, 2) := by decide +kernel
theorem dX10_leads_27 : decode cX10_leads 27 = .ok (.iconst 1, 1) := by decide +kernel
theorem dX10_leads_28 : decode cX10_leads 28 = .ok (.iadd, 1) := by decide +kernel
theorem dX10_leads_29 : decode cX10_leads 29 = .ok (.iaload, 1) := by decide +kernel
theorem dX10_leads_30 : decode cX10_leads 30 = .ok (.if_icmp .ne 9, 3) := by decide +kernel
theorem dX10_leads_33 : decode cX10_leads 33 = .ok (.iinc 6 1, 3) := by decide +kernel
theorem dX10_leads_36 : decode cX10_leads 36 = .ok (.goto (-33), 3) := by decide +kernel
theorem dX10_leads_39 : decode cX10_leads 39 = .ok (.iload 6, 2) := by decide +kernel
theorem dX10_leads_41 : decode cX10_leads 41 = .ok (.iload_n 3, 1) := by decide +kernel
theorem dX10_leads_42 : decode cX10_leads 42 = .ok (.if_icmp .ne 7, 3) := by decide +kernel
theorem dX10_leads_45 : decode cX10_leads 45 = .ok (.iconst 1, 1) := by decide +kernel
theorem dX10_leads_46 : decode cX10_leads 46 = .ok (.goto 4, 3) := by decide +kernel
theorem dX10_leads_49 : decode cX10_leads 49 = .ok (.iconst 0, 1) := by decide +kernel
theorem dX10_leads_50 : decode cX10_leads 50 = .ok (.ireturn, 1) := by decide +kernel
theorem dX10_laysBy_0 : decode cX10_laysBy 0 = .ok (.iconst 0, 1) := by decide +kernel
theorem dX10_laysBy_1 : decode cX10_laysBy 1 = .ok (.istore 5, 2) := by decide +kernel
theorem dX10_laysBy_3 : decode cX10_laysBy 3 = .ok (.iload 5, 2) := by decide +kernel
theorem dX10_laysBy_5 : decode cX10_laysBy 5 = .ok (.bipush 64, 2) := by decide +kernel
theorem dX10_laysBy_7 : decode cX10_laysBy 7 = .ok (.if_icmp .ge 17, 3) := by decide +kernel
theorem dX10_laysBy_10 : decode cX10_laysBy 10 = .ok (.aload_n 0, 1) := by decide +kernel
theorem dX10_laysBy_11 : decode cX10_laysBy 11 = .ok (.getfield 44, 3) := by decide +kernel
theorem dX10_laysBy_14 : decode cX10_laysBy 14 = .ok (.iload 5, 2) := by decide +kernel
theorem dX10_laysBy_16 : decode cX10_laysBy 16 = .ok (.iconst (-1), 1) := by decide +kernel
theorem dX10_laysBy_17 : decode cX10_laysBy 17 = .ok (.iastore, 1) := by decide +kernel
theorem dX10_laysBy_18 : decode cX10_laysBy 18 = .ok (.iinc 5 1, 3) := by decide +kernel
theorem dX10_laysBy_21 : decode cX10_laysBy 21 = .ok (.goto (-18), 3) := by decide +kernel
theorem dX10_laysBy_24 : decode cX10_laysBy 24 = .ok (.iconst 2, 1) := by decide +kernel
theorem dX10_laysBy_25 : decode cX10_laysBy 25 = .ok (.istore 5, 2) := by decide +kernel
theorem dX10_laysBy_27 : decode cX10_laysBy 27 = .ok (.iload 5, 2) := by decide +kernel
theorem dX10_laysBy_29 : decode cX10_laysBy 29 = .ok (.ifCond .lt 167, 3) := by decide +kernel
theorem dX10_laysBy_32 : decode cX10_laysBy 32 = .ok (.iload 5, 2) := by decide +kernel
theorem dX10_laysBy_34 : decode cX10_laysBy 34 = .ok (.iconst 2, 1) := by decide +kernel
theorem dX10_laysBy_35 : decode cX10_laysBy 35 = .ok (.if_icmp .ge 10, 3) := by decide +kernel
theorem dX10_laysBy_38 : decode cX10_laysBy 38 = .ok (.aload_n 0, 1) := by decide +kernel
theorem dX10_laysBy_39 : decode cX10_laysBy 39 = .ok (.iload 5, 2) := by decide +kernel
theorem dX10_laysBy_41 : decode cX10_laysBy 41 = .ok (.iload_n 3, 1) := by decide +kernel
theorem dX10_laysBy_42 : decode cX10_laysBy 42 = .ok (.invokevirtual 104, 3) := by decide +kernel
theorem dX10_laysBy_45 : decode cX10_laysBy 45 = .ok (.iconst 0, 1) := by decide +kernel
theorem dX10_laysBy_46 : decode cX10_laysBy 46 = .ok (.istore 6, 2) := by decide +kernel
theorem dX10_laysBy_48 : decode cX10_laysBy 48 = .ok (.iload 6, 2) := by decide +kernel
theorem dX10_laysBy_50 : decode cX10_laysBy 50 = .ok (.iload_n 2, 1) := by decide +kernel
theorem dX10_laysBy_51 : decode cX10_laysBy 51 = .ok (.if_icmp .ge 139, 3) := by decide +kernel
theorem dX10_laysBy_54 : decode cX10_laysBy 54 = .ok (.iload 4, 2) := by decide +kernel
theorem dX10_laysBy_56 : decode cX10_laysBy 56 = .ok (.iload 5, 2) := by decide +kernel
theorem dX10_laysBy_58 : decode cX10_laysBy 58 = .ok (.invokestatic 93, 3) := by decide +kernel
theorem dX10_laysBy_61 : decode cX10_laysBy 61 = .ok (.ifCond .eq 129, 3) := by decide +kernel
theorem dX10_laysBy_64 : decode cX10_laysBy 64 = .ok (.iload 6, 2) := by decide +kernel
theorem dX10_laysBy_66 : decode cX10_laysBy 66 = .ok (.iconst 1, 1) := by decide +kernel
theorem dX10_laysBy_67 : decode cX10_laysBy 67 = .ok (.iadd, 1) := by decide +kernel
theorem dX10_laysBy_68 : decode cX10_laysBy 68 = .ok (.istore 7, 2) := by decide +kernel
theorem dX10_laysBy_70 : decode cX10_laysBy 70 = .ok (.iload 7, 2) := by decide +kernel
theorem dX10_laysBy_72 : decode cX10_laysBy 72 = .ok (.iload_n 2, 1) := by decide +kernel
theorem dX10_laysBy_73 : decode cX10_laysBy 73 = .ok (.if_icmp .ge 111, 3) := by decide +kernel
theorem dX10_laysBy_76 : decode cX10_laysBy 76 = .ok (.aload_n 0, 1) := by decide +kernel
theorem dX10_laysBy_77 : decode cX10_laysBy 77 = .ok (.aload_n 1, 1) := by decide +kernel
theorem dX10_laysBy_78 : decode cX10_laysBy 78 = .ok (.iload 6, 2) := by decide +kernel
theorem dX10_laysBy_80 : decode cX10_laysBy 80 = .ok (.iaload, 1) := by decide +kernel
theorem dX10_laysBy_81 : decode cX10_laysBy 81 = .ok (.aload_n 1, 1) := by decide +kernel
theorem dX10_laysBy_82 : decode cX10_laysBy 82 = .ok (.iload 7, 2) := by decide +kernel
theorem dX10_laysBy_84 : decode cX10_laysBy 84 = .ok (.iaload, 1) := by decide +kernel
theorem dX10_laysBy_85 : decode cX10_laysBy 85 = .ok (.invokevirtual 101, 3) := by decide +kernel
theorem dX10_laysBy_88 : decode cX10_laysBy 88 = .ok (.istore 8, 2) := by decide +kernel
theorem dX10_laysBy_90 : decode cX10_laysBy 90 = .ok (.iload 5, 2) := by decide +kernel
theorem dX10_laysBy_92 : decode cX10_laysBy 92 = .ok (.iconst 2, 1) := by decide +kernel
theorem dX10_laysBy_93 : decode cX10_laysBy 93 = .ok (.if_icmp .ne 35, 3) := by decide +kernel
theorem dX10_laysBy_96 : decode cX10_laysBy 96 = .ok (.iload 7, 2) := by decide +kernel
theorem dX10_laysBy_98 : decode cX10_laysBy 98 = .ok (.iload 6, 2) := by decide +kernel
theorem dX10_laysBy_100 : decode cX10_laysBy 100 = .ok (.iconst 1, 1) := by decide +kernel
theorem dX10_laysBy_101 : decode cX10_laysBy 101 = .ok (.iadd, 1) := by decide +kernel
theorem dX10_laysBy_102 : decode cX10_laysBy 102 = .ok (.if_icmp .ne 22, 3) := by decide +kernel
theorem dX10_laysBy_105 : decode cX10_laysBy 105 = .ok (.iload 8, 2) := by decide +kernel
theorem dX10_laysBy_107 : decode cX10_laysBy 107 = .ok (.iconst (-1), 1) := by decide +kernel
theorem dX10_laysBy_108 : decode cX10_laysBy 108 = .ok (.if_icmp .eq 16, 3) := by decide +kernel
theorem dX10_laysBy_111 : decode cX10_laysBy 111 = .ok (.iload_n 3, 1) := by decide +kernel
theorem dX10_laysBy_112 : decode cX10_laysBy 112 = .ok (.iload 8, 2) := by decide +kernel
theorem dX10_laysBy_114 : decode cX10_laysBy 114 = .ok (.invokestatic 93, 3) := by decide +kernel
theorem dX10_laysBy_117 : decode cX10_laysBy 117 = .ok (.ifCond .eq 7, 3) := by decide +kernel
theorem dX10_laysBy_120 : decode cX10_laysBy 120 = .ok (.iconst 1, 1) := by decide +kernel
theorem dX10_laysBy_121 : decode cX10_laysBy 121 = .ok (.goto 19, 3) := by decide +kernel
theorem dX10_laysBy_124 : decode cX10_laysBy 124 = .ok (.iconst 0, 1) := by decide +kernel
theorem dX10_laysBy_125 : decode cX10_laysBy 125 = .ok (.goto 15, 3) := by decide +kernel
theorem dX10_laysBy_128 : decode cX10_laysBy 128 = .ok (.aload_n 0, 1) := by decide +kernel
theorem dX10_laysBy_129 : decode cX10_laysBy 129 = .ok (.aload_n 1, 1) := by decide +kernel
theorem dX10_laysBy_130 : decode cX10_laysBy 130 = .ok (.iload 6, 2) := by decide +kernel
theorem dX10_laysBy_132 : decode cX10_laysBy 132 = .ok (.iload 7, 2) := by decide +kernel
theorem dX10_laysBy_134 : decode cX10_laysBy 134 = .ok (.iload 5, 2) := by decide +kernel
theorem dX10_laysBy_136 : decode cX10_laysBy 136 = .ok (.iload_n 3, 1) := by decide +kernel
theorem dX10_laysBy_137 : decode cX10_laysBy 137 = .ok (.invokevirtual 115, 3) := by decide +kernel
theorem dX10_laysBy_140 : decode cX10_laysBy 140 = .ok (.istore 9, 2) := by decide +kernel
theorem dX10_laysBy_142 : decode cX10_laysBy 142 = .ok (.aload_n 0, 1) := by decide +kernel
theorem dX10_laysBy_143 : decode cX10_laysBy 143 = .ok (.getfield 44, 3) := by decide +kernel
theorem dX10_laysBy_146 : decode cX10_laysBy 146 = .ok (.bipush 8, 2) := by decide +kernel
theorem dX10_laysBy_148 : decode cX10_laysBy 148 = .ok (.iload 6, 2) := by decide +kernel
theorem dX10_laysBy_150 : decode cX10_laysBy 150 = .ok (.imul, 1) := by decide +kernel
theorem dX10_laysBy_151 : decode cX10_laysBy 151 = .ok (.iload 7, 2) := by decide +kernel
theorem dX10_laysBy_153 : decode cX10_laysBy 153 = .ok (.iadd, 1) := by decide +kernel
theorem dX10_laysBy_154 : decode cX10_laysBy 154 = .ok (.iload 9, 2) := by decide +kernel
theorem dX10_laysBy_156 : decode cX10_laysBy 156 = .ok (.ifCond .eq 8, 3) := by decide +kernel
theorem dX10_laysBy_159 : decode cX10_laysBy 159 = .ok (.iload 5, 2) := by decide +kernel
theorem dX10_laysBy_161 : decode cX10_laysBy 161 = .ok (.goto 16, 3) := by decide +kernel
theorem dX10_laysBy_164 : decode cX10_laysBy 164 = .ok (.aload_n 0, 1) := by decide +kernel
theorem dX10_laysBy_165 : decode cX10_laysBy 165 = .ok (.getfield 44, 3) := by decide +kernel
theorem dX10_laysBy_168 : decode cX10_laysBy 168 = .ok (.bipush 8, 2) := by decide +kernel
theorem dX10_laysBy_170 : decode cX10_laysBy 170 = .ok (.iload 6, 2) := by decide +kernel
theorem dX10_laysBy_172 : decode cX10_laysBy 172 = .ok (.imul, 1) := by decide +kernel
theorem dX10_laysBy_173 : decode cX10_laysBy 173 = .ok (.iload 7, 2) := by decide +kernel
theorem dX10_laysBy_175 : decode cX10_laysBy 175 = .ok (.iadd, 1) := by decide +kernel
theorem dX10_laysBy_176 : decode cX10_laysBy 176 = .ok (.iaload, 1) := by decide +kernel
theorem dX10_laysBy_177 : decode cX10_laysBy 177 = .ok (.iastore, 1) := by decide +kernel
theorem dX10_laysBy_178 : decode cX10_laysBy 178 = .ok (.iinc 7 1, 3) := by decide +kernel
theorem dX10_laysBy_181 : decode cX10_laysBy 181 = .ok (.goto (-111), 3) := by decide +kernel
theorem dX10_laysBy_184 : decode cX10_laysBy 184 = .ok (.iinc 6 1, 3) := by decide +kernel
theorem dX10_laysBy_187 : decode cX10_laysBy 187 = .ok (.goto (-139), 3) := by decide +kernel
theorem dX10_laysBy_190 : decode cX10_laysBy 190 = .ok (.iinc 5 (-1), 3) := by decide +kernel
theorem dX10_laysBy_193 : decode cX10_laysBy 193 = .ok (.goto (-166), 3) := by decide +kernel
theorem dX10_laysBy_196 : decode cX10_laysBy 196 = .ok (.return_, 1) := by decide +kernel
theorem dX10_shortens_0 : decode cX10_shortens 0 = .ok (.aload_n 0, 1) := by decide +kernel
theorem dX10_shortens_1 : decode cX10_shortens 1 = .ok (.aload_n 1, 1) := by decide +kernel
theorem dX10_shortens_2 : decode cX10_shortens 2 = .ok (.iload_n 2, 1) := by decide +kernel
theorem dX10_shortens_3 : decode cX10_shortens 3 = .ok (.iload_n 3, 1) := by decide +kernel
theorem dX10_shortens_4 : decode cX10_shortens 4 = .ok (.iload 4, 2) := by decide +kernel
theorem dX10_shortens_6 : decode cX10_shortens 6 = .ok (.invokevirtual 119, 3) := by decide +kernel
theorem dX10_shortens_9 : decode cX10_shortens 9 = .ok (.iload_n 2, 1) := by decide +kernel
theorem dX10_shortens_10 : decode cX10_shortens 10 = .ok (.iconst 1, 1) := by decide +kernel
theorem dX10_shortens_11 : decode cX10_shortens 11 = .ok (.isub, 1) := by decide +kernel
theorem dX10_shortens_12 : decode cX10_shortens 12 = .ok (.istore 5, 2) := by decide +kernel
theorem dX10_shortens_14 : decode cX10_shortens 14 = .ok (.iload 5, 2) := by decide +kernel
theorem dX10_shortens_16 : decode cX10_shortens 16 = .ok (.ifCond .lt 123, 3) := by decide +kernel
theorem dX10_shortens_19 : decode cX10_shortens 19 = .ok (.aload_n 0, 1) := by decide +kernel
theorem dX10_shortens_20 : decode cX10_shortens 20 = .ok (.getfield 47, 3) := by decide +kernel
theorem dX10_shortens_23 : decode cX10_shortens 23 = .ok (.iload 5, 2) := by decide +kernel
theorem dX10_shortens_25 : decode cX10_shortens 25 = .ok (.iload 5, 2) := by decide +kernel
theorem dX10_shortens_27 : decode cX10_shortens 27 = .ok (.iload_n 2, 1) := by decide +kernel
theorem dX10_shortens_28 : decode cX10_shortens 28 = .ok (.iconst 1, 1) := by decide +kernel
theorem dX10_shortens_29 : decode cX10_shortens 29 = .ok (.isub, 1) := by decide +kernel
theorem dX10_shortens_30 : decode cX10_shortens 30 = .ok (.if_icmp .ne 7, 3) := by decide +kernel
theorem dX10_shortens_33 : decode cX10_shortens 33 = .ok (.iconst 0, 1) := by decide +kernel
theorem dX10_shortens_34 : decode cX10_shortens 34 = .ok (.goto 6, 3) := by decide +kernel
theorem dX10_shortens_37 : decode cX10_shortens 37 = .ok (.sipush 9999, 3) := by decide +kernel
theorem dX10_shortens_40 : decode cX10_shortens 40 = .ok (.iastore, 1) := by decide +kernel
theorem dX10_shortens_41 : decode cX10_shortens 41 = .ok (.iload 5, 2) := by decide +kernel
theorem dX10_shortens_43 : decode cX10_shortens 43 = .ok (.iconst 1, 1) := by decide +kernel
theorem dX10_shortens_44 : decode cX10_shortens 44 = .ok (.iadd, 1) := by decide +kernel
theorem dX10_shortens_45 : decode cX10_shortens 45 = .ok (.istore 6, 2) := by decide +kernel
theorem dX10_shortens_47 : decode cX10_shortens 47 = .ok (.iload 6, 2) := by decide +kernel
theorem dX10_shortens_49 : decode cX10_shortens 49 = .ok (.iload_n 2, 1) := by decide +kernel
theorem dX10_shortens_50 : decode cX10_shortens 50 = .ok (.if_icmp .ge 83, 3) := by decide +kernel
theorem dX10_shortens_53 : decode cX10_shortens 53 = .ok (.aload_n 0, 1) := by decide +kernel
theorem dX10_shortens_54 : decode cX10_shortens 54 = .ok (.getfield 44, 3) := by decide +kernel
theorem dX10_shortens_57 : decode cX10_shortens 57 = .ok (.bipush 8, 2) := by decide +kernel
theorem dX10_shortens_59 : decode cX10_shortens 59 = .ok (.iload 5, 2) := by decide +kernel
theorem dX10_shortens_61 : decode cX10_shortens 61 = .ok (.imul, 1) := by decide +kernel
theorem dX10_shortens_62 : decode cX10_shortens 62 = .ok (.iload 6, 2) := by decide +kernel
theorem dX10_shortens_64 : decode cX10_shortens 64 = .ok (.iadd, 1) := by decide +kernel
theorem dX10_shortens_65 : decode cX10_shortens 65 = .ok (.iaload, 1) := by decide +kernel
theorem dX10_shortens_66 : decode cX10_shortens 66 = .ok (.iconst (-1), 1) := by decide +kernel
theorem dX10_shortens_67 : decode cX10_shortens 67 = .ok (.if_icmp .eq 26, 3) := by decide +kernel
theorem dX10_shortens_70 : decode cX10_shortens 70 = .ok (.aload_n 0, 1) := by decide +kernel
theorem dX10_shortens_71 : decode cX10_shortens 71 = .ok (.getfield 47, 3) := by decide +kernel
theorem dX10_shortens_74 : decode cX10_shortens 74 = .ok (.iload 6, 2) := by decide +kernel
theorem dX10_shortens_76 : decode cX10_shortens 76 = .ok (.iaload, 1) := by decide +kernel
theorem dX10_shortens_77 : decode cX10_shortens 77 = .ok (.iconst 1, 1) := by decide +kernel
theorem dX10_shortens_78 : decode cX10_shortens 78 = .ok (.iadd, 1) := by decide +kernel
theorem dX10_shortens_79 : decode cX10_shortens 79 = .ok (.aload_n 0, 1) := by decide +kernel
theorem dX10_shortens_80 : decode cX10_shortens 80 = .ok (.getfield 47, 3) := by decide +kernel
theorem dX10_shortens_83 : decode cX10_shortens 83 = .ok (.iload 5, 2) := by decide +kernel
theorem dX10_shortens_85 : decode cX10_shortens 85 = .ok (.iaload, 1) := by decide +kernel
theorem dX10_shortens_86 : decode cX10_shortens 86 = .ok (.if_icmp .ge 7, 3) := by decide +kernel
theorem dX10_shortens_89 : decode cX10_shortens 89 = .ok (.iconst 1, 1) := by decide +kernel
theorem dX10_shortens_90 : decode cX10_shortens 90 = .ok (.goto 4, 3) := by decide +kernel
theorem dX10_shortens_93 : decode cX10_shortens 93 = .ok (.iconst 0, 1) := by decide +kernel
theorem dX10_shortens_94 : decode cX10_shortens 94 = .ok (.istore 7, 2) := by decide +kernel
theorem dX10_shortens_96 : decode cX10_shortens 96 = .ok (.aload_n 0, 1) := by decide +kernel
theorem dX10_shortens_97 : decode cX10_shortens 97 = .ok (.getfield 47, 3) := by decide +kernel
theorem dX10_shortens_100 : decode cX10_shortens 100 = .ok (.iload 5, 2) := by decide +kernel
theorem dX10_shortens_102 : decode cX10_shortens 102 = .ok (.iload 7, 2) := by decide +kernel
theorem dX10_shortens_104 : decode cX10_shortens 104 = .ok (.ifCond .eq 15, 3) := by decide +kernel
theorem dX10_shortens_107 : decode cX10_shortens 107 = .ok (.aload_n 0, 1) := by decide +kernel
theorem dX10_shortens_108 : decode cX10_shortens 108 = .ok (.getfield 47, 3) := by decide +kernel
theorem dX10_shortens_111 : decode cX10_shortens 111 = .ok (.iload 6, 2) := by decide +kernel
theorem dX10_shortens_113 : decode cX10_shortens 113 = .ok (.iaload, 1) := by decide +kernel
theorem dX10_shortens_114 : decode cX10_shortens 114 = .ok (.iconst 1, 1) := by decide +kernel
theorem dX10_shortens_115 : decode cX10_shortens 115 = .ok (.iadd, 1) := by decide +kernel
theorem dX10_shortens_116 : decode cX10_shortens 116 = .ok (.goto 10, 3) := by decide +kernel
theorem dX10_shortens_119 : decode cX10_shortens 119 = .ok (.aload_n 0, 1) := by decide +kernel
theorem dX10_shortens_120 : decode cX10_shortens 120 = .ok (.getfield 47, 3) := by decide +kernel
theorem dX10_shortens_123 : decode cX10_shortens 123 = .ok (.iload 5, 2) := by decide +kernel
theorem dX10_shortens_125 : decode cX10_shortens 125 = .ok (.iaload, 1) := by decide +kernel
theorem dX10_shortens_126 : decode cX10_shortens 126 = .ok (.iastore, 1) := by decide +kernel
theorem dX10_shortens_127 : decode cX10_shortens 127 = .ok (.iinc 6 1, 3) := by decide +kernel
theorem dX10_shortens_130 : decode cX10_shortens 130 = .ok (.goto (-83), 3) := by decide +kernel
theorem dX10_shortens_133 : decode cX10_shortens 133 = .ok (.iinc 5 (-1), 3) := by decide +kernel
theorem dX10_shortens_136 : decode cX10_shortens 136 = .ok (.goto (-122), 3) := by decide +kernel
theorem dX10_shortens_139 : decode cX10_shortens 139 = .ok (.aload_n 0, 1) := by decide +kernel
theorem dX10_shortens_140 : decode cX10_shortens 140 = .ok (.iconst 0, 1) := by decide +kernel
theorem dX10_shortens_141 : decode cX10_shortens 141 = .ok (.putfield 123, 3) := by decide +kernel
theorem dX10_shortens_144 : decode cX10_shortens 144 = .ok (.aload_n 0, 1) := by decide +kernel
theorem dX10_shortens_145 : decode cX10_shortens 145 = .ok (.getfield 47, 3) := by decide +kernel
theorem dX10_shortens_148 : decode cX10_shortens 148 = .ok (.iconst 0, 1) := by decide +kernel
theorem dX10_shortens_149 : decode cX10_shortens 149 = .ok (.iaload, 1) := by decide +kernel
theorem dX10_shortens_150 : decode cX10_shortens 150 = .ok (.sipush 9999, 3) := by decide +kernel
theorem dX10_shortens_153 : decode cX10_shortens 153 = .ok (.if_icmp .lt 5, 3) := by decide +kernel
theorem dX10_shortens_156 : decode cX10_shortens 156 = .ok (.iconst 0, 1) := by decide +kernel
theorem dX10_shortens_157 : decode cX10_shortens 157 = .ok (.ireturn, 1) := by decide +kernel
theorem dX10_shortens_158 : decode cX10_shortens 158 = .ok (.iconst 0, 1) := by decide +kernel
theorem dX10_shortens_159 : decode cX10_shortens 159 = .ok (.istore 5, 2) := by decide +kernel
theorem dX10_shortens_161 : decode cX10_shortens 161 = .ok (.iload 5, 2) := by decide +kernel
theorem dX10_shortens_163 : decode cX10_shortens 163 = .ok (.iload_n 2, 1) := by decide +kernel
theorem dX10_shortens_164 : decode cX10_shortens 164 = .ok (.iconst 1, 1) := by decide +kernel
theorem dX10_shortens_165 : decode cX10_shortens 165 = .ok (.isub, 1) := by decide +kernel
theorem dX10_shortens_166 : decode cX10_shortens 166 = .ok (.if_icmp .ge 134, 3) := by decide +kernel
theorem dX10_shortens_169 : decode cX10_shortens 169 = .ok (.iload_n 2, 1) := by decide +kernel
theorem dX10_shortens_170 : decode cX10_shortens 170 = .ok (.iconst 1, 1) := by decide +kernel
theorem dX10_shortens_171 : decode cX10_shortens 171 = .ok (.isub, 1) := by decide +kernel
theorem dX10_shortens_172 : decode cX10_shortens 172 = .ok (.istore 6, 2) := by decide +kernel
theorem dX10_shortens_174 : decode cX10_shortens 174 = .ok (.aload_n 0, 1) := by decide +kernel
theorem dX10_shortens_175 : decode cX10_shortens 175 = .ok (.getfield 44, 3) := by decide +kernel
theorem dX10_shortens_178 : decode cX10_shortens 178 = .ok (.bipush 8, 2) := by decide +kernel
theorem dX10_shortens_180 : decode cX10_shortens 180 = .ok (.iload 5, 2) := by decide +kernel
theorem dX10_shortens_182 : decode cX10_shortens 182 = .ok (.imul, 1) := by decide +kernel
theorem dX10_shortens_183 : decode cX10_shortens 183 = .ok (.iload 6, 2) := by decide +kernel
theorem dX10_shortens_185 : decode cX10_shortens 185 = .ok (.iadd, 1) := by decide +kernel
theorem dX10_shortens_186 : decode cX10_shortens 186 = .ok (.iaload, 1) := by decide +kernel
theorem dX10_shortens_187 : decode cX10_shortens 187 = .ok (.iconst (-1), 1) := by decide +kernel
theorem dX10_shortens_188 : decode cX10_shortens 188 = .ok (.if_icmp .eq 22, 3) := by decide +kernel
theorem dX10_shortens_191 : decode cX10_shortens 191 = .ok (.aload_n 0, 1) := by decide +kernel
theorem dX10_shortens_192 : decode cX10_shortens 192 = .ok (.getfield 47, 3) := by decide +kernel
theorem dX10_shortens_195 : decode cX10_shortens 195 = .ok (.iload 6, 2) := by decide +kernel
theorem dX10_shortens_197 : decode cX10_shortens 197 = .ok (.iaload, 1) := by decide +kernel
theorem dX10_shortens_198 : decode cX10_shortens 198 = .ok (.iconst 1, 1) := by decide +kernel
theorem dX10_shortens_199 : decode cX10_shortens 199 = .ok (.iadd, 1) := by decide +kernel
theorem dX10_shortens_200 : decode cX10_shortens 200 = .ok (.aload_n 0, 1) := by decide +kernel
theorem dX10_shortens_201 : decode cX10_shortens 201 = .ok (.getfield 47, 3) := by decide +kernel
theorem dX10_shortens_204 : decode cX10_shortens 204 = .ok (.iload 5, 2) := by decide +kernel
theorem dX10_shortens_206 : decode cX10_shortens 206 = .ok (.iaload, 1) := by decide +kernel
theorem dX10_shortens_207 : decode cX10_shortens 207 = .ok (.if_icmp .eq 9, 3) := by decide +kernel
theorem dX10_shortens_210 : decode cX10_shortens 210 = .ok (.iinc 6 (-1), 3) := by decide +kernel
theorem dX10_shortens_213 : decode cX10_shortens 213 = .ok (.goto (-39), 3) := by decide +kernel
theorem dX10_shortens_216 : decode cX10_shortens 216 = .ok (.aload_n 0, 1) := by decide +kernel
theorem dX10_shortens_217 : decode cX10_shortens 217 = .ok (.getfield 50, 3) := by decide +kernel
theorem dX10_shortens_220 : decode cX10_shortens 220 = .ok (.aload_n 0, 1) := by decide +kernel
theorem dX10_shortens_221 : decode cX10_shortens 221 = .ok (.getfield 123, 3) := by decide +kernel
theorem dX10_shortens_224 : decode cX10_shortens 224 = .ok (.aload_n 0, 1) := by decide +kernel
theorem dX10_shortens_225 : decode cX10_shortens 225 = .ok (.getfield 44, 3) := by decide +kernel
theorem dX10_shortens_228 : decode cX10_shortens 228 = .ok (.bipush 8, 2) := by decide +kernel
theorem dX10_shortens_230 : decode cX10_shortens 230 = .ok (.iload 5, 2) := by decide +kernel
theorem dX10_shortens_232 : decode cX10_shortens 232 = .ok (.imul, 1) := by decide +kernel
theorem dX10_shortens_233 : decode cX10_shortens 233 = .ok (.iload 6, 2) := by decide +kernel
theorem dX10_shortens_235 : decode cX10_shortens 235 = .ok (.iadd, 1) := by decide +kernel
theorem dX10_shortens_236 : decode cX10_shortens 236 = .ok (.iaload, 1) := by decide +kernel
theorem dX10_shortens_237 : decode cX10_shortens 237 = .ok (.iastore, 1) := by decide +kernel
theorem dX10_shortens_238 : decode cX10_shortens 238 = .ok (.aload_n 0, 1) := by decide +kernel
theorem dX10_shortens_239 : decode cX10_shortens 239 = .ok (.getfield 53, 3) := by decide +kernel
theorem dX10_shortens_242 : decode cX10_shortens 242 = .ok (.aload_n 0, 1) := by decide +kernel
theorem dX10_shortens_243 : decode cX10_shortens 243 = .ok (.getfield 123, 3) := by decide +kernel
theorem dX10_shortens_246 : decode cX10_shortens 246 = .ok (.aload_n 0, 1) := by decide +kernel
theorem dX10_shortens_247 : decode cX10_shortens 247 = .ok (.getfield 44, 3) := by decide +kernel
theorem dX10_shortens_250 : decode cX10_shortens 250 = .ok (.bipush 8, 2) := by decide +kernel
theorem dX10_shortens_252 : decode cX10_shortens 252 = .ok (.iload 5, 2) := by decide +kernel
theorem dX10_shortens_254 : decode cX10_shortens 254 = .ok (.imul, 1) := by decide +kernel
theorem dX10_shortens_255 : decode cX10_shortens 255 = .ok (.iload 6, 2) := by decide +kernel
theorem dX10_shortens_257 : decode cX10_shortens 257 = .ok (.iadd, 1) := by decide +kernel
theorem dX10_shortens_258 : decode cX10_shortens 258 = .ok (.iaload, 1) := by decide +kernel
theorem dX10_shortens_259 : decode cX10_shortens 259 = .ok (.iconst 2, 1) := by decide +kernel
theorem dX10_shortens_260 : decode cX10_shortens 260 = .ok (.if_icmp .ne 18, 3) := by decide +kernel
theorem dX10_shortens_263 : decode cX10_shortens 263 = .ok (.aload_n 0, 1) := by decide +kernel
theorem dX10_shortens_264 : decode cX10_shortens 264 = .ok (.aload_n 1, 1) := by decide +kernel
theorem dX10_shortens_265 : decode cX10_shortens 265 = .ok (.iload 5, 2) := by decide +kernel
theorem dX10_shortens_267 : decode cX10_shortens 267 = .ok (.iaload, 1) := by decide +kernel
theorem dX10_shortens_268 : decode cX10_shortens 268 = .ok (.aload_n 1, 1) := by decide +kernel
theorem dX10_shortens_269 : decode cX10_shortens 269 = .ok (.iload 6, 2) := by decide +kernel
theorem dX10_shortens_271 : decode cX10_shortens 271 = .ok (.iaload, 1) := by decide +kernel
theorem dX10_shortens_272 : decode cX10_shortens 272 = .ok (.invokevirtual 101, 3) := by decide +kernel
theorem dX10_shortens_275 : decode cX10_shortens 275 = .ok (.goto 7, 3) := by decide +kernel
theorem dX10_shortens_278 : decode cX10_shortens 278 = .ok (.aload_n 1, 1) := by decide +kernel
theorem dX10_shortens_279 : decode cX10_shortens 279 = .ok (.iload 6, 2) := by decide +kernel
theorem dX10_shortens_281 : decode cX10_shortens 281 = .ok (.iaload, 1) := by decide +kernel
theorem dX10_shortens_282 : decode cX10_shortens 282 = .ok (.iastore, 1) := by decide +kernel
theorem dX10_shortens_283 : decode cX10_shortens 283 = .ok (.aload_n 0, 1) := by decide +kernel
theorem dX10_shortens_284 : decode cX10_shortens 284 = .ok (.dup, 1) := by decide +kernel
theorem dX10_shortens_285 : decode cX10_shortens 285 = .ok (.getfield 123, 3) := by decide +kernel
theorem dX10_shortens_288 : decode cX10_shortens 288 = .ok (.iconst 1, 1) := by decide +kernel
theorem dX10_shortens_289 : decode cX10_shortens 289 = .ok (.iadd, 1) := by decide +kernel
theorem dX10_shortens_290 : decode cX10_shortens 290 = .ok (.putfield 123, 3) := by decide +kernel
theorem dX10_shortens_293 : decode cX10_shortens 293 = .ok (.iload 6, 2) := by decide +kernel
theorem dX10_shortens_295 : decode cX10_shortens 295 = .ok (.istore 5, 2) := by decide +kernel
theorem dX10_shortens_297 : decode cX10_shortens 297 = .ok (.goto (-136), 3) := by decide +kernel
theorem dX10_shortens_300 : decode cX10_shortens 300 = .ok (.iconst 1, 1) := by decide +kernel
theorem dX10_shortens_301 : decode cX10_shortens 301 = .ok (.ireturn, 1) := by decide +kernel
theorem dX10_repairs_0 : decode cX10_repairs 0 = .ok (.aload_n 0, 1) := by decide +kernel
theorem dX10_repairs_1 : decode cX10_repairs 1 = .ok (.iload_n 1, 1) := by decide +kernel
theorem dX10_repairs_2 : decode cX10_repairs 2 = .ok (.iload_n 3, 1) := by decide +kernel
theorem dX10_repairs_3 : decode cX10_repairs 3 = .ok (.iconst 0, 1) := by decide +kernel
theorem dX10_repairs_4 : decode cX10_repairs 4 = .ok (.aload_n 0, 1) := by decide +kernel
theorem dX10_repairs_5 : decode cX10_repairs 5 = .ok (.getfield 23, 3) := by decide +kernel
theorem dX10_repairs_8 : decode cX10_repairs 8 = .ok (.bipush 29, 2) := by decide +kernel
theorem dX10_repairs_10 : decode cX10_repairs 10 = .ok (.iload_n 1, 1) := by decide +kernel
theorem dX10_repairs_11 : decode cX10_repairs 11 = .ok (.iadd, 1) := by decide +kernel
theorem dX10_repairs_12 : decode cX10_repairs 12 = .ok (.iaload, 1) := by decide +kernel
theorem dX10_repairs_13 : decode cX10_repairs 13 = .ok (.iconst 1, 1) := by decide +kernel
theorem dX10_repairs_14 : decode cX10_repairs 14 = .ok (.iload_n 2, 1) := by decide +kernel
theorem dX10_repairs_15 : decode cX10_repairs 15 = .ok (.ishl, 1) := by decide +kernel
theorem dX10_repairs_16 : decode cX10_repairs 16 = .ok (.iconst (-1), 1) := by decide +kernel
theorem dX10_repairs_17 : decode cX10_repairs 17 = .ok (.ixor, 1) := by decide +kernel
theorem dX10_repairs_18 : decode cX10_repairs 18 = .ok (.iand, 1) := by decide +kernel
theorem dX10_repairs_19 : decode cX10_repairs 19 = .ok (.invokevirtual 126, 3) := by decide +kernel
theorem dX10_repairs_22 : decode cX10_repairs 22 = .ok (.ifCond .eq 32, 3) := by decide +kernel
theorem dX10_repairs_25 : decode cX10_repairs 25 = .ok (.aload_n 0, 1) := by decide +kernel
theorem dX10_repairs_26 : decode cX10_repairs 26 = .ok (.aload_n 0, 1) := by decide +kernel
theorem dX10_repairs_27 : decode cX10_repairs 27 = .ok (.getfield 41, 3) := by decide +kernel
theorem dX10_repairs_30 : decode cX10_repairs 30 = .ok (.aload_n 0, 1) := by decide +kernel
theorem dX10_repairs_31 : decode cX10_repairs 31 = .ok (.getfield 108, 3) := by decide +kernel
theorem dX10_repairs_34 : decode cX10_repairs 34 = .ok (.aload_n 0, 1) := by decide +kernel
theorem dX10_repairs_35 : decode cX10_repairs 35 = .ok (.getfield 23, 3) := by decide +kernel
theorem dX10_repairs_38 : decode cX10_repairs 38 = .ok (.bipush 29, 2) := by decide +kernel
theorem dX10_repairs_40 : decode cX10_repairs 40 = .ok (.iload_n 1, 1) := by decide +kernel
theorem dX10_repairs_41 : decode cX10_repairs 41 = .ok (.iadd, 1) := by decide +kernel
theorem dX10_repairs_42 : decode cX10_repairs 42 = .ok (.iaload, 1) := by decide +kernel
theorem dX10_repairs_43 : decode cX10_repairs 43 = .ok (.iconst 5, 1) := by decide +kernel
theorem dX10_repairs_44 : decode cX10_repairs 44 = .ok (.invokevirtual 130, 3) := by decide +kernel
theorem dX10_repairs_47 : decode cX10_repairs 47 = .ok (.ifCond .eq 7, 3) := by decide +kernel
theorem dX10_repairs_50 : decode cX10_repairs 50 = .ok (.iconst 1, 1) := by decide +kernel
theorem dX10_repairs_51 : decode cX10_repairs 51 = .ok (.goto 4, 3) := by decide +kernel
theorem dX10_repairs_54 : decode cX10_repairs 54 = .ok (.iconst 0, 1) := by decide +kernel
theorem dX10_repairs_55 : decode cX10_repairs 55 = .ok (.ireturn, 1) := by decide +kernel
theorem dX10_shortAt_0 : decode cX10_shortAt 0 = .ok (.iload_n 1, 1) := by decide +kernel
theorem dX10_shortAt_1 : decode cX10_shortAt 1 = .ok (.iconst (-1), 1) := by decide +kernel
theorem dX10_shortAt_2 : decode cX10_shortAt 2 = .ok (.if_icmp .ne 10, 3) := by decide +kernel
theorem dX10_shortAt_5 : decode cX10_shortAt 5 = .ok (.aload_n 0, 1) := by decide +kernel
theorem dX10_shortAt_6 : decode cX10_shortAt 6 = .ok (.getfield 123, 3) := by decide +kernel
theorem dX10_shortAt_9 : decode cX10_shortAt 9 = .ok (.goto 31, 3) := by decide +kernel
theorem dX10_shortAt_12 : decode cX10_shortAt 12 = .ok (.iload_n 1, 1) := by decide +kernel
theorem dX10_shortAt_13 : decode cX10_shortAt 13 = .ok (.aload_n 0, 1) := by decide +kernel
theorem dX10_shortAt_14 : decode cX10_shortAt 14 = .ok (.getfield 123, 3) := by decide +kernel
theorem dX10_shortAt_17 : decode cX10_shortAt 17 = .ok (.if_icmp .ge 22, 3) := by decide +kernel
theorem dX10_shortAt_20 : decode cX10_shortAt 20 = .ok (.bipush 100, 2) := by decide +kernel
theorem dX10_shortAt_22 : decode cX10_shortAt 22 = .ok (.aload_n 0, 1) := by decide +kernel
theorem dX10_shortAt_23 : decode cX10_shortAt 23 = .ok (.getfield 50, 3) := by decide +kernel
theorem dX10_shortAt_26 : decode cX10_shortAt 26 = .ok (.iload_n 1, 1) := by decide +kernel
theorem dX10_shortAt_27 : decode cX10_shortAt 27 = .ok (.iaload, 1) := by decide +kernel
theorem dX10_shortAt_28 : decode cX10_shortAt 28 = .ok (.imul, 1) := by decide +kernel
theorem dX10_shortAt_29 : decode cX10_shortAt 29 = .ok (.aload_n 0, 1) := by decide +kernel
theorem dX10_shortAt_30 : decode cX10_shortAt 30 = .ok (.getfield 53, 3) := by decide +kernel
theorem dX10_shortAt_33 : decode cX10_shortAt 33 = .ok (.iload_n 1, 1) := by decide +kernel
theorem dX10_shortAt_34 : decode cX10_shortAt 34 = .ok (.iaload, 1) := by decide +kernel
theorem dX10_shortAt_35 : decode cX10_shortAt 35 = .ok (.iadd, 1) := by decide +kernel
theorem dX10_shortAt_36 : decode cX10_shortAt 36 = .ok (.goto 4, 3) := by decide +kernel
theorem dX10_shortAt_39 : decode cX10_shortAt 39 = .ok (.iconst (-1), 1) := by decide +kernel
theorem dX10_shortAt_40 : decode cX10_shortAt 40 = .ok (.ireturn, 1) := by decide +kernel
theorem dX10_write_0 : decode cX10_write 0 = .ok (.iload_n 1, 1) := by decide +kernel
theorem dX10_write_1 : decode cX10_write 1 = .ok (.iconst 0, 1) := by decide +kernel
theorem dX10_write_2 : decode cX10_write 2 = .ok (.sipush 255, 3) := by decide +kernel
theorem dX10_write_5 : decode cX10_write 5 = .ok (.invokestatic 86, 3) := by decide +kernel
theorem dX10_write_8 : decode cX10_write 8 = .ok (.ifCond .ne 6, 3) := by decide +kernel
theorem dX10_write_11 : decode cX10_write 11 = .ok (.bipush (-3), 2) := by decide +kernel
theorem dX10_write_13 : decode cX10_write 13 = .ok (.ireturn, 1) := by decide +kernel
theorem dX10_write_14 : decode cX10_write 14 = .ok (.aload_n 0, 1) := by decide +kernel
theorem dX10_write_15 : decode cX10_write 15 = .ok (.getfield 134, 3) := by decide +kernel
theorem dX10_write_18 : decode cX10_write 18 = .ok (.sipush 200, 3) := by decide +kernel
theorem dX10_write_21 : decode cX10_write 21 = .ok (.if_icmp .ne 6, 3) := by decide +kernel
theorem dX10_write_24 : decode cX10_write 24 = .ok (.bipush (-5), 2) := by decide +kernel
theorem dX10_write_26 : decode cX10_write 26 = .ok (.ireturn, 1) := by decide +kernel
theorem dX10_write_27 : decode cX10_write 27 = .ok (.aload_n 0, 1) := by decide +kernel
theorem dX10_write_28 : decode cX10_write 28 = .ok (.getfield 56, 3) := by decide +kernel
theorem dX10_write_31 : decode cX10_write 31 = .ok (.aload_n 0, 1) := by decide +kernel
theorem dX10_write_32 : decode cX10_write 32 = .ok (.getfield 134, 3) := by decide +kernel
theorem dX10_write_35 : decode cX10_write 35 = .ok (.iload_n 1, 1) := by decide +kernel
theorem dX10_write_36 : decode cX10_write 36 = .ok (.iastore, 1) := by decide +kernel
theorem dX10_write_37 : decode cX10_write 37 = .ok (.aload_n 0, 1) := by decide +kernel
theorem dX10_write_38 : decode cX10_write 38 = .ok (.dup, 1) := by decide +kernel
theorem dX10_write_39 : decode cX10_write 39 = .ok (.getfield 134, 3) := by decide +kernel
theorem dX10_write_42 : decode cX10_write 42 = .ok (.iconst 1, 1) := by decide +kernel
theorem dX10_write_43 : decode cX10_write 43 = .ok (.iadd, 1) := by decide +kernel
theorem dX10_write_44 : decode cX10_write 44 = .ok (.putfield 134, 3) := by decide +kernel
theorem dX10_write_47 : decode cX10_write 47 = .ok (.aload_n 0, 1) := by decide +kernel
theorem dX10_write_48 : decode cX10_write 48 = .ok (.getfield 134, 3) := by decide +kernel
theorem dX10_write_51 : decode cX10_write 51 = .ok (.ireturn, 1) := by decide +kernel
theorem dX10_erase_0 : decode cX10_erase 0 = .ok (.aload_n 0, 1) := by decide +kernel
theorem dX10_erase_1 : decode cX10_erase 1 = .ok (.getfield 134, 3) := by decide +kernel
theorem dX10_erase_4 : decode cX10_erase 4 = .ok (.istore_n 1, 1) := by decide +kernel
theorem dX10_erase_5 : decode cX10_erase 5 = .ok (.aload_n 0, 1) := by decide +kernel
theorem dX10_erase_6 : decode cX10_erase 6 = .ok (.iconst 0, 1) := by decide +kernel
theorem dX10_erase_7 : decode cX10_erase 7 = .ok (.putfield 134, 3) := by decide +kernel
theorem dX10_erase_10 : decode cX10_erase 10 = .ok (.iload_n 1, 1) := by decide +kernel
theorem dX10_erase_11 : decode cX10_erase 11 = .ok (.ireturn, 1) := by decide +kernel
theorem dX10_isLetter_0 : decode cX10_isLetter 0 = .ok (.iload_n 1, 1) := by decide +kernel
theorem dX10_isLetter_1 : decode cX10_isLetter 1 = .ok (.aload_n 0, 1) := by decide +kernel
theorem dX10_isLetter_2 : decode cX10_isLetter 2 = .ok (.getfield 134, 3) := by decide +kernel
theorem dX10_isLetter_5 : decode cX10_isLetter 5 = .ok (.if_icmp .ge 23, 3) := by decide +kernel
theorem dX10_isLetter_8 : decode cX10_isLetter 8 = .ok (.aload_n 0, 1) := by decide +kernel
theorem dX10_isLetter_9 : decode cX10_isLetter 9 = .ok (.getfield 56, 3) := by decide +kernel
theorem dX10_isLetter_12 : decode cX10_isLetter 12 = .ok (.iload_n 1, 1) := by decide +kernel
theorem dX10_isLetter_13 : decode cX10_isLetter 13 = .ok (.iaload, 1) := by decide +kernel
theorem dX10_isLetter_14 : decode cX10_isLetter 14 = .ok (.bipush 97, 2) := by decide +kernel
theorem dX10_isLetter_16 : decode cX10_isLetter 16 = .ok (.bipush 122, 2) := by decide +kernel
theorem dX10_isLetter_18 : decode cX10_isLetter 18 = .ok (.invokestatic 86, 3) := by decide +kernel
theorem dX10_isLetter_21 : decode cX10_isLetter 21 = .ok (.ifCond .eq 7, 3) := by decide +kernel
theorem dX10_isLetter_24 : decode cX10_isLetter 24 = .ok (.iconst 1, 1) := by decide +kernel
theorem dX10_isLetter_25 : decode cX10_isLetter 25 = .ok (.goto 4, 3) := by decide +kernel
theorem dX10_isLetter_28 : decode cX10_isLetter 28 = .ok (.iconst 0, 1) := by decide +kernel
theorem dX10_isLetter_29 : decode cX10_isLetter 29 = .ok (.ireturn, 1) := by decide +kernel
theorem dX10_isFigure_0 : decode cX10_isFigure 0 = .ok (.iload_n 1, 1) := by decide +kernel
theorem dX10_isFigure_1 : decode cX10_isFigure 1 = .ok (.aload_n 0, 1) := by decide +kernel
theorem dX10_isFigure_2 : decode cX10_isFigure 2 = .ok (.getfield 134, 3) := by decide +kernel
theorem dX10_isFigure_5 : decode cX10_isFigure 5 = .ok (.if_icmp .ge 23, 3) := by decide +kernel
theorem dX10_isFigure_8 : decode cX10_isFigure 8 = .ok (.aload_n 0, 1) := by decide +kernel
theorem dX10_isFigure_9 : decode cX10_isFigure 9 = .ok (.getfield 56, 3) := by decide +kernel
theorem dX10_isFigure_12 : decode cX10_isFigure 12 = .ok (.iload_n 1, 1) := by decide +kernel
theorem dX10_isFigure_13 : decode cX10_isFigure 13 = .ok (.iaload, 1) := by decide +kernel
theorem dX10_isFigure_14 : decode cX10_isFigure 14 = .ok (.bipush 48, 2) := by decide +kernel
theorem dX10_isFigure_16 : decode cX10_isFigure 16 = .ok (.bipush 57, 2) := by decide +kernel
theorem dX10_isFigure_18 : decode cX10_isFigure 18 = .ok (.invokestatic 86, 3) := by decide +kernel
theorem dX10_isFigure_21 : decode cX10_isFigure 21 = .ok (.ifCond .eq 7, 3) := by decide +kernel
theorem dX10_isFigure_24 : decode cX10_isFigure 24 = .ok (.iconst 1, 1) := by decide +kernel
theorem dX10_isFigure_25 : decode cX10_isFigure 25 = .ok (.goto 4, 3) := by decide +kernel
theorem dX10_isFigure_28 : decode cX10_isFigure 28 = .ok (.iconst 0, 1) := by decide +kernel
theorem dX10_isFigure_29 : decode cX10_isFigure 29 = .ok (.ireturn, 1) := by decide +kernel
theorem dX10_looks_0 : decode cX10_looks 0 = .ok (.aload_n 0, 1) := by decide +kernel
theorem dX10_looks_1 : decode cX10_looks 1 = .ok (.getfield 137, 3) := by decide +kernel
theorem dX10_looks_4 : decode cX10_looks 4 = .ok (.aload_n 0, 1) := by decide +kernel
theorem dX10_looks_5 : decode cX10_looks 5 = .ok (.getfield 134, 3) := by decide +kernel
theorem dX10_looks_8 : decode cX10_looks 8 = .ok (.if_icmp .ge 30, 3) := by decide +kernel
theorem dX10_looks_11 : decode cX10_looks 11 = .ok (.aload_n 0, 1) := by decide +kernel
theorem dX10_looks_12 : decode cX10_looks 12 = .ok (.getfield 56, 3) := by decide +kernel
theorem dX10_looks_15 : decode cX10_looks 15 = .ok (.aload_n 0, 1) := by decide +kernel
theorem dX10_looks_16 : decode cX10_looks 16 = .ok (.getfield 137, 3) := by decide +kernel
theorem dX10_looks_19 : decode cX10_looks 19 = .ok (.iaload, 1) := by decide +kernel
theorem dX10_looks_20 : decode cX10_looks 20 = .ok (.bipush 32, 2) := by decide +kernel
theorem dX10_looks_22 : decode cX10_looks 22 = .ok (.if_icmp .ne 16, 3) := by decide +kernel
theorem dX10_looks_25 : decode cX10_looks 25 = .ok (.aload_n 0, 1) := by decide +kernel
theorem dX10_looks_26 : decode cX10_looks 26 = .ok (.dup, 1) := by decide +kernel
theorem dX10_looks_27 : decode cX10_looks 27 = .ok (.getfield 137, 3) := by decide +kernel
theorem dX10_looks_30 : decode cX10_looks 30 = .ok (.iconst 1, 1) := by decide +kernel
theorem dX10_looks_31 : decode cX10_looks 31 = .ok (.iadd, 1) := by decide +kernel
theorem dX10_looks_32 : decode cX10_looks 32 = .ok (.putfield 137, 3) := by decide +kernel
theorem dX10_looks_35 : decode cX10_looks 35 = .ok (.goto (-35), 3) := by decide +kernel
theorem dX10_looks_38 : decode cX10_looks 38 = .ok (.aload_n 0, 1) := by decide +kernel
theorem dX10_looks_39 : decode cX10_looks 39 = .ok (.aload_n 0, 1) := by decide +kernel
theorem dX10_looks_40 : decode cX10_looks 40 = .ok (.getfield 137, 3) := by decide +kernel
theorem dX10_looks_43 : decode cX10_looks 43 = .ok (.aload_n 0, 1) := by decide +kernel
theorem dX10_looks_44 : decode cX10_looks 44 = .ok (.getfield 134, 3) := by decide +kernel
theorem dX10_looks_47 : decode cX10_looks 47 = .ok (.if_icmp .ge 7, 3) := by decide +kernel
theorem dX10_looks_50 : decode cX10_looks 50 = .ok (.iconst 1, 1) := by decide +kernel
theorem dX10_looks_51 : decode cX10_looks 51 = .ok (.goto 4, 3) := by decide +kernel
theorem dX10_looks_54 : decode cX10_looks 54 = .ok (.iconst 0, 1) := by decide +kernel
theorem dX10_looks_55 : decode cX10_looks 55 = .ok (.putfield 140, 3) := by decide +kernel
theorem dX10_looks_58 : decode cX10_looks 58 = .ok (.aload_n 0, 1) := by decide +kernel
theorem dX10_looks_59 : decode cX10_looks 59 = .ok (.aload_n 0, 1) := by decide +kernel
theorem dX10_looks_60 : decode cX10_looks 60 = .ok (.getfield 137, 3) := by decide +kernel
theorem dX10_looks_63 : decode cX10_looks 63 = .ok (.invokevirtual 143, 3) := by decide +kernel
theorem dX10_looks_66 : decode cX10_looks 66 = .ok (.ifCond .eq 19, 3) := by decide +kernel
theorem dX10_looks_69 : decode cX10_looks 69 = .ok (.aload_n 0, 1) := by decide +kernel
theorem dX10_looks_70 : decode cX10_looks 70 = .ok (.aload_n 0, 1) := by decide +kernel
theorem dX10_looks_71 : decode cX10_looks 71 = .ok (.getfield 137, 3) := by decide +kernel
theorem dX10_looks_74 : decode cX10_looks 74 = .ok (.aload_n 0, 1) := by decide +kernel
theorem dX10_looks_75 : decode cX10_looks 75 = .ok (.getfield 140, 3) := by decide +kernel
theorem dX10_looks_78 : decode cX10_looks 78 = .ok (.iadd, 1) := by decide +kernel
theorem dX10_looks_79 : decode cX10_looks 79 = .ok (.invokevirtual 143, 3) := by decide +kernel
theorem dX10_looks_82 : decode cX10_looks 82 = .ok (.ifCond .ne 30, 3) := by decide +kernel
theorem dX10_looks_85 : decode cX10_looks 85 = .ok (.aload_n 0, 1) := by decide +kernel
theorem dX10_looks_86 : decode cX10_looks 86 = .ok (.aload_n 0, 1) := by decide +kernel
theorem dX10_looks_87 : decode cX10_looks 87 = .ok (.getfield 137, 3) := by decide +kernel
theorem dX10_looks_90 : decode cX10_looks 90 = .ok (.invokevirtual 147, 3) := by decide +kernel
theorem dX10_looks_93 : decode cX10_looks 93 = .ok (.ifCond .eq 32, 3) := by decide +kernel
theorem dX10_looks_96 : decode cX10_looks 96 = .ok (.aload_n 0, 1) := by decide +kernel
theorem dX10_looks_97 : decode cX10_looks 97 = .ok (.aload_n 0, 1) := by decide +kernel
theorem dX10_looks_98 : decode cX10_looks 98 = .ok (.getfield 137, 3) := by decide +kernel
theorem dX10_looks_101 : decode cX10_looks 101 = .ok (.aload_n 0, 1) := by decide +kernel
theorem dX10_looks_102 : decode cX10_looks 102 = .ok (.getfield 140, 3) := by decide +kernel
theorem dX10_looks_105 : decode cX10_looks 105 = .ok (.iadd, 1) := by decide +kernel
theorem dX10_looks_106 : decode cX10_looks 106 = .ok (.invokevirtual 147, 3) := by decide +kernel
theorem dX10_looks_109 : decode cX10_looks 109 = .ok (.ifCond .eq 16, 3) := by decide +kernel
theorem dX10_looks_112 : decode cX10_looks 112 = .ok (.aload_n 0, 1) := by decide +kernel
theorem dX10_looks_113 : decode cX10_looks 113 = .ok (.dup, 1) := by decide +kernel
theorem dX10_looks_114 : decode cX10_looks 114 = .ok (.getfield 140, 3) := by decide +kernel
theorem dX10_looks_117 : decode cX10_looks 117 = .ok (.iconst 1, 1) := by decide +kernel
theorem dX10_looks_118 : decode cX10_looks 118 = .ok (.iadd, 1) := by decide +kernel
theorem dX10_looks_119 : decode cX10_looks 119 = .ok (.putfield 140, 3) := by decide +kernel
theorem dX10_looks_122 : decode cX10_looks 122 = .ok (.goto (-64), 3) := by decide +kernel
theorem dX10_looks_125 : decode cX10_looks 125 = .ok (.aload_n 0, 1) := by decide +kernel
theorem dX10_looks_126 : decode cX10_looks 126 = .ok (.getfield 137, 3) := by decide +kernel
theorem dX10_looks_129 : decode cX10_looks 129 = .ok (.aload_n 0, 1) := by decide +kernel
theorem dX10_looks_130 : decode cX10_looks 130 = .ok (.getfield 134, 3) := by decide +kernel
theorem dX10_looks_133 : decode cX10_looks 133 = .ok (.if_icmp .ge 15, 3) := by decide +kernel
theorem dX10_looks_136 : decode cX10_looks 136 = .ok (.aload_n 0, 1) := by decide +kernel
theorem dX10_looks_137 : decode cX10_looks 137 = .ok (.getfield 56, 3) := by decide +kernel
theorem dX10_looks_140 : decode cX10_looks 140 = .ok (.aload_n 0, 1) := by decide +kernel
theorem dX10_looks_141 : decode cX10_looks 141 = .ok (.getfield 137, 3) := by decide +kernel
theorem dX10_looks_144 : decode cX10_looks 144 = .ok (.iaload, 1) := by decide +kernel
theorem dX10_looks_145 : decode cX10_looks 145 = .ok (.goto 4, 3) := by decide +kernel
theorem dX10_looks_148 : decode cX10_looks 148 = .ok (.iconst (-1), 1) := by decide +kernel
theorem dX10_looks_149 : decode cX10_looks 149 = .ok (.ireturn, 1) := by decide +kernel
theorem dX10_takes_0 : decode cX10_takes 0 = .ok (.aload_n 0, 1) := by decide +kernel
theorem dX10_takes_1 : decode cX10_takes 1 = .ok (.aload_n 0, 1) := by decide +kernel
theorem dX10_takes_2 : decode cX10_takes 2 = .ok (.getfield 150, 3) := by decide +kernel
theorem dX10_takes_5 : decode cX10_takes 5 = .ok (.ifCond .ne 7, 3) := by decide +kernel
theorem dX10_takes_8 : decode cX10_takes 8 = .ok (.iload_n 1, 1) := by decide +kernel
theorem dX10_takes_9 : decode cX10_takes 9 = .ok (.ifCond .ne 7, 3) := by decide +kernel
theorem dX10_takes_12 : decode cX10_takes 12 = .ok (.iconst 1, 1) := by decide +kernel
theorem dX10_takes_13 : decode cX10_takes 13 = .ok (.goto 4, 3) := by decide +kernel
theorem dX10_takes_16 : decode cX10_takes 16 = .ok (.iconst 0, 1) := by decide +kernel
theorem dX10_takes_17 : decode cX10_takes 17 = .ok (.putfield 150, 3) := by decide +kernel
theorem dX10_takes_20 : decode cX10_takes 20 = .ok (.aload_n 0, 1) := by decide +kernel
theorem dX10_takes_21 : decode cX10_takes 21 = .ok (.dup, 1) := by decide +kernel
theorem dX10_takes_22 : decode cX10_takes 22 = .ok (.getfield 137, 3) := by decide +kernel
theorem dX10_takes_25 : decode cX10_takes 25 = .ok (.aload_n 0, 1) := by decide +kernel
theorem dX10_takes_26 : decode cX10_takes 26 = .ok (.getfield 150, 3) := by decide +kernel
theorem dX10_takes_29 : decode cX10_takes 29 = .ok (.ifCond .eq 7, 3) := by decide +kernel
theorem dX10_takes_32 : decode cX10_takes 32 = .ok (.iconst 0, 1) := by decide +kernel
theorem dX10_takes_33 : decode cX10_takes 33 = .ok (.goto 7, 3) := by decide +kernel
theorem dX10_takes_36 : decode cX10_takes 36 = .ok (.aload_n 0, 1) := by decide +kernel
theorem dX10_takes_37 : decode cX10_takes 37 = .ok (.getfield 140, 3) := by decide +kernel
theorem dX10_takes_40 : decode cX10_takes 40 = .ok (.iadd, 1) := by decide +kernel
theorem dX10_takes_41 : decode cX10_takes 41 = .ok (.putfield 137, 3) := by decide +kernel
theorem dX10_takes_44 : decode cX10_takes 44 = .ok (.return_, 1) := by decide +kernel
theorem dX10_figure_0 : decode cX10_figure 0 = .ok (.aload_n 0, 1) := by decide +kernel
theorem dX10_figure_1 : decode cX10_figure 1 = .ok (.getfield 150, 3) := by decide +kernel
theorem dX10_figure_4 : decode cX10_figure 4 = .ok (.ifCond .eq 7, 3) := by decide +kernel
theorem dX10_figure_7 : decode cX10_figure 7 = .ok (.iconst (-1), 1) := by decide +kernel
theorem dX10_figure_8 : decode cX10_figure 8 = .ok (.goto 10, 3) := by decide +kernel
theorem dX10_figure_11 : decode cX10_figure 11 = .ok (.aload_n 0, 1) := by decide +kernel
theorem dX10_figure_12 : decode cX10_figure 12 = .ok (.invokevirtual 154, 3) := by decide +kernel
theorem dX10_figure_15 : decode cX10_figure 15 = .ok (.bipush 48, 2) := by decide +kernel
theorem dX10_figure_17 : decode cX10_figure 17 = .ok (.isub, 1) := by decide +kernel
theorem dX10_figure_18 : decode cX10_figure 18 = .ok (.istore_n 3, 1) := by decide +kernel
theorem dX10_figure_19 : decode cX10_figure 19 = .ok (.aload_n 0, 1) := by decide +kernel
theorem dX10_figure_20 : decode cX10_figure 20 = .ok (.aload_n 0, 1) := by decide +kernel
theorem dX10_figure_21 : decode cX10_figure 21 = .ok (.getfield 150, 3) := by decide +kernel
theorem dX10_figure_24 : decode cX10_figure 24 = .ok (.ifCond .ne 24, 3) := by decide +kernel
theorem dX10_figure_27 : decode cX10_figure 27 = .ok (.aload_n 0, 1) := by decide +kernel
theorem dX10_figure_28 : decode cX10_figure 28 = .ok (.getfield 140, 3) := by decide +kernel
theorem dX10_figure_31 : decode cX10_figure 31 = .ok (.iconst 1, 1) := by decide +kernel
theorem dX10_figure_32 : decode cX10_figure 32 = .ok (.if_icmp .ne 16, 3) := by decide +kernel
theorem dX10_figure_35 : decode cX10_figure 35 = .ok (.iload_n 3, 1) := by decide +kernel
theorem dX10_figure_36 : decode cX10_figure 36 = .ok (.iload_n 1, 1) := by decide +kernel
theorem dX10_figure_37 : decode cX10_figure 37 = .ok (.iload_n 2, 1) := by decide +kernel
theorem dX10_figure_38 : decode cX10_figure 38 = .ok (.invokestatic 86, 3) := by decide +kernel
theorem dX10_figure_41 : decode cX10_figure 41 = .ok (.ifCond .eq 7, 3) := by decide +kernel
theorem dX10_figure_44 : decode cX10_figure 44 = .ok (.iconst 1, 1) := by decide +kernel
theorem dX10_figure_45 : decode cX10_figure 45 = .ok (.goto 4, 3) := by decide +kernel
theorem dX10_figure_48 : decode cX10_figure 48 = .ok (.iconst 0, 1) := by decide +kernel
theorem dX10_figure_49 : decode cX10_figure 49 = .ok (.invokevirtual 158, 3) := by decide +kernel
theorem dX10_figure_52 : decode cX10_figure 52 = .ok (.iload_n 3, 1) := by decide +kernel
theorem dX10_figure_53 : decode cX10_figure 53 = .ok (.ireturn, 1) := by decide +kernel
theorem dX10_readLinkOf_0 : decode cX10_readLinkOf 0 = .ok (.iconst 0, 1) := by decide +kernel
theorem dX10_readLinkOf_1 : decode cX10_readLinkOf 1 = .ok (.istore_n 3, 1) := by decide +kernel
theorem dX10_readLinkOf_2 : decode cX10_readLinkOf 2 = .ok (.iload_n 3, 1) := by decide +kernel
theorem dX10_readLinkOf_3 : decode cX10_readLinkOf 3 = .ok (.aload_n 0, 1) := by decide +kernel
theorem dX10_readLinkOf_4 : decode cX10_readLinkOf 4 = .ok (.getfield 162, 3) := by decide +kernel
theorem dX10_readLinkOf_7 : decode cX10_readLinkOf 7 = .ok (.if_icmp .ge 51, 3) := by decide +kernel
theorem dX10_readLinkOf_10 : decode cX10_readLinkOf 10 = .ok (.aload_n 0, 1) := by decide +kernel
theorem dX10_readLinkOf_11 : decode cX10_readLinkOf 11 = .ok (.getfield 59, 3) := by decide +kernel
theorem dX10_readLinkOf_14 : decode cX10_readLinkOf 14 = .ok (.iload_n 3, 1) := by decide +kernel
theorem dX10_readLinkOf_15 : decode cX10_readLinkOf 15 = .ok (.iaload, 1) := by decide +kernel
theorem dX10_readLinkOf_16 : decode cX10_readLinkOf 16 = .ok (.iload_n 1, 1) := by decide +kernel
theorem dX10_readLinkOf_17 : decode cX10_readLinkOf 17 = .ok (.if_icmp .ne 13, 3) := by decide +kernel
theorem dX10_readLinkOf_20 : decode cX10_readLinkOf 20 = .ok (.aload_n 0, 1) := by decide +kernel
theorem dX10_readLinkOf_21 : decode cX10_readLinkOf 21 = .ok (.getfield 62, 3) := by decide +kernel
theorem dX10_readLinkOf_24 : decode cX10_readLinkOf 24 = .ok (.iload_n 3, 1) := by decide +kernel
theorem dX10_readLinkOf_25 : decode cX10_readLinkOf 25 = .ok (.iaload, 1) := by decide +kernel
theorem dX10_readLinkOf_26 : decode cX10_readLinkOf 26 = .ok (.iload_n 2, 1) := by decide +kernel
theorem dX10_readLinkOf_27 : decode cX10_readLinkOf 27 = .ok (.if_icmp .eq 23, 3) := by decide +kernel
theorem dX10_readLinkOf_30 : decode cX10_readLinkOf 30 = .ok (.aload_n 0, 1) := by decide +kernel
theorem dX10_readLinkOf_31 : decode cX10_readLinkOf 31 = .ok (.getfield 59, 3) := by decide +kernel
theorem dX10_readLinkOf_34 : decode cX10_readLinkOf 34 = .ok (.iload_n 3, 1) := by decide +kernel
theorem dX10_readLinkOf_35 : decode cX10_readLinkOf 35 = .ok (.iaload, 1) := by decide +kernel
theorem dX10_readLinkOf_36 : decode cX10_readLinkOf 36 = .ok (.iload_n 2, 1) := by decide +kernel
theorem dX10_readLinkOf_37 : decode cX10_readLinkOf 37 = .ok (.if_icmp .ne 15, 3) := by decide +kernel
theorem dX10_readLinkOf_40 : decode cX10_readLinkOf 40 = .ok (.aload_n 0, 1) := by decide +kernel
theorem dX10_readLinkOf_41 : decode cX10_readLinkOf 41 = .ok (.getfield 62, 3) := by decide +kernel
theorem dX10_readLinkOf_44 : decode cX10_readLinkOf 44 = .ok (.iload_n 3, 1) := by decide +kernel
theorem dX10_readLinkOf_45 : decode cX10_readLinkOf 45 = .ok (.iaload, 1) := by decide +kernel
theorem dX10_readLinkOf_46 : decode cX10_readLinkOf 46 = .ok (.iload_n 1, 1) := by decide +kernel
theorem dX10_readLinkOf_47 : decode cX10_readLinkOf 47 = .ok (.if_icmp .ne 5, 3) := by decide +kernel
theorem dX10_readLinkOf_50 : decode cX10_readLinkOf 50 = .ok (.iload_n 3, 1) := by decide +kernel
theorem dX10_readLinkOf_51 : decode cX10_readLinkOf 51 = .ok (.ireturn, 1) := by decide +kernel
theorem dX10_readLinkOf_52 : decode cX10_readLinkOf 52 = .ok (.iinc 3 1, 3) := by decide +kernel
theorem dX10_readLinkOf_55 : decode cX10_readLinkOf 55 = .ok (.goto (-53), 3) := by decide +kernel
theorem dX10_readLinkOf_58 : decode cX10_readLinkOf 58 = .ok (.iconst (-1), 1) := by decide +kernel
theorem dX10_readLinkOf_59 : decode cX10_readLinkOf 59 = .ok (.ireturn, 1) := by decide +kernel
theorem dX10_isName_0 : decode cX10_isName 0 = .ok (.iload 5, 2) := by decide +kernel
theorem dX10_isName_2 : decode cX10_isName 2 = .ok (.ifCond .ne 7, 3) := by decide +kernel
theorem dX10_isName_5 : decode cX10_isName 5 = .ok (.iconst 4, 1) := by decide +kernel
theorem dX10_isName_6 : decode cX10_isName 6 = .ok (.goto 4, 3) := by decide +kernel
theorem dX10_isName_9 : decode cX10_isName 9 = .ok (.iconst 5, 1) := by decide +kernel
theorem dX10_isName_10 : decode cX10_isName 10 = .ok (.istore 6, 2) := by decide +kernel
theorem dX10_isName_12 : decode cX10_isName 12 = .ok (.aload_n 0, 1) := by decide +kernel
theorem dX10_isName_13 : decode cX10_isName 13 = .ok (.getfield 140, 3) := by decide +kernel
theorem dX10_isName_16 : decode cX10_isName 16 = .ok (.iload 6, 2) := by decide +kernel
theorem dX10_isName_18 : decode cX10_isName 18 = .ok (.if_icmp .ne 50, 3) := by decide +kernel
theorem dX10_isName_21 : decode cX10_isName 21 = .ok (.aload_n 0, 1) := by decide +kernel
theorem dX10_isName_22 : decode cX10_isName 22 = .ok (.getfield 56, 3) := by decide +kernel
theorem dX10_isName_25 : decode cX10_isName 25 = .ok (.aload_n 0, 1) := by decide +kernel
theorem dX10_isName_26 : decode cX10_isName 26 = .ok (.getfield 137, 3) := by decide +kernel
theorem dX10_isName_29 : decode cX10_isName 29 = .ok (.iaload, 1) := by decide +kernel
theorem dX10_isName_30 : decode cX10_isName 30 = .ok (.iload_n 1, 1) := by decide +kernel
theorem dX10_isName_31 : decode cX10_isName 31 = .ok (.if_icmp .ne 37, 3) := by decide +kernel
theorem dX10_isName_34 : decode cX10_isName 34 = .ok (.aload_n 0, 1) := by decide +kernel
theorem dX10_isName_35 : decode cX10_isName 35 = .ok (.getfield 56, 3) := by decide +kernel
theorem dX10_isName_38 : decode cX10_isName 38 = .ok (.aload_n 0, 1) := by decide +kernel
theorem dX10_isName_39 : decode cX10_isName 39 = .ok (.getfield 137, 3) := by decide +kernel
theorem dX10_isName_42 : decode cX10_isName 42 = .ok (.iconst 1, 1) := by decide +kernel
theorem dX10_isName_43 : decode cX10_isName 43 = .ok (.iadd, 1) := by decide +kernel
theorem dX10_isName_44 : decode cX10_isName 44 = .ok (.iaload, 1) := by decide +kernel
theorem dX10_isName_45 : decode cX10_isName 45 = .ok (.iload_n 2, 1) := by decide +kernel
theorem dX10_isName_46 : decode cX10_isName 46 = .ok (.if_icmp .ne 22, 3) := by decide +kernel
theorem dX10_isName_49 : decode cX10_isName 49 = .ok (.aload_n 0, 1) := by decide +kernel
theorem dX10_isName_50 : decode cX10_isName 50 = .ok (.getfield 56, 3) := by decide +kernel
theorem dX10_isName_53 : decode cX10_isName 53 = .ok (.aload_n 0, 1) := by decide +kernel
theorem dX10_isName_54 : decode cX10_isName 54 = .ok (.getfield 137, 3) := by decide +kernel
theorem dX10_isName_57 : decode cX10_isName 57 = .ok (.iconst 2, 1) := by decide +kernel
theorem dX10_isName_58 : decode cX10_isName 58 = .ok (.iadd, 1) := by decide +kernel
theorem dX10_isName_59 : decode cX10_isName 59 = .ok (.iaload, 1) := by decide +kernel
theorem dX10_isName_60 : decode cX10_isName 60 = .ok (.iload_n 3, 1) := by decide +kernel
theorem dX10_isName_61 : decode cX10_isName 61 = .ok (.if_icmp .ne 7, 3) := by decide +kernel
theorem dX10_isName_64 : decode cX10_isName 64 = .ok (.iconst 1, 1) := by decide +kernel
theorem dX10_isName_65 : decode cX10_isName 65 = .ok (.goto 4, 3) := by decide +kernel
theorem dX10_isName_68 : decode cX10_isName 68 = .ok (.iconst 0, 1) := by decide +kernel
theorem dX10_isName_69 : decode cX10_isName 69 = .ok (.istore 7, 2) := by decide +kernel
theorem dX10_isName_71 : decode cX10_isName 71 = .ok (.iload 7, 2) := by decide +kernel
theorem dX10_isName_73 : decode cX10_isName 73 = .ok (.ifCond .eq 44, 3) := by decide +kernel
theorem dX10_isName_76 : decode cX10_isName 76 = .ok (.aload_n 0, 1) := by decide +kernel
theorem dX10_isName_77 : decode cX10_isName 77 = .ok (.getfield 56, 3) := by decide +kernel
theorem dX10_isName_80 : decode cX10_isName 80 = .ok (.aload_n 0, 1) := by decide +kernel
theorem dX10_isName_81 : decode cX10_isName 81 = .ok (.getfield 137, 3) := by decide +kernel
theorem dX10_isName_84 : decode cX10_isName 84 = .ok (.iconst 3, 1) := by decide +kernel
theorem dX10_isName_85 : decode cX10_isName 85 = .ok (.iadd, 1) := by decide +kernel
theorem dX10_isName_86 : decode cX10_isName 86 = .ok (.iaload, 1) := by decide +kernel
theorem dX10_isName_87 : decode cX10_isName 87 = .ok (.iload 4, 2) := by decide +kernel
theorem dX10_isName_89 : decode cX10_isName 89 = .ok (.if_icmp .ne 28, 3) := by decide +kernel
theorem dX10_isName_92 : decode cX10_isName 92 = .ok (.iload 5, 2) := by decide +kernel
theorem dX10_isName_94 : decode cX10_isName 94 = .ok (.ifCond .eq 19, 3) := by decide +kernel
theorem dX10_isName_97 : decode cX10_isName 97 = .ok (.aload_n 0, 1) := by decide +kernel
theorem dX10_isName_98 : decode cX10_isName 98 = .ok (.getfield 56, 3) := by decide +kernel
theorem dX10_isName_101 : decode cX10_isName 101 = .ok (.aload_n 0, 1) := by decide +kernel
theorem dX10_isName_102 : decode cX10_isName 102 = .ok (.getfield 137, 3) := by decide +kernel
theorem dX10_isName_105 : decode cX10_isName 105 = .ok (.iconst 4, 1) := by decide +kernel
theorem dX10_isName_106 : decode cX10_isName 106 = .ok (.iadd, 1) := by decide +kernel
theorem dX10_isName_107 : decode cX10_isName 107 = .ok (.iaload, 1) := by decide +kernel
theorem dX10_isName_108 : decode cX10_isName 108 = .ok (.iload 5, 2) := by decide +kernel
theorem dX10_isName_110 : decode cX10_isName 110 = .ok (.if_icmp .ne 7, 3) := by decide +kernel
theorem dX10_isName_113 : decode cX10_isName 113 = .ok (.iconst 1, 1) := by decide +kernel
theorem dX10_isName_114 : decode cX10_isName 114 = .ok (.goto 4, 3) := by decide +kernel
theorem dX10_isName_117 : decode cX10_isName 117 = .ok (.iconst 0, 1) := by decide +kernel
theorem dX10_isName_118 : decode cX10_isName 118 = .ok (.ireturn, 1) := by decide +kernel
theorem dX10_readsNodes_0 : decode cX10_readsNodes 0 = .ok (.aload_n 0, 1) := by decide +kernel
theorem dX10_readsNodes_1 : decode cX10_readsNodes 1 = .ok (.iconst 2, 1) := by decide +kernel
theorem dX10_readsNodes_2 : decode cX10_readsNodes 2 = .ok (.bipush 8, 2) := by decide +kernel
theorem dX10_readsNodes_4 : decode cX10_readsNodes 4 = .ok (.invokevirtual 165, 3) := by decide +kernel
theorem dX10_readsNodes_7 : decode cX10_readsNodes 7 = .ok (.istore_n 1, 1) := by decide +kernel
theorem dX10_readsNodes_8 : decode cX10_readsNodes 8 = .ok (.aload_n 0, 1) := by decide +kernel
theorem dX10_readsNodes_9 : decode cX10_readsNodes 9 = .ok (.getfield 150, 3) := by decide +kernel
theorem dX10_readsNodes_12 : decode cX10_readsNodes 12 = .ok (.ifCond .eq 4, 3) := by decide +kernel
theorem dX10_readsNodes_15 : decode cX10_readsNodes 15 = .ok (.return_, 1) := by decide +kernel
theorem dX10_readsNodes_16 : decode cX10_readsNodes 16 = .ok (.aload_n 0, 1) := by decide +kernel
theorem dX10_readsNodes_17 : decode cX10_readsNodes 17 = .ok (.iload_n 1, 1) := by decide +kernel
theorem dX10_readsNodes_18 : decode cX10_readsNodes 18 = .ok (.putfield 168, 3) := by decide +kernel
theorem dX10_readsNodes_21 : decode cX10_readsNodes 21 = .ok (.aload_n 0, 1) := by decide +kernel
theorem dX10_readsNodes_22 : decode cX10_readsNodes 22 = .ok (.iconst 0, 1) := by decide +kernel
theorem dX10_readsNodes_23 : decode cX10_readsNodes 23 = .ok (.putfield 162, 3) := by decide +kernel
theorem dX10_readsNodes_26 : decode cX10_readsNodes 26 = .ok (.aload_n 0, 1) := by decide +kernel
theorem dX10_readsNodes_27 : decode cX10_readsNodes 27 = .ok (.getfield 171, 3) := by decide +kernel
theorem dX10_readsNodes_30 : decode cX10_readsNodes 30 = .ok (.ifCond .eq 60, 3) := by decide +kernel
theorem dX10_readsNodes_33 : decode cX10_readsNodes 33 = .ok (.aload_n 0, 1) := by decide +kernel
theorem dX10_readsNodes_34 : decode cX10_readsNodes 34 = .ok (.iload_n 1, 1) := by decide +kernel
theorem dX10_readsNodes_35 : decode cX10_readsNodes 35 = .ok (.putfield 7, 3) := by decide +kernel
theorem dX10_readsNodes_38 : decode cX10_readsNodes 38 = .ok (.aload_n 0, 1) := by decide +kernel
theorem dX10_readsNodes_39 : decode cX10_readsNodes 39 = .ok (.iconst 0, 1) := by decide +kernel
theorem dX10_readsNodes_40 : decode cX10_readsNodes 40 = .ok (.putfield 90, 3) := by decide +kernel
theorem dX10_readsNodes_43 : decode cX10_readsNodes 43 = .ok (.aload_n 0, 1) := by decide +kernel
theorem dX10_readsNodes_44 : decode cX10_readsNodes 44 = .ok (.iconst 0, 1) := by decide +kernel
theorem dX10_readsNodes_45 : decode cX10_readsNodes 45 = .ok (.putfield 174, 3) := by decide +kernel
theorem dX10_readsNodes_48 : decode cX10_readsNodes 48 = .ok (.aload_n 0, 1) := by decide +kernel
theorem dX10_readsNodes_49 : decode cX10_readsNodes 49 = .ok (.iconst 0, 1) := by decide +kernel
theorem dX10_readsNodes_50 : decode cX10_readsNodes 50 = .ok (.putfield 177, 3) := by decide +kernel
theorem dX10_readsNodes_53 : decode cX10_readsNodes 53 = .ok (.aload_n 0, 1) := by decide +kernel
theorem dX10_readsNodes_54 : decode cX10_readsNodes 54 = .ok (.iconst 0, 1) := by decide +kernel
theorem dX10_readsNodes_55 : decode cX10_readsNodes 55 = .ok (.putfield 180, 3) := by decide +kernel
theorem dX10_readsNodes_58 : decode cX10_readsNodes 58 = .ok (.aload_n 0, 1) := by decide +kernel
theorem dX10_readsNodes_59 : decode cX10_readsNodes 59 = .ok (.getfield 23, 3) := by decide +kernel
theorem dX10_readsNodes_62 : decode cX10_readsNodes 62 = .ok (.bipush 28, 2) := by decide +kernel
theorem dX10_readsNodes_64 : decode cX10_readsNodes 64 = .ok (.iconst 0, 1) := by decide +kernel
theorem dX10_readsNodes_65 : decode cX10_readsNodes 65 = .ok (.iastore, 1) := by decide +kernel
theorem dX10_readsNodes_66 : decode cX10_readsNodes 66 = .ok (.iconst 0, 1) := by decide +kernel
theorem dX10_readsNodes_67 : decode cX10_readsNodes 67 = .ok (.istore_n 2, 1) := by decide +kernel
theorem dX10_readsNodes_68 : decode cX10_readsNodes 68 = .ok (.iload_n 2, 1) := by decide +kernel
theorem dX10_readsNodes_69 : decode cX10_readsNodes 69 = .ok (.bipush 8, 2) := by decide +kernel
theorem dX10_readsNodes_71 : decode cX10_readsNodes 71 = .ok (.if_icmp .ge 19, 3) := by decide +kernel
theorem dX10_readsNodes_74 : decode cX10_readsNodes 74 = .ok (.aload_n 0, 1) := by decide +kernel
theorem dX10_readsNodes_75 : decode cX10_readsNodes 75 = .ok (.getfield 23, 3) := by decide +kernel
theorem dX10_readsNodes_78 : decode cX10_readsNodes 78 = .ok (.bipush 29, 2) := by decide +kernel
theorem dX10_readsNodes_80 : decode cX10_readsNodes 80 = .ok (.iload_n 2, 1) := by decide +kernel
theorem dX10_readsNodes_81 : decode cX10_readsNodes 81 = .ok (.iadd, 1) := by decide +kernel
theorem dX10_readsNodes_82 : decode cX10_readsNodes 82 = .ok (.iconst 0, 1) := by decide +kernel
theorem dX10_readsNodes_83 : decode cX10_readsNodes 83 = .ok (.iastore, 1) := by decide +kernel
theorem dX10_readsNodes_84 : decode cX10_readsNodes 84 = .ok (.iinc 2 1, 3) := by decide +kernel
theorem dX10_readsNodes_87 : decode cX10_readsNodes 87 = .ok (.goto (-19), 3) := by decide +kernel
theorem dX10_readsNodes_90 : decode cX10_readsNodes 90 = .ok (.return_, 1) := by decide +kernel
theorem dX10_readsLink_0 : decode cX10_readsLink 0 = .ok (.aload_n 0, 1) := by decide +kernel
theorem dX10_readsLink_1 : decode cX10_readsLink 1 = .ok (.iconst 0, 1) := by decide +kernel
theorem dX10_readsLink_2 : decode cX10_readsLink 2 = .ok (.aload_n 0, 1) := by decide +kernel
theorem dX10_readsLink_3 : decode cX10_readsLink 3 = .ok (.getfield 168, 3) := by decide +kernel
theorem dX10_readsLink_6 : decode cX10_readsLink 6 = .ok (.iconst 1, 1) := by decide +kernel
theorem dX10_readsLink_7 : decode cX10_readsLink 7 = .ok (.isub, 1) := by decide +kernel
theorem dX10_readsLink_8 : decode cX10_readsLink 8 = .ok (.invokevirtual 165, 3) := by decide +kernel
theorem dX10_readsLink_11 : decode cX10_readsLink 11 = .ok (.istore_n 1, 1) := by decide +kernel
theorem dX10_readsLink_12 : decode cX10_readsLink 12 = .ok (.aload_n 0, 1) := by decide +kernel
theorem dX10_readsLink_13 : decode cX10_readsLink 13 = .ok (.getfield 150, 3) := by decide +kernel
theorem dX10_readsLink_16 : decode cX10_readsLink 16 = .ok (.ifCond .eq 7, 3) := by decide +kernel
theorem dX10_readsLink_19 : decode cX10_readsLink 19 = .ok (.iconst (-1), 1) := by decide +kernel
theorem dX10_readsLink_20 : decode cX10_readsLink 20 = .ok (.goto 10, 3) := by decide +kernel
theorem dX10_readsLink_23 : decode cX10_readsLink 23 = .ok (.aload_n 0, 1) := by decide +kernel
theorem dX10_readsLink_24 : decode cX10_readsLink 24 = .ok (.invokevirtual 154, 3) := by decide +kernel
theorem dX10_readsLink_27 : decode cX10_readsLink 27 = .ok (.bipush 48, 2) := by decide +kernel
theorem dX10_readsLink_29 : decode cX10_readsLink 29 = .ok (.isub, 1) := by decide +kernel
theorem dX10_readsLink_30 : decode cX10_readsLink 30 = .ok (.istore_n 2, 1) := by decide +kernel
theorem dX10_readsLink_31 : decode cX10_readsLink 31 = .ok (.aload_n 0, 1) := by decide +kernel
theorem dX10_readsLink_32 : decode cX10_readsLink 32 = .ok (.getfield 150, 3) := by decide +kernel
theorem dX10_readsLink_35 : decode cX10_readsLink 35 = .ok (.ifCond .ne 34, 3) := by decide +kernel
theorem dX10_readsLink_38 : decode cX10_readsLink 38 = .ok (.aload_n 0, 1) := by decide +kernel
theorem dX10_readsLink_39 : decode cX10_readsLink 39 = .ok (.getfield 140, 3) := by decide +kernel
theorem dX10_readsLink_42 : decode cX10_readsLink 42 = .ok (.iconst 1, 1) := by decide +kernel
theorem dX10_readsLink_43 : decode cX10_readsLink 43 = .ok (.if_icmp .ne 26, 3) := by decide +kernel
theorem dX10_readsLink_46 : decode cX10_readsLink 46 = .ok (.iload_n 2, 1) := by decide +kernel
theorem dX10_readsLink_47 : decode cX10_readsLink 47 = .ok (.iconst 0, 1) := by decide +kernel
theorem dX10_readsLink_48 : decode cX10_readsLink 48 = .ok (.aload_n 0, 1) := by decide +kernel
theorem dX10_readsLink_49 : decode cX10_readsLink 49 = .ok (.getfield 168, 3) := by decide +kernel
theorem dX10_readsLink_52 : decode cX10_readsLink 52 = .ok (.iconst 1, 1) := by decide +kernel
theorem dX10_readsLink_53 : decode cX10_readsLink 53 = .ok (.isub, 1) := by decide +kernel
theorem dX10_readsLink_54 : decode cX10_readsLink 54 = .ok (.invokestatic 86, 3) := by decide +kernel
theorem dX10_readsLink_57 : decode cX10_readsLink 57 = .ok (.ifCond .eq 12, 3) := by decide +kernel
theorem dX10_readsLink_60 : decode cX10_readsLink 60 = .ok (.iload_n 2, 1) := by decide +kernel
theorem dX10_readsLink_61 : decode cX10_readsLink 61 = .ok (.iload_n 1, 1) := by decide +kernel
theorem dX10_readsLink_62 : decode cX10_readsLink 62 = .ok (.if_icmp .eq 7, 3) := by decide +kernel
theorem dX10_readsLink_65 : decode cX10_readsLink 65 = .ok (.iconst 1, 1) := by decide +kernel
theorem dX10_readsLink_66 : decode cX10_readsLink 66 = .ok (.goto 4, 3) := by decide +kernel
theorem dX10_readsLink_69 : decode cX10_readsLink 69 = .ok (.iconst 0, 1) := by decide +kernel
theorem dX10_readsLink_70 : decode cX10_readsLink 70 = .ok (.istore_n 3, 1) := by decide +kernel
theorem dX10_readsLink_71 : decode cX10_readsLink 71 = .ok (.aload_n 0, 1) := by decide +kernel
theorem dX10_readsLink_72 : decode cX10_readsLink 72 = .ok (.iload_n 3, 1) := by decide +kernel
theorem dX10_readsLink_73 : decode cX10_readsLink 73 = .ok (.ifCond .eq 26, 3) := by decide +kernel
theorem dX10_readsLink_76 : decode cX10_readsLink 76 = .ok (.aload_n 0, 1) := by decide +kernel
theorem dX10_readsLink_77 : decode cX10_readsLink 77 = .ok (.iload_n 1, 1) := by decide +kernel
theorem dX10_readsLink_78 : decode cX10_readsLink 78 = .ok (.iload_n 2, 1) := by decide +kernel
theorem dX10_readsLink_79 : decode cX10_readsLink 79 = .ok (.invokevirtual 183, 3) := by decide +kernel
theorem dX10_readsLink_82 : decode cX10_readsLink 82 = .ok (.iconst (-1), 1) := by decide +kernel
theorem dX10_readsLink_83 : decode cX10_readsLink 83 = .ok (.if_icmp .ne 12, 3) := by decide +kernel
theorem dX10_readsLink_86 : decode cX10_readsLink 86 = .ok (.aload_n 0, 1) := by decide +kernel
theorem dX10_readsLink_87 : decode cX10_readsLink 87 = .ok (.getfield 162, 3) := by decide +kernel
theorem dX10_readsLink_90 : decode cX10_readsLink 90 = .ok (.bipush 14, 2) := by decide +kernel
theorem dX10_readsLink_92 : decode cX10_readsLink 92 = .ok (.if_icmp .ge 7, 3) := by decide +kernel
theorem dX10_readsLink_95 : decode cX10_readsLink 95 = .ok (.iconst 1, 1) := by decide +kernel
theorem dX10_readsLink_96 : decode cX10_readsLink 96 = .ok (.goto 4, 3) := by decide +kernel
theorem dX10_readsLink_99 : decode cX10_readsLink 99 = .ok (.iconst 0, 1) := by decide +kernel
theorem dX10_readsLink_100 : decode cX10_readsLink 100 = .ok (.invokevirtual 158, 3) := by decide +kernel
theorem dX10_readsLink_103 : decode cX10_readsLink 103 = .ok (.aload_n 0, 1) := by decide +kernel
theorem dX10_readsLink_104 : decode cX10_readsLink 104 = .ok (.iconst 1, 1) := by decide +kernel
theorem dX10_readsLink_105 : decode cX10_readsLink 105 = .ok (.bipush 9, 2) := by decide +kernel
theorem dX10_readsLink_107 : decode cX10_readsLink 107 = .ok (.invokevirtual 165, 3) := by decide +kernel
theorem dX10_readsLink_110 : decode cX10_readsLink 110 = .ok (.istore 4, 2) := by decide +kernel
theorem dX10_readsLink_112 : decode cX10_readsLink 112 = .ok (.aload_n 0, 1) := by decide +kernel
theorem dX10_readsLink_113 : decode cX10_readsLink 113 = .ok (.iconst 1, 1) := by decide +kernel
theorem dX10_readsLink_114 : decode cX10_readsLink 114 = .ok (.bipush 9, 2) := by decide +kernel
theorem dX10_readsLink_116 : decode cX10_readsLink 116 = .ok (.invokevirtual 165, 3) := by decide +kernel
theorem dX10_readsLink_119 : decode cX10_readsLink 119 = .ok (.istore 5, 2) := by decide +kernel
theorem dX10_readsLink_121 : decode cX10_readsLink 121 = .ok (.aload_n 0, 1) := by decide +kernel
theorem dX10_readsLink_122 : decode cX10_readsLink 122 = .ok (.getfield 150, 3) := by decide +kernel
theorem dX10_readsLink_125 : decode cX10_readsLink 125 = .ok (.ifCond .eq 4, 3) := by decide +kernel
theorem dX10_readsLink_128 : decode cX10_readsLink 128 = .ok (.return_, 1) := by decide +kernel
theorem dX10_readsLink_129 : decode cX10_readsLink 129 = .ok (.aload_n 0, 1) := by decide +kernel
theorem dX10_readsLink_130 : decode cX10_readsLink 130 = .ok (.iload_n 1, 1) := by decide +kernel
theorem dX10_readsLink_131 : decode cX10_readsLink 131 = .ok (.iload_n 2, 1) := by decide +kernel
theorem dX10_readsLink_132 : decode cX10_readsLink 132 = .ok (.invokevirtual 183, 3) := by decide +kernel
theorem dX10_readsLink_135 : decode cX10_readsLink 135 = .ok (.istore 6, 2) := by decide +kernel
theorem dX10_readsLink_137 : decode cX10_readsLink 137 = .ok (.iload 6, 2) := by decide +kernel
theorem dX10_readsLink_139 : decode cX10_readsLink 139 = .ok (.iconst (-1), 1) := by decide +kernel
theorem dX10_readsLink_140 : decode cX10_readsLink 140 = .ok (.if_icmp .ne 147, 3) := by decide +kernel
theorem dX10_readsLink_143 : decode cX10_readsLink 143 = .ok (.aload_n 0, 1) := by decide +kernel
theorem dX10_readsLink_144 : decode cX10_readsLink 144 = .ok (.getfield 162, 3) := by decide +kernel
theorem dX10_readsLink_147 : decode cX10_readsLink 147 = .ok (.istore 6, 2) := by decide +kernel
theorem dX10_readsLink_149 : decode cX10_readsLink 149 = .ok (.aload_n 0, 1) := by decide +kernel
theorem dX10_readsLink_150 : decode cX10_readsLink 150 = .ok (.getfield 59, 3) := by decide +kernel
theorem dX10_readsLink_153 : decode cX10_readsLink 153 = .ok (.iload 6, 2) := by decide +kernel
theorem dX10_readsLink_155 : decode cX10_readsLink 155 = .ok (.iload_n 1, 1) := by decide +kernel
theorem dX10_readsLink_156 : decode cX10_readsLink 156 = .ok (.iload_n 2, 1) := by decide +kernel
theorem dX10_readsLink_157 : decode cX10_readsLink 157 = .ok (.if_icmp .ge 7, 3) := by decide +kernel
theorem dX10_readsLink_160 : decode cX10_readsLink 160 = .ok (.iload_n 1, 1) := by decide +kernel
theorem dX10_readsLink_161 : decode cX10_readsLink 161 = .ok (.goto 4, 3) := by decide +kernel
theorem dX10_readsLink_164 : decode cX10_readsLink 164 = .ok (.iload_n 2, 1) := by decide +kernel
theorem dX10_readsLink_165 : decode cX10_readsLink 165 = .ok (.iastore, 1) := by decide +kernel
theorem dX10_readsLink_166 : decode cX10_readsLink 166 = .ok (.aload_n 0, 1) := by decide +kernel
theorem dX10_readsLink_167 : decode cX10_readsLink 167 = .ok (.getfield 62, 3) := by decide +kernel
theorem dX10_readsLink_170 : decode cX10_readsLink 170 = .ok (.iload 6, 2) := by decide +kernel
theorem dX10_readsLink_172 : decode cX10_readsLink 172 = .ok (.iload_n 1, 1) := by decide +kernel
theorem dX10_readsLink_173 : decode cX10_readsLink 173 = .ok (.iload_n 2, 1) := by decide +kernel
theorem dX10_readsLink_174 : decode cX10_readsLink 174 = .ok (.if_icmp .ge 7, 3) := by decide +kernel
theorem dX10_readsLink_177 : decode cX10_readsLink 177 = .ok (.iload_n 2, 1) := by decide +kernel
theorem dX10_readsLink_178 : decode cX10_readsLink 178 = .ok (.goto 4, 3) := by decide +kernel
theorem dX10_readsLink_181 : decode cX10_readsLink 181 = .ok (.iload_n 1, 1) := by decide +kernel
theorem dX10_readsLink_182 : decode cX10_readsLink 182 = .ok (.iastore, 1) := by decide +kernel
theorem dX10_readsLink_183 : decode cX10_readsLink 183 = .ok (.aload_n 0, 1) := by decide +kernel
theorem dX10_readsLink_184 : decode cX10_readsLink 184 = .ok (.dup, 1) := by decide +kernel
theorem dX10_readsLink_185 : decode cX10_readsLink 185 = .ok (.getfield 162, 3) := by decide +kernel
theorem dX10_readsLink_188 : decode cX10_readsLink 188 = .ok (.iconst 1, 1) := by decide +kernel
theorem dX10_readsLink_189 : decode cX10_readsLink 189 = .ok (.iadd, 1) := by decide +kernel
theorem dX10_readsLink_190 : decode cX10_readsLink 190 = .ok (.putfield 162, 3) := by decide +kernel
theorem dX10_readsLink_193 : decode cX10_readsLink 193 = .ok (.aload_n 0, 1) := by decide +kernel
theorem dX10_readsLink_194 : decode cX10_readsLink 194 = .ok (.getfield 171, 3) := by decide +kernel
theorem dX10_readsLink_197 : decode cX10_readsLink 197 = .ok (.ifCond .eq 90, 3) := by decide +kernel
theorem dX10_readsLink_200 : decode cX10_readsLink 200 = .ok (.aload_n 0, 1) := by decide +kernel
theorem dX10_readsLink_201 : decode cX10_readsLink 201 = .ok (.getfield 13, 3) := by decide +kernel
theorem dX10_readsLink_204 : decode cX10_readsLink 204 = .ok (.iload 6, 2) := by decide +kernel
theorem dX10_readsLink_206 : decode cX10_readsLink 206 = .ok (.aload_n 0, 1) := by decide +kernel
theorem dX10_readsLink_207 : decode cX10_readsLink 207 = .ok (.getfield 59, 3) := by decide +kernel
theorem dX10_readsLink_210 : decode cX10_readsLink 210 = .ok (.iload 6, 2) := by decide +kernel
theorem dX10_readsLink_212 : decode cX10_readsLink 212 = .ok (.iaload, 1) := by decide +kernel
theorem dX10_readsLink_213 : decode cX10_readsLink 213 = .ok (.iastore, 1) := by decide +kernel
theorem dX10_readsLink_214 : decode cX10_readsLink 214 = .ok (.aload_n 0, 1) := by decide +kernel
theorem dX10_readsLink_215 : decode cX10_readsLink 215 = .ok (.getfield 17, 3) := by decide +kernel
theorem dX10_readsLink_218 : decode cX10_readsLink 218 = .ok (.iload 6, 2) := by decide +kernel
theorem dX10_readsLink_220 : decode cX10_readsLink 220 = .ok (.aload_n 0, 1) := by decide +kernel
theorem dX10_readsLink_221 : decode cX10_readsLink 221 = .ok (.getfield 62, 3) := by decide +kernel
theorem dX10_readsLink_224 : decode cX10_readsLink 224 = .ok (.iload 6, 2) := by decide +kernel
theorem dX10_readsLink_226 : decode cX10_readsLink 226 = .ok (.iaload, 1) := by decide +kernel
theorem dX10_readsLink_227 : decode cX10_readsLink 227 = .ok (.iastore, 1) := by decide +kernel
theorem dX10_readsLink_228 : decode cX10_readsLink 228 = .ok (.aload_n 0, 1) := by decide +kernel
theorem dX10_readsLink_229 : decode cX10_readsLink 229 = .ok (.dup, 1) := by decide +kernel
theorem dX10_readsLink_230 : decode cX10_readsLink 230 = .ok (.getfield 90, 3) := by decide +kernel
theorem dX10_readsLink_233 : decode cX10_readsLink 233 = .ok (.iconst 1, 1) := by decide +kernel
theorem dX10_readsLink_234 : decode cX10_readsLink 234 = .ok (.iadd, 1) := by decide +kernel
theorem dX10_readsLink_235 : decode cX10_readsLink 235 = .ok (.putfield 90, 3) := by decide +kernel
theorem dX10_readsLink_238 : decode cX10_readsLink 238 = .ok (.aload_n 0, 1) := by decide +kernel
theorem dX10_readsLink_239 : decode cX10_readsLink 239 = .ok (.getfield 23, 3) := by decide +kernel
theorem dX10_readsLink_242 : decode cX10_readsLink 242 = .ok (.bipush 28, 2) := by decide +kernel
theorem dX10_readsLink_244 : decode cX10_readsLink 244 = .ok (.dup2, 1) := by decide +kernel
theorem dX10_readsLink_245 : decode cX10_readsLink 245 = .ok (.iaload, 1) := by decide +kernel
theorem dX10_readsLink_246 : decode cX10_readsLink 246 = .ok (.iconst 1, 1) := by decide +kernel
theorem dX10_readsLink_247 : decode cX10_readsLink 247 = .ok (.iload 6, 2) := by decide +kernel
theorem dX10_readsLink_249 : decode cX10_readsLink 249 = .ok (.ishl, 1) := by decide +kernel
theorem dX10_readsLink_250 : decode cX10_readsLink 250 = .ok (.ior, 1) := by decide +kernel
theorem dX10_readsLink_251 : decode cX10_readsLink 251 = .ok (.iastore, 1) := by decide +kernel
theorem dX10_readsLink_252 : decode cX10_readsLink 252 = .ok (.iconst 0, 1) := by decide +kernel
theorem dX10_readsLink_253 : decode cX10_readsLink 253 = .ok (.istore 7, 2) := by decide +kernel
theorem dX10_readsLink_255 : decode cX10_readsLink 255 = .ok (.iload 7, 2) := by decide +kernel
theorem dX10_readsLink_257 : decode cX10_readsLink 257 = .ok (.aload_n 0, 1) := by decide +kernel
theorem dX10_readsLink_258 : decode cX10_readsLink 258 = .ok (.getfield 7, 3) := by decide +kernel
theorem dX10_readsLink_261 : decode cX10_readsLink 261 = .ok (.if_icmp .ge 26, 3) := by decide +kernel
theorem dX10_readsLink_264 : decode cX10_readsLink 264 = .ok (.aload_n 0, 1) := by decide +kernel
theorem dX10_readsLink_265 : decode cX10_readsLink 265 = .ok (.getfield 23, 3) := by decide +kernel
theorem dX10_readsLink_268 : decode cX10_readsLink 268 = .ok (.bipush 29, 2) := by decide +kernel
theorem dX10_readsLink_270 : decode cX10_readsLink 270 = .ok (.iload 7, 2) := by decide +kernel
theorem dX10_readsLink_272 : decode cX10_readsLink 272 = .ok (.iadd, 1) := by decide +kernel
theorem dX10_readsLink_273 : decode cX10_readsLink 273 = .ok (.dup2, 1) := by decide +kernel
theorem dX10_readsLink_274 : decode cX10_readsLink 274 = .ok (.iaload, 1) := by decide +kernel
theorem dX10_readsLink_275 : decode cX10_readsLink 275 = .ok (.iconst 1, 1) := by decide +kernel
theorem dX10_readsLink_276 : decode cX10_readsLink 276 = .ok (.iload 6, 2) := by decide +kernel
theorem dX10_readsLink_278 : decode cX10_readsLink 278 = .ok (.ishl, 1) := by decide +kernel
theorem dX10_readsLink_279 : decode cX10_readsLink 279 = .ok (.ior, 1) := by decide +kernel
theorem dX10_readsLink_280 : decode cX10_readsLink 280 = .ok (.iastore, 1) := by decide +kernel
theorem dX10_readsLink_281 : decode cX10_readsLink 281 = .ok (.iinc 7 1, 3) := by decide +kernel
theorem dX10_readsLink_284 : decode cX10_readsLink 284 = .ok (.goto (-29), 3) := by decide +kernel
theorem dX10_readsLink_287 : decode cX10_readsLink 287 = .ok (.aload_n 0, 1) := by decide +kernel
theorem dX10_readsLink_288 : decode cX10_readsLink 288 = .ok (.getfield 171, 3) := by decide +kernel
theorem dX10_readsLink_291 : decode cX10_readsLink 291 = .ok (.ifCond .eq 26, 3) := by decide +kernel
theorem dX10_readsLink_294 : decode cX10_readsLink 294 = .ok (.aload_n 0, 1) := by decide +kernel
theorem dX10_readsLink_295 : decode cX10_readsLink 295 = .ok (.getfield 23, 3) := by decide +kernel
theorem dX10_readsLink_298 : decode cX10_readsLink 298 = .ok (.iconst 0, 1) := by decide +kernel
theorem dX10_readsLink_299 : decode cX10_readsLink 299 = .ok (.iload 6, 2) := by decide +kernel
theorem dX10_readsLink_301 : decode cX10_readsLink 301 = .ok (.iadd, 1) := by decide +kernel
theorem dX10_readsLink_302 : decode cX10_readsLink 302 = .ok (.iload 4, 2) := by decide +kernel
theorem dX10_readsLink_304 : decode cX10_readsLink 304 = .ok (.iastore, 1) := by decide +kernel
theorem dX10_readsLink_305 : decode cX10_readsLink 305 = .ok (.aload_n 0, 1) := by decide +kernel
theorem dX10_readsLink_306 : decode cX10_readsLink 306 = .ok (.getfield 23, 3) := by decide +kernel
theorem dX10_readsLink_309 : decode cX10_readsLink 309 = .ok (.bipush 14, 2) := by decide +kernel
theorem dX10_readsLink_311 : decode cX10_readsLink 311 = .ok (.iload 6, 2) := by decide +kernel
theorem dX10_readsLink_313 : decode cX10_readsLink 313 = .ok (.iadd, 1) := by decide +kernel
theorem dX10_readsLink_314 : decode cX10_readsLink 314 = .ok (.iload 5, 2) := by decide +kernel
theorem dX10_readsLink_316 : decode cX10_readsLink 316 = .ok (.iastore, 1) := by decide +kernel
theorem dX10_readsLink_317 : decode cX10_readsLink 317 = .ok (.return_, 1) := by decide +kernel
theorem dX10_clause_0 : decode cX10_clause 0 = .ok (.aload_n 0, 1) := by decide +kernel
theorem dX10_clause_1 : decode cX10_clause 1 = .ok (.invokevirtual 154, 3) := by decide +kernel
theorem dX10_clause_4 : decode cX10_clause 4 = .ok (.pop, 1) := by decide +kernel
theorem dX10_clause_5 : decode cX10_clause 5 = .ok (.aload_n 0, 1) := by decide +kernel
theorem dX10_clause_6 : decode cX10_clause 6 = .ok (.bipush 110, 2) := by decide +kernel
theorem dX10_clause_8 : decode cX10_clause 8 = .ok (.bipush 111, 2) := by decide +kernel
theorem dX10_clause_10 : decode cX10_clause 10 = .ok (.bipush 100, 2) := by decide +kernel
theorem dX10_clause_12 : decode cX10_clause 12 = .ok (.bipush 101, 2) := by decide +kernel
theorem dX10_clause_14 : decode cX10_clause 14 = .ok (.bipush 115, 2) := by decide +kernel
theorem dX10_clause_16 : decode cX10_clause 16 = .ok (.invokevirtual 186, 3) := by decide +kernel
theorem dX10_clause_19 : decode cX10_clause 19 = .ok (.istore_n 1, 1) := by decide +kernel
theorem dX10_clause_20 : decode cX10_clause 20 = .ok (.aload_n 0, 1) := by decide +kernel
theorem dX10_clause_21 : decode cX10_clause 21 = .ok (.bipush 108, 2) := by decide +kernel
theorem dX10_clause_23 : decode cX10_clause 23 = .ok (.bipush 105, 2) := by decide +kernel
theorem dX10_clause_25 : decode cX10_clause 25 = .ok (.bipush 110, 2) := by decide +kernel
theorem dX10_clause_27 : decode cX10_clause 27 = .ok (.bipush 107, 2) := by decide +kernel
theorem dX10_clause_29 : decode cX10_clause 29 = .ok (.iconst 0, 1) := by decide +kernel
theorem dX10_clause_30 : decode cX10_clause 30 = .ok (.invokevirtual 186, 3) := by decide +kernel
theorem dX10_clause_33 : decode cX10_clause 33 = .ok (.istore_n 2, 1) := by decide +kernel
theorem dX10_clause_34 : decode cX10_clause 34 = .ok (.aload_n 0, 1) := by decide +kernel
theorem dX10_clause_35 : decode cX10_clause 35 = .ok (.iload_n 1, 1) := by decide +kernel
theorem dX10_clause_36 : decode cX10_clause 36 = .ok (.ifCond .ne 7, 3) := by decide +kernel
theorem dX10_clause_39 : decode cX10_clause 39 = .ok (.iload_n 2, 1) := by decide +kernel
theorem dX10_clause_40 : decode cX10_clause 40 = .ok (.ifCond .eq 7, 3) := by decide +kernel
theorem dX10_clause_43 : decode cX10_clause 43 = .ok (.iconst 1, 1) := by decide +kernel
theorem dX10_clause_44 : decode cX10_clause 44 = .ok (.goto 4, 3) := by decide +kernel
theorem dX10_clause_47 : decode cX10_clause 47 = .ok (.iconst 0, 1) := by decide +kernel
theorem dX10_clause_48 : decode cX10_clause 48 = .ok (.invokevirtual 158, 3) := by decide +kernel
theorem dX10_clause_51 : decode cX10_clause 51 = .ok (.iload_n 1, 1) := by decide +kernel
theorem dX10_clause_52 : decode cX10_clause 52 = .ok (.ifCond .eq 17, 3) := by decide +kernel
theorem dX10_clause_55 : decode cX10_clause 55 = .ok (.aload_n 0, 1) := by decide +kernel
theorem dX10_clause_56 : decode cX10_clause 56 = .ok (.getfield 150, 3) := by decide +kernel
theorem dX10_clause_59 : decode cX10_clause 59 = .ok (.ifCond .ne 10, 3) := by decide +kernel
theorem dX10_clause_62 : decode cX10_clause 62 = .ok (.aload_n 0, 1) := by decide +kernel
theorem dX10_clause_63 : decode cX10_clause 63 = .ok (.invokevirtual 190, 3) := by decide +kernel
theorem dX10_clause_66 : decode cX10_clause 66 = .ok (.goto 18, 3) := by decide +kernel
theorem dX10_clause_69 : decode cX10_clause 69 = .ok (.iload_n 2, 1) := by decide +kernel
theorem dX10_clause_70 : decode cX10_clause 70 = .ok (.ifCond .eq 14, 3) := by decide +kernel
theorem dX10_clause_73 : decode cX10_clause 73 = .ok (.aload_n 0, 1) := by decide +kernel
theorem dX10_clause_74 : decode cX10_clause 74 = .ok (.getfield 150, 3) := by decide +kernel
theorem dX10_clause_77 : decode cX10_clause 77 = .ok (.ifCond .ne 7, 3) := by decide +kernel
theorem dX10_clause_80 : decode cX10_clause 80 = .ok (.aload_n 0, 1) := by decide +kernel
theorem dX10_clause_81 : decode cX10_clause 81 = .ok (.invokevirtual 193, 3) := by decide +kernel
theorem dX10_clause_84 : decode cX10_clause 84 = .ok (.return_, 1) := by decide +kernel
theorem dX10_reads_0 : decode cX10_reads 0 = .ok (.aload_n 0, 1) := by decide +kernel
theorem dX10_reads_1 : decode cX10_reads 1 = .ok (.iconst 0, 1) := by decide +kernel
theorem dX10_reads_2 : decode cX10_reads 2 = .ok (.putfield 137, 3) := by decide +kernel
theorem dX10_reads_5 : decode cX10_reads 5 = .ok (.aload_n 0, 1) := by decide +kernel
theorem dX10_reads_6 : decode cX10_reads 6 = .ok (.iconst 0, 1) := by decide +kernel
theorem dX10_reads_7 : decode cX10_reads 7 = .ok (.putfield 150, 3) := by decide +kernel
theorem dX10_reads_10 : decode cX10_reads 10 = .ok (.aload_n 0, 1) := by decide +kernel
theorem dX10_reads_11 : decode cX10_reads 11 = .ok (.iload_n 1, 1) := by decide +kernel
theorem dX10_reads_12 : decode cX10_reads 12 = .ok (.putfield 171, 3) := by decide +kernel
theorem dX10_reads_15 : decode cX10_reads 15 = .ok (.aload_n 0, 1) := by decide +kernel
theorem dX10_reads_16 : decode cX10_reads 16 = .ok (.aload_n 0, 1) := by decide +kernel
theorem dX10_reads_17 : decode cX10_reads 17 = .ok (.getfield 7, 3) := by decide +kernel
theorem dX10_reads_20 : decode cX10_reads 20 = .ok (.putfield 168, 3) := by decide +kernel
theorem dX10_reads_23 : decode cX10_reads 23 = .ok (.aload_n 0, 1) := by decide +kernel
theorem dX10_reads_24 : decode cX10_reads 24 = .ok (.aload_n 0, 1) := by decide +kernel
theorem dX10_reads_25 : decode cX10_reads 25 = .ok (.getfield 90, 3) := by decide +kernel
theorem dX10_reads_28 : decode cX10_reads 28 = .ok (.putfield 162, 3) := by decide +kernel
theorem dX10_reads_31 : decode cX10_reads 31 = .ok (.iconst 0, 1) := by decide +kernel
theorem dX10_reads_32 : decode cX10_reads 32 = .ok (.istore_n 2, 1) := by decide +kernel
theorem dX10_reads_33 : decode cX10_reads 33 = .ok (.iload_n 2, 1) := by decide +kernel
theorem dX10_reads_34 : decode cX10_reads 34 = .ok (.aload_n 0, 1) := by decide +kernel
theorem dX10_reads_35 : decode cX10_reads 35 = .ok (.getfield 90, 3) := by decide +kernel
theorem dX10_reads_38 : decode cX10_reads 38 = .ok (.if_icmp .ge 33, 3) := by decide +kernel
theorem dX10_reads_41 : decode cX10_reads 41 = .ok (.aload_n 0, 1) := by decide +kernel
theorem dX10_reads_42 : decode cX10_reads 42 = .ok (.getfield 59, 3) := by decide +kernel
theorem dX10_reads_45 : decode cX10_reads 45 = .ok (.iload_n 2, 1) := by decide +kernel
theorem dX10_reads_46 : decode cX10_reads 46 = .ok (.aload_n 0, 1) := by decide +kernel
theorem dX10_reads_47 : decode cX10_reads 47 = .ok (.getfield 13, 3) := by decide +kernel
theorem dX10_reads_50 : decode cX10_reads 50 = .ok (.iload_n 2, 1) := by decide +kernel
theorem dX10_reads_51 : decode cX10_reads 51 = .ok (.iaload, 1) := by decide +kernel
theorem dX10_reads_52 : decode cX10_reads 52 = .ok (.iastore, 1) := by decide +kernel
theorem dX10_reads_53 : decode cX10_reads 53 = .ok (.aload_n 0, 1) := by decide +kernel
theorem dX10_reads_54 : decode cX10_reads 54 = .ok (.getfield 62, 3) := by decide +kernel
theorem dX10_reads_57 : decode cX10_reads 57 = .ok (.iload_n 2, 1) := by decide +kernel
theorem dX10_reads_58 : decode cX10_reads 58 = .ok (.aload_n 0, 1) := by decide +kernel
theorem dX10_reads_59 : decode cX10_reads 59 = .ok (.getfield 17, 3) := by decide +kernel
theorem dX10_reads_62 : decode cX10_reads 62 = .ok (.iload_n 2, 1) := by decide +kernel
theorem dX10_reads_63 : decode cX10_reads 63 = .ok (.iaload, 1) := by decide +kernel
theorem dX10_reads_64 : decode cX10_reads 64 = .ok (.iastore, 1) := by decide +kernel
theorem dX10_reads_65 : decode cX10_reads 65 = .ok (.iinc 2 1, 3) := by decide +kernel
theorem dX10_reads_68 : decode cX10_reads 68 = .ok (.goto (-35), 3) := by decide +kernel
theorem dX10_reads_71 : decode cX10_reads 71 = .ok (.iconst 0, 1) := by decide +kernel
theorem dX10_reads_72 : decode cX10_reads 72 = .ok (.istore_n 2, 1) := by decide +kernel
theorem dX10_reads_73 : decode cX10_reads 73 = .ok (.iconst 1, 1) := by decide +kernel
theorem dX10_reads_74 : decode cX10_reads 74 = .ok (.istore_n 3, 1) := by decide +kernel
theorem dX10_reads_75 : decode cX10_reads 75 = .ok (.iload_n 3, 1) := by decide +kernel
theorem dX10_reads_76 : decode cX10_reads 76 = .ok (.ifCond .eq 66, 3) := by decide +kernel
theorem dX10_reads_79 : decode cX10_reads 79 = .ok (.aload_n 0, 1) := by decide +kernel
theorem dX10_reads_80 : decode cX10_reads 80 = .ok (.getfield 150, 3) := by decide +kernel
theorem dX10_reads_83 : decode cX10_reads 83 = .ok (.ifCond .ne 59, 3) := by decide +kernel
theorem dX10_reads_86 : decode cX10_reads 86 = .ok (.aload_n 0, 1) := by decide +kernel
theorem dX10_reads_87 : decode cX10_reads 87 = .ok (.invokevirtual 196, 3) := by decide +kernel
theorem dX10_reads_90 : decode cX10_reads 90 = .ok (.iinc 2 1, 3) := by decide +kernel
theorem dX10_reads_93 : decode cX10_reads 93 = .ok (.aload_n 0, 1) := by decide +kernel
theorem dX10_reads_94 : decode cX10_reads 94 = .ok (.getfield 150, 3) := by decide +kernel
theorem dX10_reads_97 : decode cX10_reads 97 = .ok (.ifCond .eq 7, 3) := by decide +kernel
theorem dX10_reads_100 : decode cX10_reads 100 = .ok (.iconst (-1), 1) := by decide +kernel
theorem dX10_reads_101 : decode cX10_reads 101 = .ok (.goto 7, 3) := by decide +kernel
theorem dX10_reads_104 : decode cX10_reads 104 = .ok (.aload_n 0, 1) := by decide +kernel
theorem dX10_reads_105 : decode cX10_reads 105 = .ok (.invokevirtual 154, 3) := by decide +kernel
theorem dX10_reads_108 : decode cX10_reads 108 = .ok (.istore 4, 2) := by decide +kernel
theorem dX10_reads_110 : decode cX10_reads 110 = .ok (.iload 4, 2) := by decide +kernel
theorem dX10_reads_112 : decode cX10_reads 112 = .ok (.bipush 59, 2) := by decide +kernel
theorem dX10_reads_114 : decode cX10_reads 114 = .ok (.if_icmp .ne 13, 3) := by decide +kernel
theorem dX10_reads_117 : decode cX10_reads 117 = .ok (.iload_n 2, 1) := by decide +kernel
theorem dX10_reads_118 : decode cX10_reads 118 = .ok (.bipush 24, 2) := by decide +kernel
theorem dX10_reads_120 : decode cX10_reads 120 = .ok (.if_icmp .ge 7, 3) := by decide +kernel
theorem dX10_reads_123 : decode cX10_reads 123 = .ok (.iconst 1, 1) := by decide +kernel
theorem dX10_reads_124 : decode cX10_reads 124 = .ok (.goto 4, 3) := by decide +kernel
theorem dX10_reads_127 : decode cX10_reads 127 = .ok (.iconst 0, 1) := by decide +kernel
theorem dX10_reads_128 : decode cX10_reads 128 = .ok (.istore_n 3, 1) := by decide +kernel
theorem dX10_reads_129 : decode cX10_reads 129 = .ok (.iload 4, 2) := by decide +kernel
theorem dX10_reads_131 : decode cX10_reads 131 = .ok (.ifCond .lt 8, 3) := by decide +kernel
theorem dX10_reads_134 : decode cX10_reads 134 = .ok (.aload_n 0, 1) := by decide +kernel
theorem dX10_reads_135 : decode cX10_reads 135 = .ok (.iload_n 3, 1) := by decide +kernel
theorem dX10_reads_136 : decode cX10_reads 136 = .ok (.invokevirtual 158, 3) := by decide +kernel
theorem dX10_reads_139 : decode cX10_reads 139 = .ok (.goto (-64), 3) := by decide +kernel
theorem dX10_reads_142 : decode cX10_reads 142 = .ok (.iload_n 2, 1) := by decide +kernel
theorem dX10_reads_143 : decode cX10_reads 143 = .ok (.ireturn, 1) := by decide +kernel
theorem dX10_fault_0 : decode cX10_fault 0 = .ok (.aload_n 0, 1) := by decide +kernel
theorem dX10_fault_1 : decode cX10_fault 1 = .ok (.iconst 0, 1) := by decide +kernel
theorem dX10_fault_2 : decode cX10_fault 2 = .ok (.invokevirtual 199, 3) := by decide +kernel
theorem dX10_fault_5 : decode cX10_fault 5 = .ok (.pop, 1) := by decide +kernel
theorem dX10_fault_6 : decode cX10_fault 6 = .ok (.aload_n 0, 1) := by decide +kernel
theorem dX10_fault_7 : decode cX10_fault 7 = .ok (.getfield 150, 3) := by decide +kernel
theorem dX10_fault_10 : decode cX10_fault 10 = .ok (.ifCond .eq 10, 3) := by decide +kernel
theorem dX10_fault_13 : decode cX10_fault 13 = .ok (.aload_n 0, 1) := by decide +kernel
theorem dX10_fault_14 : decode cX10_fault 14 = .ok (.getfield 137, 3) := by decide +kernel
theorem dX10_fault_17 : decode cX10_fault 17 = .ok (.goto 4, 3) := by decide +kernel
theorem dX10_fault_20 : decode cX10_fault 20 = .ok (.iconst (-1), 1) := by decide +kernel
theorem dX10_fault_21 : decode cX10_fault 21 = .ok (.ireturn, 1) := by decide +kernel
theorem dX10_tell_0 : decode cX10_tell 0 = .ok (.aload_n 0, 1) := by decide +kernel
theorem dX10_tell_1 : decode cX10_tell 1 = .ok (.iconst 0, 1) := by decide +kernel
theorem dX10_tell_2 : decode cX10_tell 2 = .ok (.invokevirtual 199, 3) := by decide +kernel
theorem dX10_tell_5 : decode cX10_tell 5 = .ok (.pop, 1) := by decide +kernel
theorem dX10_tell_6 : decode cX10_tell 6 = .ok (.aload_n 0, 1) := by decide +kernel
theorem dX10_tell_7 : decode cX10_tell 7 = .ok (.getfield 150, 3) := by decide +kernel
theorem dX10_tell_10 : decode cX10_tell 10 = .ok (.ifCond .eq 6, 3) := by decide +kernel
theorem dX10_tell_13 : decode cX10_tell 13 = .ok (.bipush (-4), 2) := by decide +kernel
theorem dX10_tell_15 : decode cX10_tell 15 = .ok (.ireturn, 1) := by decide +kernel
theorem dX10_tell_16 : decode cX10_tell 16 = .ok (.aload_n 0, 1) := by decide +kernel
theorem dX10_tell_17 : decode cX10_tell 17 = .ok (.iconst 1, 1) := by decide +kernel
theorem dX10_tell_18 : decode cX10_tell 18 = .ok (.invokevirtual 199, 3) := by decide +kernel
theorem dX10_tell_21 : decode cX10_tell 21 = .ok (.istore_n 1, 1) := by decide +kernel
theorem dX10_tell_22 : decode cX10_tell 22 = .ok (.aload_n 0, 1) := by decide +kernel
theorem dX10_tell_23 : decode cX10_tell 23 = .ok (.iconst 0, 1) := by decide +kernel
theorem dX10_tell_24 : decode cX10_tell 24 = .ok (.putfield 134, 3) := by decide +kernel
theorem dX10_tell_27 : decode cX10_tell 27 = .ok (.aload_n 0, 1) := by decide +kernel
theorem dX10_tell_28 : decode cX10_tell 28 = .ok (.iconst 0, 1) := by decide +kernel
theorem dX10_tell_29 : decode cX10_tell 29 = .ok (.putfield 203, 3) := by decide +kernel
theorem dX10_tell_32 : decode cX10_tell 32 = .ok (.aload_n 0, 1) := by decide +kernel
theorem dX10_tell_33 : decode cX10_tell 33 = .ok (.iconst 0, 1) := by decide +kernel
theorem dX10_tell_34 : decode cX10_tell 34 = .ok (.putfield 206, 3) := by decide +kernel
theorem dX10_tell_37 : decode cX10_tell 37 = .ok (.aload_n 0, 1) := by decide +kernel
theorem dX10_tell_38 : decode cX10_tell 38 = .ok (.iconst 0, 1) := by decide +kernel
theorem dX10_tell_39 : decode cX10_tell 39 = .ok (.putfield 209, 3) := by decide +kernel
theorem dX10_tell_42 : decode cX10_tell 42 = .ok (.aload_n 0, 1) := by decide +kernel
theorem dX10_tell_43 : decode cX10_tell 43 = .ok (.iconst 0, 1) := by decide +kernel
theorem dX10_tell_44 : decode cX10_tell 44 = .ok (.putfield 212, 3) := by decide +kernel
theorem dX10_tell_47 : decode cX10_tell 47 = .ok (.aload_n 0, 1) := by decide +kernel
theorem dX10_tell_48 : decode cX10_tell 48 = .ok (.iconst 0, 1) := by decide +kernel
theorem dX10_tell_49 : decode cX10_tell 49 = .ok (.putfield 215, 3) := by decide +kernel
theorem dX10_tell_52 : decode cX10_tell 52 = .ok (.aload_n 0, 1) := by decide +kernel
theorem dX10_tell_53 : decode cX10_tell 53 = .ok (.iconst 0, 1) := by decide +kernel
theorem dX10_tell_54 : decode cX10_tell 54 = .ok (.putfield 218, 3) := by decide +kernel
theorem dX10_tell_57 : decode cX10_tell 57 = .ok (.aload_n 0, 1) := by decide +kernel
theorem dX10_tell_58 : decode cX10_tell 58 = .ok (.iconst (-1), 1) := by decide +kernel
theorem dX10_tell_59 : decode cX10_tell 59 = .ok (.putfield 74, 3) := by decide +kernel
theorem dX10_tell_62 : decode cX10_tell 62 = .ok (.iconst 0, 1) := by decide +kernel
theorem dX10_tell_63 : decode cX10_tell 63 = .ok (.istore_n 2, 1) := by decide +kernel
theorem dX10_tell_64 : decode cX10_tell 64 = .ok (.iload_n 2, 1) := by decide +kernel
theorem dX10_tell_65 : decode cX10_tell 65 = .ok (.bipush 14, 2) := by decide +kernel
theorem dX10_tell_67 : decode cX10_tell 67 = .ok (.if_icmp .ge 16, 3) := by decide +kernel
theorem dX10_tell_70 : decode cX10_tell 70 = .ok (.aload_n 0, 1) := by decide +kernel
theorem dX10_tell_71 : decode cX10_tell 71 = .ok (.getfield 20, 3) := by decide +kernel
theorem dX10_tell_74 : decode cX10_tell 74 = .ok (.iload_n 2, 1) := by decide +kernel
theorem dX10_tell_75 : decode cX10_tell 75 = .ok (.iconst 0, 1) := by decide +kernel
theorem dX10_tell_76 : decode cX10_tell 76 = .ok (.iastore, 1) := by decide +kernel
theorem dX10_tell_77 : decode cX10_tell 77 = .ok (.iinc 2 1, 3) := by decide +kernel
theorem dX10_tell_80 : decode cX10_tell 80 = .ok (.goto (-16), 3) := by decide +kernel
theorem dX10_tell_83 : decode cX10_tell 83 = .ok (.iload_n 1, 1) := by decide +kernel
theorem dX10_tell_84 : decode cX10_tell 84 = .ok (.ireturn, 1) := by decide +kernel
theorem dX10_link_0 : decode cX10_link 0 = .ok (.aload_n 0, 1) := by decide +kernel
theorem dX10_link_1 : decode cX10_link 1 = .ok (.iload_n 1, 1) := by decide +kernel
theorem dX10_link_2 : decode cX10_link 2 = .ok (.invokevirtual 221, 3) := by decide +kernel
theorem dX10_link_5 : decode cX10_link 5 = .ok (.ifCond .ne 6, 3) := by decide +kernel
theorem dX10_link_8 : decode cX10_link 8 = .ok (.bipush (-2), 2) := by decide +kernel
theorem dX10_link_10 : decode cX10_link 10 = .ok (.ireturn, 1) := by decide +kernel
theorem dX10_link_11 : decode cX10_link 11 = .ok (.iload_n 2, 1) := by decide +kernel
theorem dX10_link_12 : decode cX10_link 12 = .ok (.tableswitch 92 0 5 #[40, 47, 54, 63, 73, 85], 40) := by decide +kernel
theorem dX10_link_52 : decode cX10_link 52 = .ok (.aload_n 0, 1) := by decide +kernel
theorem dX10_link_53 : decode cX10_link 53 = .ok (.getfield 13, 3) := by decide +kernel
theorem dX10_link_56 : decode cX10_link 56 = .ok (.iload_n 1, 1) := by decide +kernel
theorem dX10_link_57 : decode cX10_link 57 = .ok (.iaload, 1) := by decide +kernel
theorem dX10_link_58 : decode cX10_link 58 = .ok (.ireturn, 1) := by decide +kernel
theorem dX10_link_59 : decode cX10_link 59 = .ok (.aload_n 0, 1) := by decide +kernel
theorem dX10_link_60 : decode cX10_link 60 = .ok (.getfield 17, 3) := by decide +kernel
theorem dX10_link_63 : decode cX10_link 63 = .ok (.iload_n 1, 1) := by decide +kernel
theorem dX10_link_64 : decode cX10_link 64 = .ok (.iaload, 1) := by decide +kernel
theorem dX10_link_65 : decode cX10_link 65 = .ok (.ireturn, 1) := by decide +kernel
theorem dX10_link_66 : decode cX10_link 66 = .ok (.aload_n 0, 1) := by decide +kernel
theorem dX10_link_67 : decode cX10_link 67 = .ok (.getfield 23, 3) := by decide +kernel
theorem dX10_link_70 : decode cX10_link 70 = .ok (.iconst 0, 1) := by decide +kernel
theorem dX10_link_71 : decode cX10_link 71 = .ok (.iload_n 1, 1) := by decide +kernel
theorem dX10_link_72 : decode cX10_link 72 = .ok (.iadd, 1) := by decide +kernel
theorem dX10_link_73 : decode cX10_link 73 = .ok (.iaload, 1) := by decide +kernel
theorem dX10_link_74 : decode cX10_link 74 = .ok (.ireturn, 1) := by decide +kernel
theorem dX10_link_75 : decode cX10_link 75 = .ok (.aload_n 0, 1) := by decide +kernel
theorem dX10_link_76 : decode cX10_link 76 = .ok (.getfield 23, 3) := by decide +kernel
theorem dX10_link_79 : decode cX10_link 79 = .ok (.bipush 14, 2) := by decide +kernel
theorem dX10_link_81 : decode cX10_link 81 = .ok (.iload_n 1, 1) := by decide +kernel
theorem dX10_link_82 : decode cX10_link 82 = .ok (.iadd, 1) := by decide +kernel
theorem dX10_link_83 : decode cX10_link 83 = .ok (.iaload, 1) := by decide +kernel
theorem dX10_link_84 : decode cX10_link 84 = .ok (.ireturn, 1) := by decide +kernel
theorem dX10_link_85 : decode cX10_link 85 = .ok (.aload_n 0, 1) := by decide +kernel
theorem dX10_link_86 : decode cX10_link 86 = .ok (.getfield 23, 3) := by decide +kernel
theorem dX10_link_89 : decode cX10_link 89 = .ok (.bipush 28, 2) := by decide +kernel
theorem dX10_link_91 : decode cX10_link 91 = .ok (.iaload, 1) := by decide +kernel
theorem dX10_link_92 : decode cX10_link 92 = .ok (.iload_n 1, 1) := by decide +kernel
theorem dX10_link_93 : decode cX10_link 93 = .ok (.ishr, 1) := by decide +kernel
theorem dX10_link_94 : decode cX10_link 94 = .ok (.iconst 1, 1) := by decide +kernel
theorem dX10_link_95 : decode cX10_link 95 = .ok (.iand, 1) := by decide +kernel
theorem dX10_link_96 : decode cX10_link 96 = .ok (.ireturn, 1) := by decide +kernel
theorem dX10_link_97 : decode cX10_link 97 = .ok (.aload_n 0, 1) := by decide +kernel
theorem dX10_link_98 : decode cX10_link 98 = .ok (.getfield 20, 3) := by decide +kernel
theorem dX10_link_101 : decode cX10_link 101 = .ok (.iload_n 1, 1) := by decide +kernel
theorem dX10_link_102 : decode cX10_link 102 = .ok (.iaload, 1) := by decide +kernel
theorem dX10_link_103 : decode cX10_link 103 = .ok (.ireturn, 1) := by decide +kernel
theorem dX10_link_104 : decode cX10_link 104 = .ok (.bipush (-3), 2) := by decide +kernel
theorem dX10_link_106 : decode cX10_link 106 = .ok (.ireturn, 1) := by decide +kernel
theorem dX10_notes_0 : decode cX10_notes 0 = .ok (.aload_n 0, 1) := by decide +kernel
theorem dX10_notes_1 : decode cX10_notes 1 = .ok (.getfield 203, 3) := by decide +kernel
theorem dX10_notes_4 : decode cX10_notes 4 = .ok (.bipush 8, 2) := by decide +kernel
theorem dX10_notes_6 : decode cX10_notes 6 = .ok (.if_icmp .ne 43, 3) := by decide +kernel
theorem dX10_notes_9 : decode cX10_notes 9 = .ok (.iconst 0, 1) := by decide +kernel
theorem dX10_notes_10 : decode cX10_notes 10 = .ok (.istore_n 1, 1) := by decide +kernel
theorem dX10_notes_11 : decode cX10_notes 11 = .ok (.iload_n 1, 1) := by decide +kernel
theorem dX10_notes_12 : decode cX10_notes 12 = .ok (.sipush 259, 3) := by decide +kernel
theorem dX10_notes_15 : decode cX10_notes 15 = .ok (.if_icmp .ge 24, 3) := by decide +kernel
theorem dX10_notes_18 : decode cX10_notes 18 = .ok (.aload_n 0, 1) := by decide +kernel
theorem dX10_notes_19 : decode cX10_notes 19 = .ok (.getfield 26, 3) := by decide +kernel
theorem dX10_notes_22 : decode cX10_notes 22 = .ok (.iload_n 1, 1) := by decide +kernel
theorem dX10_notes_23 : decode cX10_notes 23 = .ok (.aload_n 0, 1) := by decide +kernel
theorem dX10_notes_24 : decode cX10_notes 24 = .ok (.getfield 26, 3) := by decide +kernel
theorem dX10_notes_27 : decode cX10_notes 27 = .ok (.iload_n 1, 1) := by decide +kernel
theorem dX10_notes_28 : decode cX10_notes 28 = .ok (.bipush 37, 2) := by decide +kernel
theorem dX10_notes_30 : decode cX10_notes 30 = .ok (.iadd, 1) := by decide +kernel
theorem dX10_notes_31 : decode cX10_notes 31 = .ok (.iaload, 1) := by decide +kernel
theorem dX10_notes_32 : decode cX10_notes 32 = .ok (.iastore, 1) := by decide +kernel
theorem dX10_notes_33 : decode cX10_notes 33 = .ok (.iinc 1 1, 3) := by decide +kernel
theorem dX10_notes_36 : decode cX10_notes 36 = .ok (.goto (-25), 3) := by decide +kernel
theorem dX10_notes_39 : decode cX10_notes 39 = .ok (.aload_n 0, 1) := by decide +kernel
theorem dX10_notes_40 : decode cX10_notes 40 = .ok (.dup, 1) := by decide +kernel
theorem dX10_notes_41 : decode cX10_notes 41 = .ok (.getfield 203, 3) := by decide +kernel
theorem dX10_notes_44 : decode cX10_notes 44 = .ok (.iconst 1, 1) := by decide +kernel
theorem dX10_notes_45 : decode cX10_notes 45 = .ok (.isub, 1) := by decide +kernel
theorem dX10_notes_46 : decode cX10_notes 46 = .ok (.putfield 203, 3) := by decide +kernel
theorem dX10_notes_49 : decode cX10_notes 49 = .ok (.iconst 0, 1) := by decide +kernel
theorem dX10_notes_50 : decode cX10_notes 50 = .ok (.istore_n 1, 1) := by decide +kernel
theorem dX10_notes_51 : decode cX10_notes 51 = .ok (.iload_n 1, 1) := by decide +kernel
theorem dX10_notes_52 : decode cX10_notes 52 = .ok (.bipush 37, 2) := by decide +kernel
theorem dX10_notes_54 : decode cX10_notes 54 = .ok (.if_icmp .ge 29, 3) := by decide +kernel
theorem dX10_notes_57 : decode cX10_notes 57 = .ok (.aload_n 0, 1) := by decide +kernel
theorem dX10_notes_58 : decode cX10_notes 58 = .ok (.getfield 26, 3) := by decide +kernel
theorem dX10_notes_61 : decode cX10_notes 61 = .ok (.bipush 37, 2) := by decide +kernel
theorem dX10_notes_63 : decode cX10_notes 63 = .ok (.aload_n 0, 1) := by decide +kernel
theorem dX10_notes_64 : decode cX10_notes 64 = .ok (.getfield 203, 3) := by decide +kernel
theorem dX10_notes_67 : decode cX10_notes 67 = .ok (.imul, 1) := by decide +kernel
theorem dX10_notes_68 : decode cX10_notes 68 = .ok (.iload_n 1, 1) := by decide +kernel
theorem dX10_notes_69 : decode cX10_notes 69 = .ok (.iadd, 1) := by decide +kernel
theorem dX10_notes_70 : decode cX10_notes 70 = .ok (.aload_n 0, 1) := by decide +kernel
theorem dX10_notes_71 : decode cX10_notes 71 = .ok (.getfield 23, 3) := by decide +kernel
theorem dX10_notes_74 : decode cX10_notes 74 = .ok (.iload_n 1, 1) := by decide +kernel
theorem dX10_notes_75 : decode cX10_notes 75 = .ok (.iaload, 1) := by decide +kernel
theorem dX10_notes_76 : decode cX10_notes 76 = .ok (.iastore, 1) := by decide +kernel
theorem dX10_notes_77 : decode cX10_notes 77 = .ok (.iinc 1 1, 3) := by decide +kernel
theorem dX10_notes_80 : decode cX10_notes 80 = .ok (.goto (-29), 3) := by decide +kernel
theorem dX10_notes_83 : decode cX10_notes 83 = .ok (.aload_n 0, 1) := by decide +kernel
theorem dX10_notes_84 : decode cX10_notes 84 = .ok (.dup, 1) := by decide +kernel
theorem dX10_notes_85 : decode cX10_notes 85 = .ok (.getfield 203, 3) := by decide +kernel
theorem dX10_notes_88 : decode cX10_notes 88 = .ok (.iconst 1, 1) := by decide +kernel
theorem dX10_notes_89 : decode cX10_notes 89 = .ok (.iadd, 1) := by decide +kernel
theorem dX10_notes_90 : decode cX10_notes 90 = .ok (.putfield 203, 3) := by decide +kernel
theorem dX10_notes_93 : decode cX10_notes 93 = .ok (.return_, 1) := by decide +kernel
theorem dX10_becomesUp_0 : decode cX10_becomesUp 0 = .ok (.aload_n 0, 1) := by decide +kernel
theorem dX10_becomesUp_1 : decode cX10_becomesUp 1 = .ok (.iload_n 1, 1) := by decide +kernel
theorem dX10_becomesUp_2 : decode cX10_becomesUp 2 = .ok (.invokevirtual 221, 3) := by decide +kernel
theorem dX10_becomesUp_5 : decode cX10_becomesUp 5 = .ok (.ifCond .ne 6, 3) := by decide +kernel
theorem dX10_becomesUp_8 : decode cX10_becomesUp 8 = .ok (.bipush (-2), 2) := by decide +kernel
theorem dX10_becomesUp_10 : decode cX10_becomesUp 10 = .ok (.ireturn, 1) := by decide +kernel
theorem dX10_becomesUp_11 : decode cX10_becomesUp 11 = .ok (.aload_n 0, 1) := by decide +kernel
theorem dX10_becomesUp_12 : decode cX10_becomesUp 12 = .ok (.getfield 23, 3) := by decide +kernel
theorem dX10_becomesUp_15 : decode cX10_becomesUp 15 = .ok (.bipush 28, 2) := by decide +kernel
theorem dX10_becomesUp_17 : decode cX10_becomesUp 17 = .ok (.iaload, 1) := by decide +kernel
theorem dX10_becomesUp_18 : decode cX10_becomesUp 18 = .ok (.iload_n 1, 1) := by decide +kernel
theorem dX10_becomesUp_19 : decode cX10_becomesUp 19 = .ok (.ishr, 1) := by decide +kernel
theorem dX10_becomesUp_20 : decode cX10_becomesUp 20 = .ok (.iconst 1, 1) := by decide +kernel
theorem dX10_becomesUp_21 : decode cX10_becomesUp 21 = .ok (.iand, 1) := by decide +kernel
theorem dX10_becomesUp_22 : decode cX10_becomesUp 22 = .ok (.iload_n 2, 1) := by decide +kernel
theorem dX10_becomesUp_23 : decode cX10_becomesUp 23 = .ok (.if_icmp .ne 6, 3) := by decide +kernel
theorem dX10_becomesUp_26 : decode cX10_becomesUp 26 = .ok (.bipush (-4), 2) := by decide +kernel
theorem dX10_becomesUp_28 : decode cX10_becomesUp 28 = .ok (.ireturn, 1) := by decide +kernel
theorem dX10_becomesUp_29 : decode cX10_becomesUp 29 = .ok (.aload_n 0, 1) := by decide +kernel
theorem dX10_becomesUp_30 : decode cX10_becomesUp 30 = .ok (.invokevirtual 224, 3) := by decide +kernel
theorem dX10_becomesUp_33 : decode cX10_becomesUp 33 = .ok (.aload_n 0, 1) := by decide +kernel
theorem dX10_becomesUp_34 : decode cX10_becomesUp 34 = .ok (.getfield 23, 3) := by decide +kernel
theorem dX10_becomesUp_37 : decode cX10_becomesUp 37 = .ok (.bipush 28, 2) := by decide +kernel
theorem dX10_becomesUp_39 : decode cX10_becomesUp 39 = .ok (.dup2, 1) := by decide +kernel
theorem dX10_becomesUp_40 : decode cX10_becomesUp 40 = .ok (.iaload, 1) := by decide +kernel
theorem dX10_becomesUp_41 : decode cX10_becomesUp 41 = .ok (.iconst 1, 1) := by decide +kernel
theorem dX10_becomesUp_42 : decode cX10_becomesUp 42 = .ok (.iload_n 1, 1) := by decide +kernel
theorem dX10_becomesUp_43 : decode cX10_becomesUp 43 = .ok (.ishl, 1) := by decide +kernel
theorem dX10_becomesUp_44 : decode cX10_becomesUp 44 = .ok (.ixor, 1) := by decide +kernel
theorem dX10_becomesUp_45 : decode cX10_becomesUp 45 = .ok (.iastore, 1) := by decide +kernel
theorem dX10_becomesUp_46 : decode cX10_becomesUp 46 = .ok (.aload_n 0, 1) := by decide +kernel
theorem dX10_becomesUp_47 : decode cX10_becomesUp 47 = .ok (.getfield 23, 3) := by decide +kernel
theorem dX10_becomesUp_50 : decode cX10_becomesUp 50 = .ok (.bipush 28, 2) := by decide +kernel
theorem dX10_becomesUp_52 : decode cX10_becomesUp 52 = .ok (.iaload, 1) := by decide +kernel
theorem dX10_becomesUp_53 : decode cX10_becomesUp 53 = .ok (.invokestatic 227, 3) := by decide +kernel
theorem dX10_becomesUp_56 : decode cX10_becomesUp 56 = .ok (.ireturn, 1) := by decide +kernel
theorem dX10_fail_0 : decode cX10_fail 0 = .ok (.aload_n 0, 1) := by decide +kernel
theorem dX10_fail_1 : decode cX10_fail 1 = .ok (.iload_n 1, 1) := by decide +kernel
theorem dX10_fail_2 : decode cX10_fail 2 = .ok (.iconst 0, 1) := by decide +kernel
theorem dX10_fail_3 : decode cX10_fail 3 = .ok (.invokevirtual 231, 3) := by decide +kernel
theorem dX10_fail_6 : decode cX10_fail 6 = .ok (.ireturn, 1) := by decide +kernel
theorem dX10_heal_0 : decode cX10_heal 0 = .ok (.aload_n 0, 1) := by decide +kernel
theorem dX10_heal_1 : decode cX10_heal 1 = .ok (.iload_n 1, 1) := by decide +kernel
theorem dX10_heal_2 : decode cX10_heal 2 = .ok (.iconst 1, 1) := by decide +kernel
theorem dX10_heal_3 : decode cX10_heal 3 = .ok (.invokevirtual 231, 3) := by decide +kernel
theorem dX10_heal_6 : decode cX10_heal 6 = .ok (.ireturn, 1) := by decide +kernel
theorem dX10_tune_0 : decode cX10_tune 0 = .ok (.aload_n 0, 1) := by decide +kernel
theorem dX10_tune_1 : decode cX10_tune 1 = .ok (.iload_n 1, 1) := by decide +kernel
theorem dX10_tune_2 : decode cX10_tune 2 = .ok (.invokevirtual 221, 3) := by decide +kernel
theorem dX10_tune_5 : decode cX10_tune 5 = .ok (.ifCond .ne 6, 3) := by decide +kernel
theorem dX10_tune_8 : decode cX10_tune 8 = .ok (.bipush (-2), 2) := by decide +kernel
theorem dX10_tune_10 : decode cX10_tune 10 = .ok (.ireturn, 1) := by decide +kernel
theorem dX10_tune_11 : decode cX10_tune 11 = .ok (.iload_n 2, 1) := by decide +kernel
theorem dX10_tune_12 : decode cX10_tune 12 = .ok (.iconst 1, 1) := by decide +kernel
theorem dX10_tune_13 : decode cX10_tune 13 = .ok (.bipush 9, 2) := by decide +kernel
theorem dX10_tune_15 : decode cX10_tune 15 = .ok (.invokestatic 86, 3) := by decide +kernel
theorem dX10_tune_18 : decode cX10_tune 18 = .ok (.ifCond .eq 13, 3) := by decide +kernel
theorem dX10_tune_21 : decode cX10_tune 21 = .ok (.iload_n 3, 1) := by decide +kernel
theorem dX10_tune_22 : decode cX10_tune 22 = .ok (.iconst 1, 1) := by decide +kernel
theorem dX10_tune_23 : decode cX10_tune 23 = .ok (.bipush 9, 2) := by decide +kernel
theorem dX10_tune_25 : decode cX10_tune 25 = .ok (.invokestatic 86, 3) := by decide +kernel
theorem dX10_tune_28 : decode cX10_tune 28 = .ok (.ifCond .ne 6, 3) := by decide +kernel
theorem dX10_tune_31 : decode cX10_tune 31 = .ok (.bipush (-3), 2) := by decide +kernel
theorem dX10_tune_33 : decode cX10_tune 33 = .ok (.ireturn, 1) := by decide +kernel
theorem dX10_tune_34 : decode cX10_tune 34 = .ok (.aload_n 0, 1) := by decide +kernel
theorem dX10_tune_35 : decode cX10_tune 35 = .ok (.invokevirtual 224, 3) := by decide +kernel
theorem dX10_tune_38 : decode cX10_tune 38 = .ok (.aload_n 0, 1) := by decide +kernel
theorem dX10_tune_39 : decode cX10_tune 39 = .ok (.getfield 23, 3) := by decide +kernel
theorem dX10_tune_42 : decode cX10_tune 42 = .ok (.iconst 0, 1) := by decide +kernel
theorem dX10_tune_43 : decode cX10_tune 43 = .ok (.iload_n 1, 1) := by decide +kernel
theorem dX10_tune_44 : decode cX10_tune 44 = .ok (.iadd, 1) := by decide +kernel
theorem dX10_tune_45 : decode cX10_tune 45 = .ok (.iaload, 1) := by decide +kernel
theorem dX10_tune_46 : decode cX10_tune 46 = .ok (.istore 4, 2) := by decide +kernel
theorem dX10_tune_48 : decode cX10_tune 48 = .ok (.aload_n 0, 1) := by decide +kernel
theorem dX10_tune_49 : decode cX10_tune 49 = .ok (.getfield 23, 3) := by decide +kernel
theorem dX10_tune_52 : decode cX10_tune 52 = .ok (.iconst 0, 1) := by decide +kernel
theorem dX10_tune_53 : decode cX10_tune 53 = .ok (.iload_n 1, 1) := by decide +kernel
theorem dX10_tune_54 : decode cX10_tune 54 = .ok (.iadd, 1) := by decide +kernel
theorem dX10_tune_55 : decode cX10_tune 55 = .ok (.iload_n 2, 1) := by decide +kernel
theorem dX10_tune_56 : decode cX10_tune 56 = .ok (.iastore, 1) := by decide +kernel
theorem dX10_tune_57 : decode cX10_tune 57 = .ok (.aload_n 0, 1) := by decide +kernel
theorem dX10_tune_58 : decode cX10_tune 58 = .ok (.getfield 23, 3) := by decide +kernel
theorem dX10_tune_61 : decode cX10_tune 61 = .ok (.bipush 14, 2) := by decide +kernel
theorem dX10_tune_63 : decode cX10_tune 63 = .ok (.iload_n 1, 1) := by decide +kernel
theorem dX10_tune_64 : decode cX10_tune 64 = .ok (.iadd, 1) := by decide +kernel
theorem dX10_tune_65 : decode cX10_tune 65 = .ok (.iload_n 3, 1) := by decide +kernel
theorem dX10_tune_66 : decode cX10_tune 66 = .ok (.iastore, 1) := by decide +kernel
theorem dX10_tune_67 : decode cX10_tune 67 = .ok (.iload 4, 2) := by decide +kernel
theorem dX10_tune_69 : decode cX10_tune 69 = .ok (.ireturn, 1) := by decide +kernel
theorem dX10_learn_0 : decode cX10_learn 0 = .ok (.aload_n 0, 1) := by decide +kernel
theorem dX10_learn_1 : decode cX10_learn 1 = .ok (.iload_n 1, 1) := by decide +kernel
theorem dX10_learn_2 : decode cX10_learn 2 = .ok (.invokevirtual 234, 3) := by decide +kernel
theorem dX10_learn_5 : decode cX10_learn 5 = .ok (.ifCond .ne 6, 3) := by decide +kernel
theorem dX10_learn_8 : decode cX10_learn 8 = .ok (.bipush (-2), 2) := by decide +kernel
theorem dX10_learn_10 : decode cX10_learn 10 = .ok (.ireturn, 1) := by decide +kernel
theorem dX10_learn_11 : decode cX10_learn 11 = .ok (.aload_n 0, 1) := by decide +kernel
theorem dX10_learn_12 : decode cX10_learn 12 = .ok (.invokevirtual 224, 3) := by decide +kernel
theorem dX10_learn_15 : decode cX10_learn 15 = .ok (.aload_n 0, 1) := by decide +kernel
theorem dX10_learn_16 : decode cX10_learn 16 = .ok (.getfield 23, 3) := by decide +kernel
theorem dX10_learn_19 : decode cX10_learn 19 = .ok (.bipush 29, 2) := by decide +kernel
theorem dX10_learn_21 : decode cX10_learn 21 = .ok (.iload_n 1, 1) := by decide +kernel
theorem dX10_learn_22 : decode cX10_learn 22 = .ok (.iadd, 1) := by decide +kernel
theorem dX10_learn_23 : decode cX10_learn 23 = .ok (.iaload, 1) := by decide +kernel
theorem dX10_learn_24 : decode cX10_learn 24 = .ok (.aload_n 0, 1) := by decide +kernel
theorem dX10_learn_25 : decode cX10_learn 25 = .ok (.getfield 23, 3) := by decide +kernel
theorem dX10_learn_28 : decode cX10_learn 28 = .ok (.bipush 28, 2) := by decide +kernel
theorem dX10_learn_30 : decode cX10_learn 30 = .ok (.iaload, 1) := by decide +kernel
theorem dX10_learn_31 : decode cX10_learn 31 = .ok (.ixor, 1) := by decide +kernel
theorem dX10_learn_32 : decode cX10_learn 32 = .ok (.invokestatic 227, 3) := by decide +kernel
theorem dX10_learn_35 : decode cX10_learn 35 = .ok (.istore_n 2, 1) := by decide +kernel
theorem dX10_learn_36 : decode cX10_learn 36 = .ok (.aload_n 0, 1) := by decide +kernel
theorem dX10_learn_37 : decode cX10_learn 37 = .ok (.getfield 23, 3) := by decide +kernel
theorem dX10_learn_40 : decode cX10_learn 40 = .ok (.bipush 29, 2) := by decide +kernel
theorem dX10_learn_42 : decode cX10_learn 42 = .ok (.iload_n 1, 1) := by decide +kernel
theorem dX10_learn_43 : decode cX10_learn 43 = .ok (.iadd, 1) := by decide +kernel
theorem dX10_learn_44 : decode cX10_learn 44 = .ok (.aload_n 0, 1) := by decide +kernel
theorem dX10_learn_45 : decode cX10_learn 45 = .ok (.getfield 23, 3) := by decide +kernel
theorem dX10_learn_48 : decode cX10_learn 48 = .ok (.bipush 28, 2) := by decide +kernel
theorem dX10_learn_50 : decode cX10_learn 50 = .ok (.iaload, 1) := by decide +kernel
theorem dX10_learn_51 : decode cX10_learn 51 = .ok (.iastore, 1) := by decide +kernel
theorem dX10_learn_52 : decode cX10_learn 52 = .ok (.iload_n 2, 1) := by decide +kernel
theorem dX10_learn_53 : decode cX10_learn 53 = .ok (.ireturn, 1) := by decide +kernel
theorem dX10_undo_0 : decode cX10_undo 0 = .ok (.aload_n 0, 1) := by decide +kernel
theorem dX10_undo_1 : decode cX10_undo 1 = .ok (.getfield 203, 3) := by decide +kernel
theorem dX10_undo_4 : decode cX10_undo 4 = .ok (.ifCond .ne 6, 3) := by decide +kernel
theorem dX10_undo_7 : decode cX10_undo 7 = .ok (.bipush (-4), 2) := by decide +kernel
theorem dX10_undo_9 : decode cX10_undo 9 = .ok (.ireturn, 1) := by decide +kernel
theorem dX10_undo_10 : decode cX10_undo 10 = .ok (.aload_n 0, 1) := by decide +kernel
theorem dX10_undo_11 : decode cX10_undo 11 = .ok (.dup, 1) := by decide +kernel
theorem dX10_undo_12 : decode cX10_undo 12 = .ok (.getfield 203, 3) := by decide +kernel
theorem dX10_undo_15 : decode cX10_undo 15 = .ok (.iconst 1, 1) := by decide +kernel
theorem dX10_undo_16 : decode cX10_undo 16 = .ok (.isub, 1) := by decide +kernel
theorem dX10_undo_17 : decode cX10_undo 17 = .ok (.putfield 203, 3) := by decide +kernel
theorem dX10_undo_20 : decode cX10_undo 20 = .ok (.iconst 0, 1) := by decide +kernel
theorem dX10_undo_21 : decode cX10_undo 21 = .ok (.istore_n 1, 1) := by decide +kernel
theorem dX10_undo_22 : decode cX10_undo 22 = .ok (.iload_n 1, 1) := by decide +kernel
theorem dX10_undo_23 : decode cX10_undo 23 = .ok (.bipush 37, 2) := by decide +kernel
theorem dX10_undo_25 : decode cX10_undo 25 = .ok (.if_icmp .ge 29, 3) := by decide +kernel
theorem dX10_undo_28 : decode cX10_undo 28 = .ok (.aload_n 0, 1) := by decide +kernel
theorem dX10_undo_29 : decode cX10_undo 29 = .ok (.getfield 23, 3) := by decide +kernel
theorem dX10_undo_32 : decode cX10_undo 32 = .ok (.iload_n 1, 1) := by decide +kernel
theorem dX10_undo_33 : decode cX10_undo 33 = .ok (.aload_n 0, 1) := by decide +kernel
theorem dX10_undo_34 : decode cX10_undo 34 = .ok (.getfield 26, 3) := by decide +kernel
theorem dX10_undo_37 : decode cX10_undo 37 = .ok (.bipush 37, 2) := by decide +kernel
theorem dX10_undo_39 : decode cX10_undo 39 = .ok (.aload_n 0, 1) := by decide +kernel
theorem dX10_undo_40 : decode cX10_undo 40 = .ok (.getfield 203, 3) := by decide +kernel
theorem dX10_undo_43 : decode cX10_undo 43 = .ok (.imul, 1) := by decide +kernel
theorem dX10_undo_44 : decode cX10_undo 44 = .ok (.iload_n 1, 1) := by decide +kernel
theorem dX10_undo_45 : decode cX10_undo 45 = .ok (.iadd, 1) := by decide +kernel
theorem dX10_undo_46 : decode cX10_undo 46 = .ok (.iaload, 1) := by decide +kernel
theorem dX10_undo_47 : decode cX10_undo 47 = .ok (.iastore, 1) := by decide +kernel
theorem dX10_undo_48 : decode cX10_undo 48 = .ok (.iinc 1 1, 3) := by decide +kernel
theorem dX10_undo_51 : decode cX10_undo 51 = .ok (.goto (-29), 3) := by decide +kernel
theorem dX10_undo_54 : decode cX10_undo 54 = .ok (.aload_n 0, 1) := by decide +kernel
theorem dX10_undo_55 : decode cX10_undo 55 = .ok (.getfield 203, 3) := by decide +kernel
theorem dX10_undo_58 : decode cX10_undo 58 = .ok (.ireturn, 1) := by decide +kernel
theorem dX10_seen_0 : decode cX10_seen 0 = .ok (.aload_n 0, 1) := by decide +kernel
theorem dX10_seen_1 : decode cX10_seen 1 = .ok (.iload_n 1, 1) := by decide +kernel
theorem dX10_seen_2 : decode cX10_seen 2 = .ok (.invokevirtual 234, 3) := by decide +kernel
theorem dX10_seen_5 : decode cX10_seen 5 = .ok (.ifCond .eq 15, 3) := by decide +kernel
theorem dX10_seen_8 : decode cX10_seen 8 = .ok (.aload_n 0, 1) := by decide +kernel
theorem dX10_seen_9 : decode cX10_seen 9 = .ok (.getfield 23, 3) := by decide +kernel
theorem dX10_seen_12 : decode cX10_seen 12 = .ok (.bipush 29, 2) := by decide +kernel
theorem dX10_seen_14 : decode cX10_seen 14 = .ok (.iload_n 1, 1) := by decide +kernel
theorem dX10_seen_15 : decode cX10_seen 15 = .ok (.iadd, 1) := by decide +kernel
theorem dX10_seen_16 : decode cX10_seen 16 = .ok (.iaload, 1) := by decide +kernel
theorem dX10_seen_17 : decode cX10_seen 17 = .ok (.goto 5, 3) := by decide +kernel
theorem dX10_seen_20 : decode cX10_seen 20 = .ok (.bipush (-2), 2) := by decide +kernel
theorem dX10_seen_22 : decode cX10_seen 22 = .ok (.ireturn, 1) := by decide +kernel
theorem dX10_next_0 : decode cX10_next 0 = .ok (.aload_n 0, 1) := by decide +kernel
theorem dX10_next_1 : decode cX10_next 1 = .ok (.iload_n 1, 1) := by decide +kernel
theorem dX10_next_2 : decode cX10_next 2 = .ok (.invokevirtual 234, 3) := by decide +kernel
theorem dX10_next_5 : decode cX10_next 5 = .ok (.ifCond .eq 11, 3) := by decide +kernel
theorem dX10_next_8 : decode cX10_next 8 = .ok (.aload_n 0, 1) := by decide +kernel
theorem dX10_next_9 : decode cX10_next 9 = .ok (.iload_n 2, 1) := by decide +kernel
theorem dX10_next_10 : decode cX10_next 10 = .ok (.invokevirtual 234, 3) := by decide +kernel
theorem dX10_next_13 : decode cX10_next 13 = .ok (.ifCond .ne 6, 3) := by decide +kernel
theorem dX10_next_16 : decode cX10_next 16 = .ok (.bipush (-2), 2) := by decide +kernel
theorem dX10_next_18 : decode cX10_next 18 = .ok (.ireturn, 1) := by decide +kernel
theorem dX10_next_19 : decode cX10_next 19 = .ok (.iload_n 3, 1) := by decide +kernel
theorem dX10_next_20 : decode cX10_next 20 = .ok (.iconst 0, 1) := by decide +kernel
theorem dX10_next_21 : decode cX10_next 21 = .ok (.iconst 1, 1) := by decide +kernel
theorem dX10_next_22 : decode cX10_next 22 = .ok (.invokestatic 86, 3) := by decide +kernel
theorem dX10_next_25 : decode cX10_next 25 = .ok (.ifCond .ne 6, 3) := by decide +kernel
theorem dX10_next_28 : decode cX10_next 28 = .ok (.bipush (-3), 2) := by decide +kernel
theorem dX10_next_30 : decode cX10_next 30 = .ok (.ireturn, 1) := by decide +kernel
theorem dX10_next_31 : decode cX10_next 31 = .ok (.aload_n 0, 1) := by decide +kernel
theorem dX10_next_32 : decode cX10_next 32 = .ok (.iload_n 3, 1) := by decide +kernel
theorem dX10_next_33 : decode cX10_next 33 = .ok (.aload_n 0, 1) := by decide +kernel
theorem dX10_next_34 : decode cX10_next 34 = .ok (.getfield 23, 3) := by decide +kernel
theorem dX10_next_37 : decode cX10_next 37 = .ok (.bipush 29, 2) := by decide +kernel
theorem dX10_next_39 : decode cX10_next 39 = .ok (.iload_n 1, 1) := by decide +kernel
theorem dX10_next_40 : decode cX10_next 40 = .ok (.iadd, 1) := by decide +kernel
theorem dX10_next_41 : decode cX10_next 41 = .ok (.iaload, 1) := by decide +kernel
theorem dX10_next_42 : decode cX10_next 42 = .ok (.invokevirtual 104, 3) := by decide +kernel
theorem dX10_next_45 : decode cX10_next 45 = .ok (.aload_n 0, 1) := by decide +kernel
theorem dX10_next_46 : decode cX10_next 46 = .ok (.iload_n 1, 1) := by decide +kernel
theorem dX10_next_47 : decode cX10_next 47 = .ok (.iload_n 2, 1) := by decide +kernel
theorem dX10_next_48 : decode cX10_next 48 = .ok (.iload_n 3, 1) := by decide +kernel
theorem dX10_next_49 : decode cX10_next 49 = .ok (.aload_n 0, 1) := by decide +kernel
theorem dX10_next_50 : decode cX10_next 50 = .ok (.getfield 23, 3) := by decide +kernel
theorem dX10_next_53 : decode cX10_next 53 = .ok (.bipush 29, 2) := by decide +kernel
theorem dX10_next_55 : decode cX10_next 55 = .ok (.iload_n 1, 1) := by decide +kernel
theorem dX10_next_56 : decode cX10_next 56 = .ok (.iadd, 1) := by decide +kernel
theorem dX10_next_57 : decode cX10_next 57 = .ok (.iaload, 1) := by decide +kernel
theorem dX10_next_58 : decode cX10_next 58 = .ok (.invokevirtual 111, 3) := by decide +kernel
theorem dX10_next_61 : decode cX10_next 61 = .ok (.ireturn, 1) := by decide +kernel
theorem dX10_far_0 : decode cX10_far 0 = .ok (.aload_n 0, 1) := by decide +kernel
theorem dX10_far_1 : decode cX10_far 1 = .ok (.iload_n 1, 1) := by decide +kernel
theorem dX10_far_2 : decode cX10_far 2 = .ok (.invokevirtual 234, 3) := by decide +kernel
theorem dX10_far_5 : decode cX10_far 5 = .ok (.ifCond .eq 11, 3) := by decide +kernel
theorem dX10_far_8 : decode cX10_far 8 = .ok (.aload_n 0, 1) := by decide +kernel
theorem dX10_far_9 : decode cX10_far 9 = .ok (.iload_n 2, 1) := by decide +kernel
theorem dX10_far_10 : decode cX10_far 10 = .ok (.invokevirtual 234, 3) := by decide +kernel
theorem dX10_far_13 : decode cX10_far 13 = .ok (.ifCond .ne 6, 3) := by decide +kernel
theorem dX10_far_16 : decode cX10_far 16 = .ok (.bipush (-2), 2) := by decide +kernel
theorem dX10_far_18 : decode cX10_far 18 = .ok (.ireturn, 1) := by decide +kernel
theorem dX10_far_19 : decode cX10_far 19 = .ok (.iload_n 3, 1) := by decide +kernel
theorem dX10_far_20 : decode cX10_far 20 = .ok (.iconst 0, 1) := by decide +kernel
theorem dX10_far_21 : decode cX10_far 21 = .ok (.iconst 1, 1) := by decide +kernel
theorem dX10_far_22 : decode cX10_far 22 = .ok (.invokestatic 86, 3) := by decide +kernel
theorem dX10_far_25 : decode cX10_far 25 = .ok (.ifCond .ne 6, 3) := by decide +kernel
theorem dX10_far_28 : decode cX10_far 28 = .ok (.bipush (-3), 2) := by decide +kernel
theorem dX10_far_30 : decode cX10_far 30 = .ok (.ireturn, 1) := by decide +kernel
theorem dX10_far_31 : decode cX10_far 31 = .ok (.aload_n 0, 1) := by decide +kernel
theorem dX10_far_32 : decode cX10_far 32 = .ok (.iload_n 3, 1) := by decide +kernel
theorem dX10_far_33 : decode cX10_far 33 = .ok (.aload_n 0, 1) := by decide +kernel
theorem dX10_far_34 : decode cX10_far 34 = .ok (.getfield 23, 3) := by decide +kernel
theorem dX10_far_37 : decode cX10_far 37 = .ok (.bipush 29, 2) := by decide +kernel
theorem dX10_far_39 : decode cX10_far 39 = .ok (.iload_n 1, 1) := by decide +kernel
theorem dX10_far_40 : decode cX10_far 40 = .ok (.iadd, 1) := by decide +kernel
theorem dX10_far_41 : decode cX10_far 41 = .ok (.iaload, 1) := by decide +kernel
theorem dX10_far_42 : decode cX10_far 42 = .ok (.invokevirtual 104, 3) := by decide +kernel
theorem dX10_far_45 : decode cX10_far 45 = .ok (.aload_n 0, 1) := by decide +kernel
theorem dX10_far_46 : decode cX10_far 46 = .ok (.getfield 38, 3) := by decide +kernel
theorem dX10_far_49 : decode cX10_far 49 = .ok (.bipush 8, 2) := by decide +kernel
theorem dX10_far_51 : decode cX10_far 51 = .ok (.iload_n 1, 1) := by decide +kernel
theorem dX10_far_52 : decode cX10_far 52 = .ok (.imul, 1) := by decide +kernel
theorem dX10_far_53 : decode cX10_far 53 = .ok (.iload_n 2, 1) := by decide +kernel
theorem dX10_far_54 : decode cX10_far 54 = .ok (.iadd, 1) := by decide +kernel
theorem dX10_far_55 : decode cX10_far 55 = .ok (.iaload, 1) := by decide +kernel
theorem dX10_far_56 : decode cX10_far 56 = .ok (.sipush 9999, 3) := by decide +kernel
theorem dX10_far_59 : decode cX10_far 59 = .ok (.if_icmp .ge 17, 3) := by decide +kernel
theorem dX10_far_62 : decode cX10_far 62 = .ok (.aload_n 0, 1) := by decide +kernel
theorem dX10_far_63 : decode cX10_far 63 = .ok (.getfield 38, 3) := by decide +kernel
theorem dX10_far_66 : decode cX10_far 66 = .ok (.bipush 8, 2) := by decide +kernel
theorem dX10_far_68 : decode cX10_far 68 = .ok (.iload_n 1, 1) := by decide +kernel
theorem dX10_far_69 : decode cX10_far 69 = .ok (.imul, 1) := by decide +kernel
theorem dX10_far_70 : decode cX10_far 70 = .ok (.iload_n 2, 1) := by decide +kernel
theorem dX10_far_71 : decode cX10_far 71 = .ok (.iadd, 1) := by decide +kernel
theorem dX10_far_72 : decode cX10_far 72 = .ok (.iaload, 1) := by decide +kernel
theorem dX10_far_73 : decode cX10_far 73 = .ok (.goto 4, 3) := by decide +kernel
theorem dX10_far_76 : decode cX10_far 76 = .ok (.iconst (-1), 1) := by decide +kernel
theorem dX10_far_77 : decode cX10_far 77 = .ok (.ireturn, 1) := by decide +kernel
theorem dX10_space_0 : decode cX10_space 0 = .ok (.aload_n 0, 1) := by decide +kernel
theorem dX10_space_1 : decode cX10_space 1 = .ok (.iload_n 1, 1) := by decide +kernel
theorem dX10_space_2 : decode cX10_space 2 = .ok (.invokevirtual 234, 3) := by decide +kernel
theorem dX10_space_5 : decode cX10_space 5 = .ok (.ifCond .eq 11, 3) := by decide +kernel
theorem dX10_space_8 : decode cX10_space 8 = .ok (.aload_n 0, 1) := by decide +kernel
theorem dX10_space_9 : decode cX10_space 9 = .ok (.iload_n 2, 1) := by decide +kernel
theorem dX10_space_10 : decode cX10_space 10 = .ok (.invokevirtual 221, 3) := by decide +kernel
theorem dX10_space_13 : decode cX10_space 13 = .ok (.ifCond .ne 6, 3) := by decide +kernel
theorem dX10_space_16 : decode cX10_space 16 = .ok (.bipush (-2), 2) := by decide +kernel
theorem dX10_space_18 : decode cX10_space 18 = .ok (.ireturn, 1) := by decide +kernel
theorem dX10_space_19 : decode cX10_space 19 = .ok (.iload_n 3, 1) := by decide +kernel
theorem dX10_space_20 : decode cX10_space 20 = .ok (.iconst 0, 1) := by decide +kernel
theorem dX10_space_21 : decode cX10_space 21 = .ok (.iconst 1, 1) := by decide +kernel
theorem dX10_space_22 : decode cX10_space 22 = .ok (.invokestatic 86, 3) := by decide +kernel
theorem dX10_space_25 : decode cX10_space 25 = .ok (.ifCond .ne 6, 3) := by decide +kernel
theorem dX10_space_28 : decode cX10_space 28 = .ok (.bipush (-3), 2) := by decide +kernel
theorem dX10_space_30 : decode cX10_space 30 = .ok (.ireturn, 1) := by decide +kernel
theorem dX10_space_31 : decode cX10_space 31 = .ok (.iconst 0, 1) := by decide +kernel
theorem dX10_space_32 : decode cX10_space 32 = .ok (.istore 4, 2) := by decide +kernel
theorem dX10_space_34 : decode cX10_space 34 = .ok (.iconst 0, 1) := by decide +kernel
theorem dX10_space_35 : decode cX10_space 35 = .ok (.istore 5, 2) := by decide +kernel
theorem dX10_space_37 : decode cX10_space 37 = .ok (.iload 5, 2) := by decide +kernel
theorem dX10_space_39 : decode cX10_space 39 = .ok (.aload_n 0, 1) := by decide +kernel
theorem dX10_space_40 : decode cX10_space 40 = .ok (.getfield 7, 3) := by decide +kernel
theorem dX10_space_43 : decode cX10_space 43 = .ok (.if_icmp .ge 78, 3) := by decide +kernel
theorem dX10_space_46 : decode cX10_space 46 = .ok (.iload_n 3, 1) := by decide +kernel
theorem dX10_space_47 : decode cX10_space 47 = .ok (.ifCond .ne 23, 3) := by decide +kernel
theorem dX10_space_50 : decode cX10_space 50 = .ok (.aload_n 0, 1) := by decide +kernel
theorem dX10_space_51 : decode cX10_space 51 = .ok (.iload_n 1, 1) := by decide +kernel
theorem dX10_space_52 : decode cX10_space 52 = .ok (.iload 5, 2) := by decide +kernel
theorem dX10_space_54 : decode cX10_space 54 = .ok (.iconst 0, 1) := by decide +kernel
theorem dX10_space_55 : decode cX10_space 55 = .ok (.aload_n 0, 1) := by decide +kernel
theorem dX10_space_56 : decode cX10_space 56 = .ok (.getfield 23, 3) := by decide +kernel
theorem dX10_space_59 : decode cX10_space 59 = .ok (.bipush 29, 2) := by decide +kernel
theorem dX10_space_61 : decode cX10_space 61 = .ok (.iload_n 1, 1) := by decide +kernel
theorem dX10_space_62 : decode cX10_space 62 = .ok (.iadd, 1) := by decide +kernel
theorem dX10_space_63 : decode cX10_space 63 = .ok (.iaload, 1) := by decide +kernel
theorem dX10_space_64 : decode cX10_space 64 = .ok (.invokevirtual 126, 3) := by decide +kernel
theorem dX10_space_67 : decode cX10_space 67 = .ok (.goto 20, 3) := by decide +kernel
theorem dX10_space_70 : decode cX10_space 70 = .ok (.aload_n 0, 1) := by decide +kernel
theorem dX10_space_71 : decode cX10_space 71 = .ok (.iload 5, 2) := by decide +kernel
theorem dX10_space_73 : decode cX10_space 73 = .ok (.iload_n 1, 1) := by decide +kernel
theorem dX10_space_74 : decode cX10_space 74 = .ok (.iconst 0, 1) := by decide +kernel
theorem dX10_space_75 : decode cX10_space 75 = .ok (.aload_n 0, 1) := by decide +kernel
theorem dX10_space_76 : decode cX10_space 76 = .ok (.getfield 23, 3) := by decide +kernel
theorem dX10_space_79 : decode cX10_space 79 = .ok (.bipush 29, 2) := by decide +kernel
theorem dX10_space_81 : decode cX10_space 81 = .ok (.iload_n 1, 1) := by decide +kernel
theorem dX10_space_82 : decode cX10_space 82 = .ok (.iadd, 1) := by decide +kernel
theorem dX10_space_83 : decode cX10_space 83 = .ok (.iaload, 1) := by decide +kernel
theorem dX10_space_84 : decode cX10_space 84 = .ok (.invokevirtual 126, 3) := by decide +kernel
theorem dX10_space_87 : decode cX10_space 87 = .ok (.istore 6, 2) := by decide +kernel
theorem dX10_space_89 : decode cX10_space 89 = .ok (.iload 4, 2) := by decide +kernel
theorem dX10_space_91 : decode cX10_space 91 = .ok (.iload 6, 2) := by decide +kernel
theorem dX10_space_93 : decode cX10_space 93 = .ok (.ifCond .eq 18, 3) := by decide +kernel
theorem dX10_space_96 : decode cX10_space 96 = .ok (.aload_n 0, 1) := by decide +kernel
theorem dX10_space_97 : decode cX10_space 97 = .ok (.iload_n 2, 1) := by decide +kernel
theorem dX10_space_98 : decode cX10_space 98 = .ok (.invokevirtual 237, 3) := by decide +kernel
theorem dX10_space_101 : decode cX10_space 101 = .ok (.ifCond .ne 10, 3) := by decide +kernel
theorem dX10_space_104 : decode cX10_space 104 = .ok (.iconst 1, 1) := by decide +kernel
theorem dX10_space_105 : decode cX10_space 105 = .ok (.iload 5, 2) := by decide +kernel
theorem dX10_space_107 : decode cX10_space 107 = .ok (.ishl, 1) := by decide +kernel
theorem dX10_space_108 : decode cX10_space 108 = .ok (.goto 4, 3) := by decide +kernel
theorem dX10_space_111 : decode cX10_space 111 = .ok (.iconst 0, 1) := by decide +kernel
theorem dX10_space_112 : decode cX10_space 112 = .ok (.ior, 1) := by decide +kernel
theorem dX10_space_113 : decode cX10_space 113 = .ok (.istore 4, 2) := by decide +kernel
theorem dX10_space_115 : decode cX10_space 115 = .ok (.iinc 5 1, 3) := by decide +kernel
theorem dX10_space_118 : decode cX10_space 118 = .ok (.goto (-81), 3) := by decide +kernel
theorem dX10_space_121 : decode cX10_space 121 = .ok (.iload 4, 2) := by decide +kernel
theorem dX10_space_123 : decode cX10_space 123 = .ok (.ireturn, 1) := by decide +kernel
theorem dX10_laysGoes_0 : decode cX10_laysGoes 0 = .ok (.iconst 0, 1) := by decide +kernel
theorem dX10_laysGoes_1 : decode cX10_laysGoes 1 = .ok (.istore_n 1, 1) := by decide +kernel
theorem dX10_laysGoes_2 : decode cX10_laysGoes 2 = .ok (.iload_n 1, 1) := by decide +kernel
theorem dX10_laysGoes_3 : decode cX10_laysGoes 3 = .ok (.aload_n 0, 1) := by decide +kernel
theorem dX10_laysGoes_4 : decode cX10_laysGoes 4 = .ok (.getfield 7, 3) := by decide +kernel
theorem dX10_laysGoes_7 : decode cX10_laysGoes 7 = .ok (.if_icmp .ge 66, 3) := by decide +kernel
theorem dX10_laysGoes_10 : decode cX10_laysGoes 10 = .ok (.aload_n 0, 1) := by decide +kernel
theorem dX10_laysGoes_11 : decode cX10_laysGoes 11 = .ok (.iconst 0, 1) := by decide +kernel
theorem dX10_laysGoes_12 : decode cX10_laysGoes 12 = .ok (.aload_n 0, 1) := by decide +kernel
theorem dX10_laysGoes_13 : decode cX10_laysGoes 13 = .ok (.getfield 23, 3) := by decide +kernel
theorem dX10_laysGoes_16 : decode cX10_laysGoes 16 = .ok (.bipush 29, 2) := by decide +kernel
theorem dX10_laysGoes_18 : decode cX10_laysGoes 18 = .ok (.iload_n 1, 1) := by decide +kernel
theorem dX10_laysGoes_19 : decode cX10_laysGoes 19 = .ok (.iadd, 1) := by decide +kernel
theorem dX10_laysGoes_20 : decode cX10_laysGoes 20 = .ok (.iaload, 1) := by decide +kernel
theorem dX10_laysGoes_21 : decode cX10_laysGoes 21 = .ok (.invokevirtual 104, 3) := by decide +kernel
theorem dX10_laysGoes_24 : decode cX10_laysGoes 24 = .ok (.iconst 0, 1) := by decide +kernel
theorem dX10_laysGoes_25 : decode cX10_laysGoes 25 = .ok (.istore_n 2, 1) := by decide +kernel
theorem dX10_laysGoes_26 : decode cX10_laysGoes 26 = .ok (.iload_n 2, 1) := by decide +kernel
theorem dX10_laysGoes_27 : decode cX10_laysGoes 27 = .ok (.aload_n 0, 1) := by decide +kernel
theorem dX10_laysGoes_28 : decode cX10_laysGoes 28 = .ok (.getfield 7, 3) := by decide +kernel
theorem dX10_laysGoes_31 : decode cX10_laysGoes 31 = .ok (.if_icmp .ge 36, 3) := by decide +kernel
theorem dX10_laysGoes_34 : decode cX10_laysGoes 34 = .ok (.aload_n 0, 1) := by decide +kernel
theorem dX10_laysGoes_35 : decode cX10_laysGoes 35 = .ok (.getfield 65, 3) := by decide +kernel
theorem dX10_laysGoes_38 : decode cX10_laysGoes 38 = .ok (.bipush 8, 2) := by decide +kernel
theorem dX10_laysGoes_40 : decode cX10_laysGoes 40 = .ok (.iload_n 1, 1) := by decide +kernel
theorem dX10_laysGoes_41 : decode cX10_laysGoes 41 = .ok (.imul, 1) := by decide +kernel
theorem dX10_laysGoes_42 : decode cX10_laysGoes 42 = .ok (.iload_n 2, 1) := by decide +kernel
theorem dX10_laysGoes_43 : decode cX10_laysGoes 43 = .ok (.iadd, 1) := by decide +kernel
theorem dX10_laysGoes_44 : decode cX10_laysGoes 44 = .ok (.aload_n 0, 1) := by decide +kernel
theorem dX10_laysGoes_45 : decode cX10_laysGoes 45 = .ok (.iload_n 1, 1) := by decide +kernel
theorem dX10_laysGoes_46 : decode cX10_laysGoes 46 = .ok (.iload_n 2, 1) := by decide +kernel
theorem dX10_laysGoes_47 : decode cX10_laysGoes 47 = .ok (.iconst 0, 1) := by decide +kernel
theorem dX10_laysGoes_48 : decode cX10_laysGoes 48 = .ok (.aload_n 0, 1) := by decide +kernel
theorem dX10_laysGoes_49 : decode cX10_laysGoes 49 = .ok (.getfield 23, 3) := by decide +kernel
theorem dX10_laysGoes_52 : decode cX10_laysGoes 52 = .ok (.bipush 29, 2) := by decide +kernel
theorem dX10_laysGoes_54 : decode cX10_laysGoes 54 = .ok (.iload_n 1, 1) := by decide +kernel
theorem dX10_laysGoes_55 : decode cX10_laysGoes 55 = .ok (.iadd, 1) := by decide +kernel
theorem dX10_laysGoes_56 : decode cX10_laysGoes 56 = .ok (.iaload, 1) := by decide +kernel
theorem dX10_laysGoes_57 : decode cX10_laysGoes 57 = .ok (.invokevirtual 111, 3) := by decide +kernel
theorem dX10_laysGoes_60 : decode cX10_laysGoes 60 = .ok (.iastore, 1) := by decide +kernel
theorem dX10_laysGoes_61 : decode cX10_laysGoes 61 = .ok (.iinc 2 1, 3) := by decide +kernel
theorem dX10_laysGoes_64 : decode cX10_laysGoes 64 = .ok (.goto (-38), 3) := by decide +kernel
theorem dX10_laysGoes_67 : decode cX10_laysGoes 67 = .ok (.iinc 1 1, 3) := by decide +kernel
theorem dX10_laysGoes_70 : decode cX10_laysGoes 70 = .ok (.goto (-68), 3) := by decide +kernel
theorem dX10_laysGoes_73 : decode cX10_laysGoes 73 = .ok (.aload_n 0, 1) := by decide +kernel
theorem dX10_laysGoes_74 : decode cX10_laysGoes 74 = .ok (.iconst 0, 1) := by decide +kernel
theorem dX10_laysGoes_75 : decode cX10_laysGoes 75 = .ok (.aload_n 0, 1) := by decide +kernel
theorem dX10_laysGoes_76 : decode cX10_laysGoes 76 = .ok (.getfield 23, 3) := by decide +kernel
theorem dX10_laysGoes_79 : decode cX10_laysGoes 79 = .ok (.bipush 28, 2) := by decide +kernel
theorem dX10_laysGoes_81 : decode cX10_laysGoes 81 = .ok (.iaload, 1) := by decide +kernel
theorem dX10_laysGoes_82 : decode cX10_laysGoes 82 = .ok (.invokevirtual 104, 3) := by decide +kernel
theorem dX10_laysGoes_85 : decode cX10_laysGoes 85 = .ok (.iconst 0, 1) := by decide +kernel
theorem dX10_laysGoes_86 : decode cX10_laysGoes 86 = .ok (.istore_n 1, 1) := by decide +kernel
theorem dX10_laysGoes_87 : decode cX10_laysGoes 87 = .ok (.iload_n 1, 1) := by decide +kernel
theorem dX10_laysGoes_88 : decode cX10_laysGoes 88 = .ok (.aload_n 0, 1) := by decide +kernel
theorem dX10_laysGoes_89 : decode cX10_laysGoes 89 = .ok (.getfield 7, 3) := by decide +kernel
theorem dX10_laysGoes_92 : decode cX10_laysGoes 92 = .ok (.if_icmp .ge 50, 3) := by decide +kernel
theorem dX10_laysGoes_95 : decode cX10_laysGoes 95 = .ok (.iconst 0, 1) := by decide +kernel
theorem dX10_laysGoes_96 : decode cX10_laysGoes 96 = .ok (.istore_n 2, 1) := by decide +kernel
theorem dX10_laysGoes_97 : decode cX10_laysGoes 97 = .ok (.iload_n 2, 1) := by decide +kernel
theorem dX10_laysGoes_98 : decode cX10_laysGoes 98 = .ok (.aload_n 0, 1) := by decide +kernel
theorem dX10_laysGoes_99 : decode cX10_laysGoes 99 = .ok (.getfield 7, 3) := by decide +kernel
theorem dX10_laysGoes_102 : decode cX10_laysGoes 102 = .ok (.if_icmp .ge 34, 3) := by decide +kernel
theorem dX10_laysGoes_105 : decode cX10_laysGoes 105 = .ok (.aload_n 0, 1) := by decide +kernel
theorem dX10_laysGoes_106 : decode cX10_laysGoes 106 = .ok (.getfield 68, 3) := by decide +kernel
theorem dX10_laysGoes_109 : decode cX10_laysGoes 109 = .ok (.bipush 8, 2) := by decide +kernel
theorem dX10_laysGoes_111 : decode cX10_laysGoes 111 = .ok (.iload_n 1, 1) := by decide +kernel
theorem dX10_laysGoes_112 : decode cX10_laysGoes 112 = .ok (.imul, 1) := by decide +kernel
theorem dX10_laysGoes_113 : decode cX10_laysGoes 113 = .ok (.iload_n 2, 1) := by decide +kernel
theorem dX10_laysGoes_114 : decode cX10_laysGoes 114 = .ok (.iadd, 1) := by decide +kernel
theorem dX10_laysGoes_115 : decode cX10_laysGoes 115 = .ok (.aload_n 0, 1) := by decide +kernel
theorem dX10_laysGoes_116 : decode cX10_laysGoes 116 = .ok (.iload_n 1, 1) := by decide +kernel
theorem dX10_laysGoes_117 : decode cX10_laysGoes 117 = .ok (.iload_n 2, 1) := by decide +kernel
theorem dX10_laysGoes_118 : decode cX10_laysGoes 118 = .ok (.iconst 0, 1) := by decide +kernel
theorem dX10_laysGoes_119 : decode cX10_laysGoes 119 = .ok (.aload_n 0, 1) := by decide +kernel
theorem dX10_laysGoes_120 : decode cX10_laysGoes 120 = .ok (.getfield 23, 3) := by decide +kernel
theorem dX10_laysGoes_123 : decode cX10_laysGoes 123 = .ok (.bipush 28, 2) := by decide +kernel
theorem dX10_laysGoes_125 : decode cX10_laysGoes 125 = .ok (.iaload, 1) := by decide +kernel
theorem dX10_laysGoes_126 : decode cX10_laysGoes 126 = .ok (.invokevirtual 111, 3) := by decide +kernel
theorem dX10_laysGoes_129 : decode cX10_laysGoes 129 = .ok (.iastore, 1) := by decide +kernel
theorem dX10_laysGoes_130 : decode cX10_laysGoes 130 = .ok (.iinc 2 1, 3) := by decide +kernel
theorem dX10_laysGoes_133 : decode cX10_laysGoes 133 = .ok (.goto (-36), 3) := by decide +kernel
theorem dX10_laysGoes_136 : decode cX10_laysGoes 136 = .ok (.iinc 1 1, 3) := by decide +kernel
theorem dX10_laysGoes_139 : decode cX10_laysGoes 139 = .ok (.goto (-52), 3) := by decide +kernel
theorem dX10_laysGoes_142 : decode cX10_laysGoes 142 = .ok (.return_, 1) := by decide +kernel
theorem dX10_ringsOf_0 : decode cX10_ringsOf 0 = .ok (.iconst 0, 1) := by decide +kernel
theorem dX10_ringsOf_1 : decode cX10_ringsOf 1 = .ok (.istore_n 3, 1) := by decide +kernel
theorem dX10_ringsOf_2 : decode cX10_ringsOf 2 = .ok (.iconst 0, 1) := by decide +kernel
theorem dX10_ringsOf_3 : decode cX10_ringsOf 3 = .ok (.istore 4, 2) := by decide +kernel
theorem dX10_ringsOf_5 : decode cX10_ringsOf 5 = .ok (.iload 4, 2) := by decide +kernel
theorem dX10_ringsOf_7 : decode cX10_ringsOf 7 = .ok (.aload_n 0, 1) := by decide +kernel
theorem dX10_ringsOf_8 : decode cX10_ringsOf 8 = .ok (.getfield 7, 3) := by decide +kernel
theorem dX10_ringsOf_11 : decode cX10_ringsOf 11 = .ok (.if_icmp .ge 111, 3) := by decide +kernel
theorem dX10_ringsOf_14 : decode cX10_ringsOf 14 = .ok (.iload 4, 2) := by decide +kernel
theorem dX10_ringsOf_16 : decode cX10_ringsOf 16 = .ok (.istore 5, 2) := by decide +kernel
theorem dX10_ringsOf_18 : decode cX10_ringsOf 18 = .ok (.iconst 0, 1) := by decide +kernel
theorem dX10_ringsOf_19 : decode cX10_ringsOf 19 = .ok (.istore 6, 2) := by decide +kernel
theorem dX10_ringsOf_21 : decode cX10_ringsOf 21 = .ok (.iload 5, 2) := by decide +kernel
theorem dX10_ringsOf_23 : decode cX10_ringsOf 23 = .ok (.iconst (-1), 1) := by decide +kernel
theorem dX10_ringsOf_24 : decode cX10_ringsOf 24 = .ok (.if_icmp .eq 69, 3) := by decide +kernel
theorem dX10_ringsOf_27 : decode cX10_ringsOf 27 = .ok (.iload 5, 2) := by decide +kernel
theorem dX10_ringsOf_29 : decode cX10_ringsOf 29 = .ok (.iload_n 1, 1) := by decide +kernel
theorem dX10_ringsOf_30 : decode cX10_ringsOf 30 = .ok (.if_icmp .eq 63, 3) := by decide +kernel
theorem dX10_ringsOf_33 : decode cX10_ringsOf 33 = .ok (.iload 6, 2) := by decide +kernel
theorem dX10_ringsOf_35 : decode cX10_ringsOf 35 = .ok (.iload 5, 2) := by decide +kernel
theorem dX10_ringsOf_37 : decode cX10_ringsOf 37 = .ok (.invokestatic 93, 3) := by decide +kernel
theorem dX10_ringsOf_40 : decode cX10_ringsOf 40 = .ok (.ifCond .ne 53, 3) := by decide +kernel
theorem dX10_ringsOf_43 : decode cX10_ringsOf 43 = .ok (.iload 6, 2) := by decide +kernel
theorem dX10_ringsOf_45 : decode cX10_ringsOf 45 = .ok (.iconst 1, 1) := by decide +kernel
theorem dX10_ringsOf_46 : decode cX10_ringsOf 46 = .ok (.iload 5, 2) := by decide +kernel
theorem dX10_ringsOf_48 : decode cX10_ringsOf 48 = .ok (.ishl, 1) := by decide +kernel
theorem dX10_ringsOf_49 : decode cX10_ringsOf 49 = .ok (.ior, 1) := by decide +kernel
theorem dX10_ringsOf_50 : decode cX10_ringsOf 50 = .ok (.istore 6, 2) := by decide +kernel
theorem dX10_ringsOf_52 : decode cX10_ringsOf 52 = .ok (.iload_n 2, 1) := by decide +kernel
theorem dX10_ringsOf_53 : decode cX10_ringsOf 53 = .ok (.iload 5, 2) := by decide +kernel
theorem dX10_ringsOf_55 : decode cX10_ringsOf 55 = .ok (.invokestatic 93, 3) := by decide +kernel
theorem dX10_ringsOf_58 : decode cX10_ringsOf 58 = .ok (.ifCond .eq 18, 3) := by decide +kernel
theorem dX10_ringsOf_61 : decode cX10_ringsOf 61 = .ok (.aload_n 0, 1) := by decide +kernel
theorem dX10_ringsOf_62 : decode cX10_ringsOf 62 = .ok (.getfield 68, 3) := by decide +kernel
theorem dX10_ringsOf_65 : decode cX10_ringsOf 65 = .ok (.bipush 8, 2) := by decide +kernel
theorem dX10_ringsOf_67 : decode cX10_ringsOf 67 = .ok (.iload 5, 2) := by decide +kernel
theorem dX10_ringsOf_69 : decode cX10_ringsOf 69 = .ok (.imul, 1) := by decide +kernel
theorem dX10_ringsOf_70 : decode cX10_ringsOf 70 = .ok (.iload_n 1, 1) := by decide +kernel
theorem dX10_ringsOf_71 : decode cX10_ringsOf 71 = .ok (.iadd, 1) := by decide +kernel
theorem dX10_ringsOf_72 : decode cX10_ringsOf 72 = .ok (.iaload, 1) := by decide +kernel
theorem dX10_ringsOf_73 : decode cX10_ringsOf 73 = .ok (.goto 15, 3) := by decide +kernel
theorem dX10_ringsOf_76 : decode cX10_ringsOf 76 = .ok (.aload_n 0, 1) := by decide +kernel
theorem dX10_ringsOf_77 : decode cX10_ringsOf 77 = .ok (.getfield 65, 3) := by decide +kernel
theorem dX10_ringsOf_80 : decode cX10_ringsOf 80 = .ok (.bipush 8, 2) := by decide +kernel
theorem dX10_ringsOf_82 : decode cX10_ringsOf 82 = .ok (.iload 5, 2) := by decide +kernel
theorem dX10_ringsOf_84 : decode cX10_ringsOf 84 = .ok (.imul, 1) := by decide +kernel
theorem dX10_ringsOf_85 : decode cX10_ringsOf 85 = .ok (.iload_n 1, 1) := by decide +kernel
theorem dX10_ringsOf_86 : decode cX10_ringsOf 86 = .ok (.iadd, 1) := by decide +kernel
theorem dX10_ringsOf_87 : decode cX10_ringsOf 87 = .ok (.iaload, 1) := by decide +kernel
theorem dX10_ringsOf_88 : decode cX10_ringsOf 88 = .ok (.istore 5, 2) := by decide +kernel
theorem dX10_ringsOf_90 : decode cX10_ringsOf 90 = .ok (.goto (-69), 3) := by decide +kernel
theorem dX10_ringsOf_93 : decode cX10_ringsOf 93 = .ok (.iload_n 3, 1) := by decide +kernel
theorem dX10_ringsOf_94 : decode cX10_ringsOf 94 = .ok (.iload 5, 2) := by decide +kernel
theorem dX10_ringsOf_96 : decode cX10_ringsOf 96 = .ok (.iconst (-1), 1) := by decide +kernel
theorem dX10_ringsOf_97 : decode cX10_ringsOf 97 = .ok (.if_icmp .eq 16, 3) := by decide +kernel
theorem dX10_ringsOf_100 : decode cX10_ringsOf 100 = .ok (.iload 5, 2) := by decide +kernel
theorem dX10_ringsOf_102 : decode cX10_ringsOf 102 = .ok (.iload_n 1, 1) := by decide +kernel
theorem dX10_ringsOf_103 : decode cX10_ringsOf 103 = .ok (.if_icmp .eq 10, 3) := by decide +kernel
theorem dX10_ringsOf_106 : decode cX10_ringsOf 106 = .ok (.iconst 1, 1) := by decide +kernel
theorem dX10_ringsOf_107 : decode cX10_ringsOf 107 = .ok (.iload 4, 2) := by decide +kernel
theorem dX10_ringsOf_109 : decode cX10_ringsOf 109 = .ok (.ishl, 1) := by decide +kernel
theorem dX10_ringsOf_110 : decode cX10_ringsOf 110 = .ok (.goto 4, 3) := by decide +kernel
theorem dX10_ringsOf_113 : decode cX10_ringsOf 113 = .ok (.iconst 0, 1) := by decide +kernel
theorem dX10_ringsOf_114 : decode cX10_ringsOf 114 = .ok (.ior, 1) := by decide +kernel
theorem dX10_ringsOf_115 : decode cX10_ringsOf 115 = .ok (.istore_n 3, 1) := by decide +kernel
theorem dX10_ringsOf_116 : decode cX10_ringsOf 116 = .ok (.iinc 4 1, 3) := by decide +kernel
theorem dX10_ringsOf_119 : decode cX10_ringsOf 119 = .ok (.goto (-114), 3) := by decide +kernel
theorem dX10_ringsOf_122 : decode cX10_ringsOf 122 = .ok (.iload_n 3, 1) := by decide +kernel
theorem dX10_ringsOf_123 : decode cX10_ringsOf 123 = .ok (.ireturn, 1) := by decide +kernel
theorem dX10_isSafe_0 : decode cX10_isSafe 0 = .ok (.iconst 1, 1) := by decide +kernel
theorem dX10_isSafe_1 : decode cX10_isSafe 1 = .ok (.istore_n 2, 1) := by decide +kernel
theorem dX10_isSafe_2 : decode cX10_isSafe 2 = .ok (.iconst 0, 1) := by decide +kernel
theorem dX10_isSafe_3 : decode cX10_isSafe 3 = .ok (.istore_n 3, 1) := by decide +kernel
theorem dX10_isSafe_4 : decode cX10_isSafe 4 = .ok (.iload_n 3, 1) := by decide +kernel
theorem dX10_isSafe_5 : decode cX10_isSafe 5 = .ok (.aload_n 0, 1) := by decide +kernel
theorem dX10_isSafe_6 : decode cX10_isSafe 6 = .ok (.getfield 7, 3) := by decide +kernel
theorem dX10_isSafe_9 : decode cX10_isSafe 9 = .ok (.if_icmp .ge 28, 3) := by decide +kernel
theorem dX10_isSafe_12 : decode cX10_isSafe 12 = .ok (.iload_n 2, 1) := by decide +kernel
theorem dX10_isSafe_13 : decode cX10_isSafe 13 = .ok (.ifCond .eq 16, 3) := by decide +kernel
theorem dX10_isSafe_16 : decode cX10_isSafe 16 = .ok (.aload_n 0, 1) := by decide +kernel
theorem dX10_isSafe_17 : decode cX10_isSafe 17 = .ok (.iload_n 3, 1) := by decide +kernel
theorem dX10_isSafe_18 : decode cX10_isSafe 18 = .ok (.iload_n 1, 1) := by decide +kernel
theorem dX10_isSafe_19 : decode cX10_isSafe 19 = .ok (.invokevirtual 240, 3) := by decide +kernel
theorem dX10_isSafe_22 : decode cX10_isSafe 22 = .ok (.ifCond .ne 7, 3) := by decide +kernel
theorem dX10_isSafe_25 : decode cX10_isSafe 25 = .ok (.iconst 1, 1) := by decide +kernel
theorem dX10_isSafe_26 : decode cX10_isSafe 26 = .ok (.goto 4, 3) := by decide +kernel
theorem dX10_isSafe_29 : decode cX10_isSafe 29 = .ok (.iconst 0, 1) := by decide +kernel
theorem dX10_isSafe_30 : decode cX10_isSafe 30 = .ok (.istore_n 2, 1) := by decide +kernel
theorem dX10_isSafe_31 : decode cX10_isSafe 31 = .ok (.iinc 3 1, 3) := by decide +kernel
theorem dX10_isSafe_34 : decode cX10_isSafe 34 = .ok (.goto (-30), 3) := by decide +kernel
theorem dX10_isSafe_37 : decode cX10_isSafe 37 = .ok (.iload_n 2, 1) := by decide +kernel
theorem dX10_isSafe_38 : decode cX10_isSafe 38 = .ok (.ireturn, 1) := by decide +kernel
theorem dX10_rings_0 : decode cX10_rings 0 = .ok (.aload_n 0, 1) := by decide +kernel
theorem dX10_rings_1 : decode cX10_rings 1 = .ok (.iload_n 1, 1) := by decide +kernel
theorem dX10_rings_2 : decode cX10_rings 2 = .ok (.invokevirtual 234, 3) := by decide +kernel
theorem dX10_rings_5 : decode cX10_rings 5 = .ok (.ifCond .ne 6, 3) := by decide +kernel
theorem dX10_rings_8 : decode cX10_rings 8 = .ok (.bipush (-2), 2) := by decide +kernel
theorem dX10_rings_10 : decode cX10_rings 10 = .ok (.ireturn, 1) := by decide +kernel
theorem dX10_rings_11 : decode cX10_rings 11 = .ok (.aload_n 0, 1) := by decide +kernel
theorem dX10_rings_12 : decode cX10_rings 12 = .ok (.invokevirtual 243, 3) := by decide +kernel
theorem dX10_rings_15 : decode cX10_rings 15 = .ok (.aload_n 0, 1) := by decide +kernel
theorem dX10_rings_16 : decode cX10_rings 16 = .ok (.iload_n 1, 1) := by decide +kernel
theorem dX10_rings_17 : decode cX10_rings 17 = .ok (.iconst 0, 1) := by decide +kernel
theorem dX10_rings_18 : decode cX10_rings 18 = .ok (.invokevirtual 240, 3) := by decide +kernel
theorem dX10_rings_21 : decode cX10_rings 21 = .ok (.ireturn, 1) := by decide +kernel
theorem dX10_safe_0 : decode cX10_safe 0 = .ok (.aload_n 0, 1) := by decide +kernel
theorem dX10_safe_1 : decode cX10_safe 1 = .ok (.iload_n 1, 1) := by decide +kernel
theorem dX10_safe_2 : decode cX10_safe 2 = .ok (.invokevirtual 234, 3) := by decide +kernel
theorem dX10_safe_5 : decode cX10_safe 5 = .ok (.ifCond .ne 6, 3) := by decide +kernel
theorem dX10_safe_8 : decode cX10_safe 8 = .ok (.bipush (-2), 2) := by decide +kernel
theorem dX10_safe_10 : decode cX10_safe 10 = .ok (.ireturn, 1) := by decide +kernel
theorem dX10_safe_11 : decode cX10_safe 11 = .ok (.aload_n 0, 1) := by decide +kernel
theorem dX10_safe_12 : decode cX10_safe 12 = .ok (.invokevirtual 243, 3) := by decide +kernel
theorem dX10_safe_15 : decode cX10_safe 15 = .ok (.aload_n 0, 1) := by decide +kernel
theorem dX10_safe_16 : decode cX10_safe 16 = .ok (.iconst 1, 1) := by decide +kernel
theorem dX10_safe_17 : decode cX10_safe 17 = .ok (.iload_n 1, 1) := by decide +kernel
theorem dX10_safe_18 : decode cX10_safe 18 = .ok (.ishl, 1) := by decide +kernel
theorem dX10_safe_19 : decode cX10_safe 19 = .ok (.invokevirtual 246, 3) := by decide +kernel
theorem dX10_safe_22 : decode cX10_safe 22 = .ok (.ifCond .eq 7, 3) := by decide +kernel
theorem dX10_safe_25 : decode cX10_safe 25 = .ok (.iconst 1, 1) := by decide +kernel
theorem dX10_safe_26 : decode cX10_safe 26 = .ok (.goto 4, 3) := by decide +kernel
theorem dX10_safe_29 : decode cX10_safe 29 = .ok (.iconst 0, 1) := by decide +kernel
theorem dX10_safe_30 : decode cX10_safe 30 = .ok (.ireturn, 1) := by decide +kernel
theorem dX10_behind_0 : decode cX10_behind 0 = .ok (.iconst 0, 1) := by decide +kernel
theorem dX10_behind_1 : decode cX10_behind 1 = .ok (.istore_n 1, 1) := by decide +kernel
theorem dX10_behind_2 : decode cX10_behind 2 = .ok (.iconst 0, 1) := by decide +kernel
theorem dX10_behind_3 : decode cX10_behind 3 = .ok (.istore_n 2, 1) := by decide +kernel
theorem dX10_behind_4 : decode cX10_behind 4 = .ok (.iload_n 2, 1) := by decide +kernel
theorem dX10_behind_5 : decode cX10_behind 5 = .ok (.aload_n 0, 1) := by decide +kernel
theorem dX10_behind_6 : decode cX10_behind 6 = .ok (.getfield 7, 3) := by decide +kernel
theorem dX10_behind_9 : decode cX10_behind 9 = .ok (.if_icmp .ge 38, 3) := by decide +kernel
theorem dX10_behind_12 : decode cX10_behind 12 = .ok (.iload_n 1, 1) := by decide +kernel
theorem dX10_behind_13 : decode cX10_behind 13 = .ok (.aload_n 0, 1) := by decide +kernel
theorem dX10_behind_14 : decode cX10_behind 14 = .ok (.getfield 23, 3) := by decide +kernel
theorem dX10_behind_17 : decode cX10_behind 17 = .ok (.bipush 29, 2) := by decide +kernel
theorem dX10_behind_19 : decode cX10_behind 19 = .ok (.iload_n 2, 1) := by decide +kernel
theorem dX10_behind_20 : decode cX10_behind 20 = .ok (.iadd, 1) := by decide +kernel
theorem dX10_behind_21 : decode cX10_behind 21 = .ok (.iaload, 1) := by decide +kernel
theorem dX10_behind_22 : decode cX10_behind 22 = .ok (.aload_n 0, 1) := by decide +kernel
theorem dX10_behind_23 : decode cX10_behind 23 = .ok (.getfield 23, 3) := by decide +kernel
theorem dX10_behind_26 : decode cX10_behind 26 = .ok (.bipush 28, 2) := by decide +kernel
theorem dX10_behind_28 : decode cX10_behind 28 = .ok (.iaload, 1) := by decide +kernel
theorem dX10_behind_29 : decode cX10_behind 29 = .ok (.if_icmp .eq 9, 3) := by decide +kernel
theorem dX10_behind_32 : decode cX10_behind 32 = .ok (.iconst 1, 1) := by decide +kernel
theorem dX10_behind_33 : decode cX10_behind 33 = .ok (.iload_n 2, 1) := by decide +kernel
theorem dX10_behind_34 : decode cX10_behind 34 = .ok (.ishl, 1) := by decide +kernel
theorem dX10_behind_35 : decode cX10_behind 35 = .ok (.goto 4, 3) := by decide +kernel
theorem dX10_behind_38 : decode cX10_behind 38 = .ok (.iconst 0, 1) := by decide +kernel
theorem dX10_behind_39 : decode cX10_behind 39 = .ok (.ior, 1) := by decide +kernel
theorem dX10_behind_40 : decode cX10_behind 40 = .ok (.istore_n 1, 1) := by decide +kernel
theorem dX10_behind_41 : decode cX10_behind 41 = .ok (.iinc 2 1, 3) := by decide +kernel
theorem dX10_behind_44 : decode cX10_behind 44 = .ok (.goto (-40), 3) := by decide +kernel
theorem dX10_behind_47 : decode cX10_behind 47 = .ok (.iload_n 1, 1) := by decide +kernel
theorem dX10_behind_48 : decode cX10_behind 48 = .ok (.ireturn, 1) := by decide +kernel
theorem dX10_laysOrders_0 : decode cX10_laysOrders 0 = .ok (.aload_n 0, 1) := by decide +kernel
theorem dX10_laysOrders_1 : decode cX10_laysOrders 1 = .ok (.invokevirtual 243, 3) := by decide +kernel
theorem dX10_laysOrders_4 : decode cX10_laysOrders 4 = .ok (.sipush 255, 3) := by decide +kernel
theorem dX10_laysOrders_7 : decode cX10_laysOrders 7 = .ok (.istore_n 2, 1) := by decide +kernel
theorem dX10_laysOrders_8 : decode cX10_laysOrders 8 = .ok (.iload_n 2, 1) := by decide +kernel
theorem dX10_laysOrders_9 : decode cX10_laysOrders 9 = .ok (.ifCond .lt 116, 3) := by decide +kernel
theorem dX10_laysOrders_12 : decode cX10_laysOrders 12 = .ok (.aload_n 0, 1) := by decide +kernel
theorem dX10_laysOrders_13 : decode cX10_laysOrders 13 = .ok (.getfield 71, 3) := by decide +kernel
theorem dX10_laysOrders_16 : decode cX10_laysOrders 16 = .ok (.iload_n 2, 1) := by decide +kernel
theorem dX10_laysOrders_17 : decode cX10_laysOrders 17 = .ok (.iload_n 2, 1) := by decide +kernel
theorem dX10_laysOrders_18 : decode cX10_laysOrders 18 = .ok (.iload_n 1, 1) := by decide +kernel
theorem dX10_laysOrders_19 : decode cX10_laysOrders 19 = .ok (.if_icmp .ne 7, 3) := by decide +kernel
theorem dX10_laysOrders_22 : decode cX10_laysOrders 22 = .ok (.iconst 1, 1) := by decide +kernel
theorem dX10_laysOrders_23 : decode cX10_laysOrders 23 = .ok (.goto 4, 3) := by decide +kernel
theorem dX10_laysOrders_26 : decode cX10_laysOrders 26 = .ok (.iconst 0, 1) := by decide +kernel
theorem dX10_laysOrders_27 : decode cX10_laysOrders 27 = .ok (.iastore, 1) := by decide +kernel
theorem dX10_laysOrders_28 : decode cX10_laysOrders 28 = .ok (.iconst 0, 1) := by decide +kernel
theorem dX10_laysOrders_29 : decode cX10_laysOrders 29 = .ok (.istore_n 3, 1) := by decide +kernel
theorem dX10_laysOrders_30 : decode cX10_laysOrders 30 = .ok (.iload_n 3, 1) := by decide +kernel
theorem dX10_laysOrders_31 : decode cX10_laysOrders 31 = .ok (.aload_n 0, 1) := by decide +kernel
theorem dX10_laysOrders_32 : decode cX10_laysOrders 32 = .ok (.getfield 7, 3) := by decide +kernel
theorem dX10_laysOrders_35 : decode cX10_laysOrders 35 = .ok (.if_icmp .ge 84, 3) := by decide +kernel
theorem dX10_laysOrders_38 : decode cX10_laysOrders 38 = .ok (.iload_n 2, 1) := by decide +kernel
theorem dX10_laysOrders_39 : decode cX10_laysOrders 39 = .ok (.iload_n 1, 1) := by decide +kernel
theorem dX10_laysOrders_40 : decode cX10_laysOrders 40 = .ok (.iconst (-1), 1) := by decide +kernel
theorem dX10_laysOrders_41 : decode cX10_laysOrders 41 = .ok (.ixor, 1) := by decide +kernel
theorem dX10_laysOrders_42 : decode cX10_laysOrders 42 = .ok (.iand, 1) := by decide +kernel
theorem dX10_laysOrders_43 : decode cX10_laysOrders 43 = .ok (.ifCond .ne 76, 3) := by decide +kernel
theorem dX10_laysOrders_46 : decode cX10_laysOrders 46 = .ok (.iload_n 2, 1) := by decide +kernel
theorem dX10_laysOrders_47 : decode cX10_laysOrders 47 = .ok (.iconst 1, 1) := by decide +kernel
theorem dX10_laysOrders_48 : decode cX10_laysOrders 48 = .ok (.iload_n 3, 1) := by decide +kernel
theorem dX10_laysOrders_49 : decode cX10_laysOrders 49 = .ok (.ishl, 1) := by decide +kernel
theorem dX10_laysOrders_50 : decode cX10_laysOrders 50 = .ok (.ior, 1) := by decide +kernel
theorem dX10_laysOrders_51 : decode cX10_laysOrders 51 = .ok (.istore 4, 2) := by decide +kernel
theorem dX10_laysOrders_53 : decode cX10_laysOrders 53 = .ok (.iload_n 1, 1) := by decide +kernel
theorem dX10_laysOrders_54 : decode cX10_laysOrders 54 = .ok (.iload_n 2, 1) := by decide +kernel
theorem dX10_laysOrders_55 : decode cX10_laysOrders 55 = .ok (.iconst (-1), 1) := by decide +kernel
theorem dX10_laysOrders_56 : decode cX10_laysOrders 56 = .ok (.ixor, 1) := by decide +kernel
theorem dX10_laysOrders_57 : decode cX10_laysOrders 57 = .ok (.iand, 1) := by decide +kernel
theorem dX10_laysOrders_58 : decode cX10_laysOrders 58 = .ok (.iload_n 3, 1) := by decide +kernel
theorem dX10_laysOrders_59 : decode cX10_laysOrders 59 = .ok (.invokestatic 93, 3) := by decide +kernel
theorem dX10_laysOrders_62 : decode cX10_laysOrders 62 = .ok (.ifCond .eq 27, 3) := by decide +kernel
theorem dX10_laysOrders_65 : decode cX10_laysOrders 65 = .ok (.aload_n 0, 1) := by decide +kernel
theorem dX10_laysOrders_66 : decode cX10_laysOrders 66 = .ok (.getfield 71, 3) := by decide +kernel
theorem dX10_laysOrders_69 : decode cX10_laysOrders 69 = .ok (.iload 4, 2) := by decide +kernel
theorem dX10_laysOrders_71 : decode cX10_laysOrders 71 = .ok (.iaload, 1) := by decide +kernel
theorem dX10_laysOrders_72 : decode cX10_laysOrders 72 = .ok (.iconst 1, 1) := by decide +kernel
theorem dX10_laysOrders_73 : decode cX10_laysOrders 73 = .ok (.if_icmp .ne 16, 3) := by decide +kernel
theorem dX10_laysOrders_76 : decode cX10_laysOrders 76 = .ok (.aload_n 0, 1) := by decide +kernel
theorem dX10_laysOrders_77 : decode cX10_laysOrders 77 = .ok (.iload 4, 2) := by decide +kernel
theorem dX10_laysOrders_79 : decode cX10_laysOrders 79 = .ok (.invokevirtual 246, 3) := by decide +kernel
theorem dX10_laysOrders_82 : decode cX10_laysOrders 82 = .ok (.ifCond .eq 7, 3) := by decide +kernel
theorem dX10_laysOrders_85 : decode cX10_laysOrders 85 = .ok (.iconst 1, 1) := by decide +kernel
theorem dX10_laysOrders_86 : decode cX10_laysOrders 86 = .ok (.goto 4, 3) := by decide +kernel
theorem dX10_laysOrders_89 : decode cX10_laysOrders 89 = .ok (.iconst 0, 1) := by decide +kernel
theorem dX10_laysOrders_90 : decode cX10_laysOrders 90 = .ok (.istore 5, 2) := by decide +kernel
theorem dX10_laysOrders_92 : decode cX10_laysOrders 92 = .ok (.aload_n 0, 1) := by decide +kernel
theorem dX10_laysOrders_93 : decode cX10_laysOrders 93 = .ok (.getfield 71, 3) := by decide +kernel
theorem dX10_laysOrders_96 : decode cX10_laysOrders 96 = .ok (.iload_n 2, 1) := by decide +kernel
theorem dX10_laysOrders_97 : decode cX10_laysOrders 97 = .ok (.iload 5, 2) := by decide +kernel
theorem dX10_laysOrders_99 : decode cX10_laysOrders 99 = .ok (.ifCond .eq 7, 3) := by decide +kernel
theorem dX10_laysOrders_102 : decode cX10_laysOrders 102 = .ok (.iconst 1, 1) := by decide +kernel
theorem dX10_laysOrders_103 : decode cX10_laysOrders 103 = .ok (.goto 9, 3) := by decide +kernel
theorem dX10_laysOrders_106 : decode cX10_laysOrders 106 = .ok (.aload_n 0, 1) := by decide +kernel
theorem dX10_laysOrders_107 : decode cX10_laysOrders 107 = .ok (.getfield 71, 3) := by decide +kernel
theorem dX10_laysOrders_110 : decode cX10_laysOrders 110 = .ok (.iload_n 2, 1) := by decide +kernel
theorem dX10_laysOrders_111 : decode cX10_laysOrders 111 = .ok (.iaload, 1) := by decide +kernel
theorem dX10_laysOrders_112 : decode cX10_laysOrders 112 = .ok (.iastore, 1) := by decide +kernel
theorem dX10_laysOrders_113 : decode cX10_laysOrders 113 = .ok (.iinc 3 1, 3) := by decide +kernel
theorem dX10_laysOrders_116 : decode cX10_laysOrders 116 = .ok (.goto (-86), 3) := by decide +kernel
theorem dX10_laysOrders_119 : decode cX10_laysOrders 119 = .ok (.iinc 2 (-1), 3) := by decide +kernel
theorem dX10_laysOrders_122 : decode cX10_laysOrders 122 = .ok (.goto (-114), 3) := by decide +kernel
theorem dX10_laysOrders_125 : decode cX10_laysOrders 125 = .ok (.return_, 1) := by decide +kernel
theorem dX10_order_0 : decode cX10_order 0 = .ok (.iload_n 1, 1) := by decide +kernel
theorem dX10_order_1 : decode cX10_order 1 = .ok (.iconst (-1), 1) := by decide +kernel
theorem dX10_order_2 : decode cX10_order 2 = .ok (.if_icmp .ge 6, 3) := by decide +kernel
theorem dX10_order_5 : decode cX10_order 5 = .ok (.bipush (-3), 2) := by decide +kernel
theorem dX10_order_7 : decode cX10_order 7 = .ok (.ireturn, 1) := by decide +kernel
theorem dX10_order_8 : decode cX10_order 8 = .ok (.aload_n 0, 1) := by decide +kernel
theorem dX10_order_9 : decode cX10_order 9 = .ok (.invokevirtual 249, 3) := by decide +kernel
theorem dX10_order_12 : decode cX10_order 12 = .ok (.istore_n 2, 1) := by decide +kernel
theorem dX10_order_13 : decode cX10_order 13 = .ok (.aload_n 0, 1) := by decide +kernel
theorem dX10_order_14 : decode cX10_order 14 = .ok (.iload_n 2, 1) := by decide +kernel
theorem dX10_order_15 : decode cX10_order 15 = .ok (.invokevirtual 252, 3) := by decide +kernel
theorem dX10_order_18 : decode cX10_order 18 = .ok (.aload_n 0, 1) := by decide +kernel
theorem dX10_order_19 : decode cX10_order 19 = .ok (.getfield 71, 3) := by decide +kernel
theorem dX10_order_22 : decode cX10_order 22 = .ok (.iconst 0, 1) := by decide +kernel
theorem dX10_order_23 : decode cX10_order 23 = .ok (.iaload, 1) := by decide +kernel
theorem dX10_order_24 : decode cX10_order 24 = .ok (.ifCond .ne 6, 3) := by decide +kernel
theorem dX10_order_27 : decode cX10_order 27 = .ok (.bipush (-4), 2) := by decide +kernel
theorem dX10_order_29 : decode cX10_order 29 = .ok (.ireturn, 1) := by decide +kernel
theorem dX10_order_30 : decode cX10_order 30 = .ok (.iload_n 1, 1) := by decide +kernel
theorem dX10_order_31 : decode cX10_order 31 = .ok (.iconst (-1), 1) := by decide +kernel
theorem dX10_order_32 : decode cX10_order 32 = .ok (.if_icmp .ne 8, 3) := by decide +kernel
theorem dX10_order_35 : decode cX10_order 35 = .ok (.iload_n 2, 1) := by decide +kernel
theorem dX10_order_36 : decode cX10_order 36 = .ok (.invokestatic 227, 3) := by decide +kernel
theorem dX10_order_39 : decode cX10_order 39 = .ok (.ireturn, 1) := by decide +kernel
theorem dX10_order_40 : decode cX10_order 40 = .ok (.iconst 0, 1) := by decide +kernel
theorem dX10_order_41 : decode cX10_order 41 = .ok (.istore_n 3, 1) := by decide +kernel
theorem dX10_order_42 : decode cX10_order 42 = .ok (.iconst (-1), 1) := by decide +kernel
theorem dX10_order_43 : decode cX10_order 43 = .ok (.istore 4, 2) := by decide +kernel
theorem dX10_order_45 : decode cX10_order 45 = .ok (.iconst 0, 1) := by decide +kernel
theorem dX10_order_46 : decode cX10_order 46 = .ok (.istore 5, 2) := by decide +kernel
theorem dX10_order_48 : decode cX10_order 48 = .ok (.iload 5, 2) := by decide +kernel
theorem dX10_order_50 : decode cX10_order 50 = .ok (.iload_n 1, 1) := by decide +kernel
theorem dX10_order_51 : decode cX10_order 51 = .ok (.if_icmp .gt 70, 3) := by decide +kernel
theorem dX10_order_54 : decode cX10_order 54 = .ok (.iload_n 3, 1) := by decide +kernel
theorem dX10_order_55 : decode cX10_order 55 = .ok (.iload_n 2, 1) := by decide +kernel
theorem dX10_order_56 : decode cX10_order 56 = .ok (.if_icmp .eq 65, 3) := by decide +kernel
theorem dX10_order_59 : decode cX10_order 59 = .ok (.iconst 0, 1) := by decide +kernel
theorem dX10_order_60 : decode cX10_order 60 = .ok (.istore 4, 2) := by decide +kernel
theorem dX10_order_62 : decode cX10_order 62 = .ok (.iload_n 2, 1) := by decide +kernel
theorem dX10_order_63 : decode cX10_order 63 = .ok (.iload_n 3, 1) := by decide +kernel
theorem dX10_order_64 : decode cX10_order 64 = .ok (.iconst (-1), 1) := by decide +kernel
theorem dX10_order_65 : decode cX10_order 65 = .ok (.ixor, 1) := by decide +kernel
theorem dX10_order_66 : decode cX10_order 66 = .ok (.iand, 1) := by decide +kernel
theorem dX10_order_67 : decode cX10_order 67 = .ok (.iload 4, 2) := by decide +kernel
theorem dX10_order_69 : decode cX10_order 69 = .ok (.invokestatic 93, 3) := by decide +kernel
theorem dX10_order_72 : decode cX10_order 72 = .ok (.ifCond .eq 30, 3) := by decide +kernel
theorem dX10_order_75 : decode cX10_order 75 = .ok (.aload_n 0, 1) := by decide +kernel
theorem dX10_order_76 : decode cX10_order 76 = .ok (.getfield 71, 3) := by decide +kernel
theorem dX10_order_79 : decode cX10_order 79 = .ok (.iload_n 3, 1) := by decide +kernel
theorem dX10_order_80 : decode cX10_order 80 = .ok (.iconst 1, 1) := by decide +kernel
theorem dX10_order_81 : decode cX10_order 81 = .ok (.iload 4, 2) := by decide +kernel
theorem dX10_order_83 : decode cX10_order 83 = .ok (.ishl, 1) := by decide +kernel
theorem dX10_order_84 : decode cX10_order 84 = .ok (.ior, 1) := by decide +kernel
theorem dX10_order_85 : decode cX10_order 85 = .ok (.iaload, 1) := by decide +kernel
theorem dX10_order_86 : decode cX10_order 86 = .ok (.ifCond .eq 16, 3) := by decide +kernel
theorem dX10_order_89 : decode cX10_order 89 = .ok (.aload_n 0, 1) := by decide +kernel
theorem dX10_order_90 : decode cX10_order 90 = .ok (.iload_n 3, 1) := by decide +kernel
theorem dX10_order_91 : decode cX10_order 91 = .ok (.iconst 1, 1) := by decide +kernel
theorem dX10_order_92 : decode cX10_order 92 = .ok (.iload 4, 2) := by decide +kernel
theorem dX10_order_94 : decode cX10_order 94 = .ok (.ishl, 1) := by decide +kernel
theorem dX10_order_95 : decode cX10_order 95 = .ok (.ior, 1) := by decide +kernel
theorem dX10_order_96 : decode cX10_order 96 = .ok (.invokevirtual 246, 3) := by decide +kernel
theorem dX10_order_99 : decode cX10_order 99 = .ok (.ifCond .ne 9, 3) := by decide +kernel
theorem dX10_order_102 : decode cX10_order 102 = .ok (.iinc 4 1, 3) := by decide +kernel
theorem dX10_order_105 : decode cX10_order 105 = .ok (.goto (-43), 3) := by decide +kernel
theorem dX10_order_108 : decode cX10_order 108 = .ok (.iload_n 3, 1) := by decide +kernel
theorem dX10_order_109 : decode cX10_order 109 = .ok (.iconst 1, 1) := by decide +kernel
theorem dX10_order_110 : decode cX10_order 110 = .ok (.iload 4, 2) := by decide +kernel
theorem dX10_order_112 : decode cX10_order 112 = .ok (.ishl, 1) := by decide +kernel
theorem dX10_order_113 : decode cX10_order 113 = .ok (.ior, 1) := by decide +kernel
theorem dX10_order_114 : decode cX10_order 114 = .ok (.istore_n 3, 1) := by decide +kernel
theorem dX10_order_115 : decode cX10_order 115 = .ok (.iinc 5 1, 3) := by decide +kernel
theorem dX10_order_118 : decode cX10_order 118 = .ok (.goto (-70), 3) := by decide +kernel
theorem dX10_order_121 : decode cX10_order 121 = .ok (.iload_n 1, 1) := by decide +kernel
theorem dX10_order_122 : decode cX10_order 122 = .ok (.iload_n 2, 1) := by decide +kernel
theorem dX10_order_123 : decode cX10_order 123 = .ok (.invokestatic 227, 3) := by decide +kernel
theorem dX10_order_126 : decode cX10_order 126 = .ok (.if_icmp .ge 8, 3) := by decide +kernel
theorem dX10_order_129 : decode cX10_order 129 = .ok (.iload 4, 2) := by decide +kernel
theorem dX10_order_131 : decode cX10_order 131 = .ok (.goto 4, 3) := by decide +kernel
theorem dX10_order_134 : decode cX10_order 134 = .ok (.iconst (-1), 1) := by decide +kernel
theorem dX10_order_135 : decode cX10_order 135 = .ok (.ireturn, 1) := by decide +kernel
theorem dX10_push_0 : decode cX10_push 0 = .ok (.iload_n 1, 1) := by decide +kernel
theorem dX10_push_1 : decode cX10_push 1 = .ok (.iconst 0, 1) := by decide +kernel
theorem dX10_push_2 : decode cX10_push 2 = .ok (.iconst 2, 1) := by decide +kernel
theorem dX10_push_3 : decode cX10_push 3 = .ok (.invokestatic 86, 3) := by decide +kernel
theorem dX10_push_6 : decode cX10_push 6 = .ok (.ifCond .ne 6, 3) := by decide +kernel
theorem dX10_push_9 : decode cX10_push 9 = .ok (.bipush (-3), 2) := by decide +kernel
theorem dX10_push_11 : decode cX10_push 11 = .ok (.ireturn, 1) := by decide +kernel
theorem dX10_push_12 : decode cX10_push 12 = .ok (.iload_n 1, 1) := by decide +kernel
theorem dX10_push_13 : decode cX10_push 13 = .ok (.iconst 2, 1) := by decide +kernel
theorem dX10_push_14 : decode cX10_push 14 = .ok (.if_icmp .ne 14, 3) := by decide +kernel
theorem dX10_push_17 : decode cX10_push 17 = .ok (.aload_n 0, 1) := by decide +kernel
theorem dX10_push_18 : decode cX10_push 18 = .ok (.iload_n 2, 1) := by decide +kernel
theorem dX10_push_19 : decode cX10_push 19 = .ok (.invokevirtual 221, 3) := by decide +kernel
theorem dX10_push_22 : decode cX10_push 22 = .ok (.ifCond .ne 17, 3) := by decide +kernel
theorem dX10_push_25 : decode cX10_push 25 = .ok (.goto 11, 3) := by decide +kernel
theorem dX10_push_28 : decode cX10_push 28 = .ok (.aload_n 0, 1) := by decide +kernel
theorem dX10_push_29 : decode cX10_push 29 = .ok (.iload_n 2, 1) := by decide +kernel
theorem dX10_push_30 : decode cX10_push 30 = .ok (.invokevirtual 234, 3) := by decide +kernel
theorem dX10_push_33 : decode cX10_push 33 = .ok (.ifCond .ne 6, 3) := by decide +kernel
theorem dX10_push_36 : decode cX10_push 36 = .ok (.bipush (-2), 2) := by decide +kernel
theorem dX10_push_38 : decode cX10_push 38 = .ok (.ireturn, 1) := by decide +kernel
theorem dX10_push_39 : decode cX10_push 39 = .ok (.aload_n 0, 1) := by decide +kernel
theorem dX10_push_40 : decode cX10_push 40 = .ok (.getfield 174, 3) := by decide +kernel
theorem dX10_push_43 : decode cX10_push 43 = .ok (.bipush 8, 2) := by decide +kernel
theorem dX10_push_45 : decode cX10_push 45 = .ok (.if_icmp .ne 6, 3) := by decide +kernel
theorem dX10_push_48 : decode cX10_push 48 = .ok (.bipush (-5), 2) := by decide +kernel
theorem dX10_push_50 : decode cX10_push 50 = .ok (.ireturn, 1) := by decide +kernel
theorem dX10_push_51 : decode cX10_push 51 = .ok (.aload_n 0, 1) := by decide +kernel
theorem dX10_push_52 : decode cX10_push 52 = .ok (.getfield 29, 3) := by decide +kernel
theorem dX10_push_55 : decode cX10_push 55 = .ok (.aload_n 0, 1) := by decide +kernel
theorem dX10_push_56 : decode cX10_push 56 = .ok (.getfield 174, 3) := by decide +kernel
theorem dX10_push_59 : decode cX10_push 59 = .ok (.iload_n 1, 1) := by decide +kernel
theorem dX10_push_60 : decode cX10_push 60 = .ok (.iastore, 1) := by decide +kernel
theorem dX10_push_61 : decode cX10_push 61 = .ok (.aload_n 0, 1) := by decide +kernel
theorem dX10_push_62 : decode cX10_push 62 = .ok (.getfield 32, 3) := by decide +kernel
theorem dX10_push_65 : decode cX10_push 65 = .ok (.aload_n 0, 1) := by decide +kernel
theorem dX10_push_66 : decode cX10_push 66 = .ok (.getfield 174, 3) := by decide +kernel
theorem dX10_push_69 : decode cX10_push 69 = .ok (.iload_n 2, 1) := by decide +kernel
theorem dX10_push_70 : decode cX10_push 70 = .ok (.iastore, 1) := by decide +kernel
theorem dX10_push_71 : decode cX10_push 71 = .ok (.aload_n 0, 1) := by decide +kernel
theorem dX10_push_72 : decode cX10_push 72 = .ok (.dup, 1) := by decide +kernel
theorem dX10_push_73 : decode cX10_push 73 = .ok (.getfield 174, 3) := by decide +kernel
theorem dX10_push_76 : decode cX10_push 76 = .ok (.iconst 1, 1) := by decide +kernel
theorem dX10_push_77 : decode cX10_push 77 = .ok (.iadd, 1) := by decide +kernel
theorem dX10_push_78 : decode cX10_push 78 = .ok (.putfield 174, 3) := by decide +kernel
theorem dX10_push_81 : decode cX10_push 81 = .ok (.aload_n 0, 1) := by decide +kernel
theorem dX10_push_82 : decode cX10_push 82 = .ok (.getfield 174, 3) := by decide +kernel
theorem dX10_push_85 : decode cX10_push 85 = .ok (.ireturn, 1) := by decide +kernel
theorem dX10_clear_0 : decode cX10_clear 0 = .ok (.aload_n 0, 1) := by decide +kernel
theorem dX10_clear_1 : decode cX10_clear 1 = .ok (.getfield 174, 3) := by decide +kernel
theorem dX10_clear_4 : decode cX10_clear 4 = .ok (.istore_n 1, 1) := by decide +kernel
theorem dX10_clear_5 : decode cX10_clear 5 = .ok (.aload_n 0, 1) := by decide +kernel
theorem dX10_clear_6 : decode cX10_clear 6 = .ok (.iconst 0, 1) := by decide +kernel
theorem dX10_clear_7 : decode cX10_clear 7 = .ok (.putfield 174, 3) := by decide +kernel
theorem dX10_clear_10 : decode cX10_clear 10 = .ok (.iload_n 1, 1) := by decide +kernel
theorem dX10_clear_11 : decode cX10_clear 11 = .ok (.ireturn, 1) := by decide +kernel
theorem dX10_segment_0 : decode cX10_segment 0 = .ok (.iload_n 1, 1) := by decide +kernel
theorem dX10_segment_1 : decode cX10_segment 1 = .ok (.iconst 0, 1) := by decide +kernel
theorem dX10_segment_2 : decode cX10_segment 2 = .ok (.aload_n 0, 1) := by decide +kernel
theorem dX10_segment_3 : decode cX10_segment 3 = .ok (.getfield 174, 3) := by decide +kernel
theorem dX10_segment_6 : decode cX10_segment 6 = .ok (.iconst 1, 1) := by decide +kernel
theorem dX10_segment_7 : decode cX10_segment 7 = .ok (.isub, 1) := by decide +kernel
theorem dX10_segment_8 : decode cX10_segment 8 = .ok (.invokestatic 86, 3) := by decide +kernel
theorem dX10_segment_11 : decode cX10_segment 11 = .ok (.ifCond .ne 6, 3) := by decide +kernel
theorem dX10_segment_14 : decode cX10_segment 14 = .ok (.bipush (-2), 2) := by decide +kernel
theorem dX10_segment_16 : decode cX10_segment 16 = .ok (.ireturn, 1) := by decide +kernel
theorem dX10_segment_17 : decode cX10_segment 17 = .ok (.iload_n 2, 1) := by decide +kernel
theorem dX10_segment_18 : decode cX10_segment 18 = .ok (.iconst 0, 1) := by decide +kernel
theorem dX10_segment_19 : decode cX10_segment 19 = .ok (.iconst 1, 1) := by decide +kernel
theorem dX10_segment_20 : decode cX10_segment 20 = .ok (.invokestatic 86, 3) := by decide +kernel
theorem dX10_segment_23 : decode cX10_segment 23 = .ok (.ifCond .ne 6, 3) := by decide +kernel
theorem dX10_segment_26 : decode cX10_segment 26 = .ok (.bipush (-3), 2) := by decide +kernel
theorem dX10_segment_28 : decode cX10_segment 28 = .ok (.ireturn, 1) := by decide +kernel
theorem dX10_segment_29 : decode cX10_segment 29 = .ok (.iload_n 2, 1) := by decide +kernel
theorem dX10_segment_30 : decode cX10_segment 30 = .ok (.ifCond .ne 12, 3) := by decide +kernel
theorem dX10_segment_33 : decode cX10_segment 33 = .ok (.aload_n 0, 1) := by decide +kernel
theorem dX10_segment_34 : decode cX10_segment 34 = .ok (.getfield 29, 3) := by decide +kernel
theorem dX10_segment_37 : decode cX10_segment 37 = .ok (.iload_n 1, 1) := by decide +kernel
theorem dX10_segment_38 : decode cX10_segment 38 = .ok (.iaload, 1) := by decide +kernel
theorem dX10_segment_39 : decode cX10_segment 39 = .ok (.goto 9, 3) := by decide +kernel
theorem dX10_segment_42 : decode cX10_segment 42 = .ok (.aload_n 0, 1) := by decide +kernel
theorem dX10_segment_43 : decode cX10_segment 43 = .ok (.getfield 32, 3) := by decide +kernel
theorem dX10_segment_46 : decode cX10_segment 46 = .ok (.iload_n 1, 1) := by decide +kernel
theorem dX10_segment_47 : decode cX10_segment 47 = .ok (.iaload, 1) := by decide +kernel
theorem dX10_segment_48 : decode cX10_segment 48 = .ok (.ireturn, 1) := by decide +kernel
theorem dX10_repair_0 : decode cX10_repair 0 = .ok (.aload_n 0, 1) := by decide +kernel
theorem dX10_repair_1 : decode cX10_repair 1 = .ok (.iload_n 1, 1) := by decide +kernel
theorem dX10_repair_2 : decode cX10_repair 2 = .ok (.invokevirtual 234, 3) := by decide +kernel
theorem dX10_repair_5 : decode cX10_repair 5 = .ok (.ifCond .eq 24, 3) := by decide +kernel
theorem dX10_repair_8 : decode cX10_repair 8 = .ok (.aload_n 0, 1) := by decide +kernel
theorem dX10_repair_9 : decode cX10_repair 9 = .ok (.iload_n 2, 1) := by decide +kernel
theorem dX10_repair_10 : decode cX10_repair 10 = .ok (.invokevirtual 221, 3) := by decide +kernel
theorem dX10_repair_13 : decode cX10_repair 13 = .ok (.ifCond .eq 16, 3) := by decide +kernel
theorem dX10_repair_16 : decode cX10_repair 16 = .ok (.aload_n 0, 1) := by decide +kernel
theorem dX10_repair_17 : decode cX10_repair 17 = .ok (.iload_n 3, 1) := by decide +kernel
theorem dX10_repair_18 : decode cX10_repair 18 = .ok (.invokevirtual 234, 3) := by decide +kernel
theorem dX10_repair_21 : decode cX10_repair 21 = .ok (.ifCond .eq 8, 3) := by decide +kernel
theorem dX10_repair_24 : decode cX10_repair 24 = .ok (.iload_n 1, 1) := by decide +kernel
theorem dX10_repair_25 : decode cX10_repair 25 = .ok (.iload_n 3, 1) := by decide +kernel
theorem dX10_repair_26 : decode cX10_repair 26 = .ok (.if_icmp .ne 6, 3) := by decide +kernel
theorem dX10_repair_29 : decode cX10_repair 29 = .ok (.bipush (-2), 2) := by decide +kernel
theorem dX10_repair_31 : decode cX10_repair 31 = .ok (.ireturn, 1) := by decide +kernel
theorem dX10_repair_32 : decode cX10_repair 32 = .ok (.iload 4, 2) := by decide +kernel
theorem dX10_repair_34 : decode cX10_repair 34 = .ok (.iconst (-1), 1) := by decide +kernel
theorem dX10_repair_35 : decode cX10_repair 35 = .ok (.if_icmp .ge 6, 3) := by decide +kernel
theorem dX10_repair_38 : decode cX10_repair 38 = .ok (.bipush (-3), 2) := by decide +kernel
theorem dX10_repair_40 : decode cX10_repair 40 = .ok (.ireturn, 1) := by decide +kernel
theorem dX10_repair_41 : decode cX10_repair 41 = .ok (.aload_n 0, 1) := by decide +kernel
theorem dX10_repair_42 : decode cX10_repair 42 = .ok (.iload_n 1, 1) := by decide +kernel
theorem dX10_repair_43 : decode cX10_repair 43 = .ok (.iload_n 2, 1) := by decide +kernel
theorem dX10_repair_44 : decode cX10_repair 44 = .ok (.iload_n 3, 1) := by decide +kernel
theorem dX10_repair_45 : decode cX10_repair 45 = .ok (.invokevirtual 256, 3) := by decide +kernel
theorem dX10_repair_48 : decode cX10_repair 48 = .ok (.ifCond .eq 12, 3) := by decide +kernel
theorem dX10_repair_51 : decode cX10_repair 51 = .ok (.aload_n 0, 1) := by decide +kernel
theorem dX10_repair_52 : decode cX10_repair 52 = .ok (.iload 4, 2) := by decide +kernel
theorem dX10_repair_54 : decode cX10_repair 54 = .ok (.invokevirtual 259, 3) := by decide +kernel
theorem dX10_repair_57 : decode cX10_repair 57 = .ok (.goto 5, 3) := by decide +kernel
theorem dX10_repair_60 : decode cX10_repair 60 = .ok (.bipush (-4), 2) := by decide +kernel
theorem dX10_repair_62 : decode cX10_repair 62 = .ok (.ireturn, 1) := by decide +kernel
theorem dX10_trace_0 : decode cX10_trace 0 = .ok (.aload_n 0, 1) := by decide +kernel
theorem dX10_trace_1 : decode cX10_trace 1 = .ok (.iload_n 1, 1) := by decide +kernel
theorem dX10_trace_2 : decode cX10_trace 2 = .ok (.invokevirtual 234, 3) := by decide +kernel
theorem dX10_trace_5 : decode cX10_trace 5 = .ok (.ifCond .ne 6, 3) := by decide +kernel
theorem dX10_trace_8 : decode cX10_trace 8 = .ok (.bipush (-2), 2) := by decide +kernel
theorem dX10_trace_10 : decode cX10_trace 10 = .ok (.ireturn, 1) := by decide +kernel
theorem dX10_trace_11 : decode cX10_trace 11 = .ok (.iconst 0, 1) := by decide +kernel
theorem dX10_trace_12 : decode cX10_trace 12 = .ok (.istore_n 2, 1) := by decide +kernel
theorem dX10_trace_13 : decode cX10_trace 13 = .ok (.iload_n 2, 1) := by decide +kernel
theorem dX10_trace_14 : decode cX10_trace 14 = .ok (.aload_n 0, 1) := by decide +kernel
theorem dX10_trace_15 : decode cX10_trace 15 = .ok (.getfield 177, 3) := by decide +kernel
theorem dX10_trace_18 : decode cX10_trace 18 = .ok (.if_icmp .ge 22, 3) := by decide +kernel
theorem dX10_trace_21 : decode cX10_trace 21 = .ok (.aload_n 0, 1) := by decide +kernel
theorem dX10_trace_22 : decode cX10_trace 22 = .ok (.getfield 35, 3) := by decide +kernel
theorem dX10_trace_25 : decode cX10_trace 25 = .ok (.iload_n 2, 1) := by decide +kernel
theorem dX10_trace_26 : decode cX10_trace 26 = .ok (.iaload, 1) := by decide +kernel
theorem dX10_trace_27 : decode cX10_trace 27 = .ok (.iload_n 1, 1) := by decide +kernel
theorem dX10_trace_28 : decode cX10_trace 28 = .ok (.if_icmp .ne 6, 3) := by decide +kernel
theorem dX10_trace_31 : decode cX10_trace 31 = .ok (.bipush (-4), 2) := by decide +kernel
theorem dX10_trace_33 : decode cX10_trace 33 = .ok (.ireturn, 1) := by decide +kernel
theorem dX10_trace_34 : decode cX10_trace 34 = .ok (.iinc 2 1, 3) := by decide +kernel
theorem dX10_trace_37 : decode cX10_trace 37 = .ok (.goto (-24), 3) := by decide +kernel
theorem dX10_trace_40 : decode cX10_trace 40 = .ok (.aload_n 0, 1) := by decide +kernel
theorem dX10_trace_41 : decode cX10_trace 41 = .ok (.getfield 177, 3) := by decide +kernel
theorem dX10_trace_44 : decode cX10_trace 44 = .ok (.ifCond .le 26, 3) := by decide +kernel
theorem dX10_trace_47 : decode cX10_trace 47 = .ok (.aload_n 0, 1) := by decide +kernel
theorem dX10_trace_48 : decode cX10_trace 48 = .ok (.aload_n 0, 1) := by decide +kernel
theorem dX10_trace_49 : decode cX10_trace 49 = .ok (.getfield 35, 3) := by decide +kernel
theorem dX10_trace_52 : decode cX10_trace 52 = .ok (.aload_n 0, 1) := by decide +kernel
theorem dX10_trace_53 : decode cX10_trace 53 = .ok (.getfield 177, 3) := by decide +kernel
theorem dX10_trace_56 : decode cX10_trace 56 = .ok (.iconst 1, 1) := by decide +kernel
theorem dX10_trace_57 : decode cX10_trace 57 = .ok (.isub, 1) := by decide +kernel
theorem dX10_trace_58 : decode cX10_trace 58 = .ok (.iaload, 1) := by decide +kernel
theorem dX10_trace_59 : decode cX10_trace 59 = .ok (.iload_n 1, 1) := by decide +kernel
theorem dX10_trace_60 : decode cX10_trace 60 = .ok (.invokevirtual 101, 3) := by decide +kernel
theorem dX10_trace_63 : decode cX10_trace 63 = .ok (.iconst (-1), 1) := by decide +kernel
theorem dX10_trace_64 : decode cX10_trace 64 = .ok (.if_icmp .ne 6, 3) := by decide +kernel
theorem dX10_trace_67 : decode cX10_trace 67 = .ok (.bipush (-4), 2) := by decide +kernel
theorem dX10_trace_69 : decode cX10_trace 69 = .ok (.ireturn, 1) := by decide +kernel
theorem dX10_trace_70 : decode cX10_trace 70 = .ok (.aload_n 0, 1) := by decide +kernel
theorem dX10_trace_71 : decode cX10_trace 71 = .ok (.getfield 177, 3) := by decide +kernel
theorem dX10_trace_74 : decode cX10_trace 74 = .ok (.bipush 8, 2) := by decide +kernel
theorem dX10_trace_76 : decode cX10_trace 76 = .ok (.if_icmp .ne 6, 3) := by decide +kernel
theorem dX10_trace_79 : decode cX10_trace 79 = .ok (.bipush (-5), 2) := by decide +kernel
theorem dX10_trace_81 : decode cX10_trace 81 = .ok (.ireturn, 1) := by decide +kernel
theorem dX10_trace_82 : decode cX10_trace 82 = .ok (.aload_n 0, 1) := by decide +kernel
theorem dX10_trace_83 : decode cX10_trace 83 = .ok (.getfield 35, 3) := by decide +kernel
theorem dX10_trace_86 : decode cX10_trace 86 = .ok (.aload_n 0, 1) := by decide +kernel
theorem dX10_trace_87 : decode cX10_trace 87 = .ok (.getfield 177, 3) := by decide +kernel
theorem dX10_trace_90 : decode cX10_trace 90 = .ok (.iload_n 1, 1) := by decide +kernel
theorem dX10_trace_91 : decode cX10_trace 91 = .ok (.iastore, 1) := by decide +kernel
theorem dX10_trace_92 : decode cX10_trace 92 = .ok (.aload_n 0, 1) := by decide +kernel
theorem dX10_trace_93 : decode cX10_trace 93 = .ok (.dup, 1) := by decide +kernel
theorem dX10_trace_94 : decode cX10_trace 94 = .ok (.getfield 177, 3) := by decide +kernel
theorem dX10_trace_97 : decode cX10_trace 97 = .ok (.iconst 1, 1) := by decide +kernel
theorem dX10_trace_98 : decode cX10_trace 98 = .ok (.iadd, 1) := by decide +kernel
theorem dX10_trace_99 : decode cX10_trace 99 = .ok (.putfield 177, 3) := by decide +kernel
theorem dX10_trace_102 : decode cX10_trace 102 = .ok (.aload_n 0, 1) := by decide +kernel
theorem dX10_trace_103 : decode cX10_trace 103 = .ok (.getfield 177, 3) := by decide +kernel
theorem dX10_trace_106 : decode cX10_trace 106 = .ok (.ireturn, 1) := by decide +kernel
theorem dX10_untrace_0 : decode cX10_untrace 0 = .ok (.aload_n 0, 1) := by decide +kernel
theorem dX10_untrace_1 : decode cX10_untrace 1 = .ok (.getfield 177, 3) := by decide +kernel
theorem dX10_untrace_4 : decode cX10_untrace 4 = .ok (.istore_n 1, 1) := by decide +kernel
theorem dX10_untrace_5 : decode cX10_untrace 5 = .ok (.aload_n 0, 1) := by decide +kernel
theorem dX10_untrace_6 : decode cX10_untrace 6 = .ok (.iconst 0, 1) := by decide +kernel
theorem dX10_untrace_7 : decode cX10_untrace 7 = .ok (.putfield 177, 3) := by decide +kernel
theorem dX10_untrace_10 : decode cX10_untrace 10 = .ok (.iload_n 1, 1) := by decide +kernel
theorem dX10_untrace_11 : decode cX10_untrace 11 = .ok (.ireturn, 1) := by decide +kernel
theorem dX10_briefs_0 : decode cX10_briefs 0 = .ok (.aload_n 0, 1) := by decide +kernel
theorem dX10_briefs_1 : decode cX10_briefs 1 = .ok (.getfield 177, 3) := by decide +kernel
theorem dX10_briefs_4 : decode cX10_briefs 4 = .ok (.ifCond .le 38, 3) := by decide +kernel
theorem dX10_briefs_7 : decode cX10_briefs 7 = .ok (.aload_n 0, 1) := by decide +kernel
theorem dX10_briefs_8 : decode cX10_briefs 8 = .ok (.aload_n 0, 1) := by decide +kernel
theorem dX10_briefs_9 : decode cX10_briefs 9 = .ok (.getfield 35, 3) := by decide +kernel
theorem dX10_briefs_12 : decode cX10_briefs 12 = .ok (.aload_n 0, 1) := by decide +kernel
theorem dX10_briefs_13 : decode cX10_briefs 13 = .ok (.getfield 177, 3) := by decide +kernel
theorem dX10_briefs_16 : decode cX10_briefs 16 = .ok (.aload_n 0, 1) := by decide +kernel
theorem dX10_briefs_17 : decode cX10_briefs 17 = .ok (.getfield 23, 3) := by decide +kernel
theorem dX10_briefs_20 : decode cX10_briefs 20 = .ok (.bipush 29, 2) := by decide +kernel
theorem dX10_briefs_22 : decode cX10_briefs 22 = .ok (.aload_n 0, 1) := by decide +kernel
theorem dX10_briefs_23 : decode cX10_briefs 23 = .ok (.getfield 35, 3) := by decide +kernel
theorem dX10_briefs_26 : decode cX10_briefs 26 = .ok (.iconst 0, 1) := by decide +kernel
theorem dX10_briefs_27 : decode cX10_briefs 27 = .ok (.iaload, 1) := by decide +kernel
theorem dX10_briefs_28 : decode cX10_briefs 28 = .ok (.iadd, 1) := by decide +kernel
theorem dX10_briefs_29 : decode cX10_briefs 29 = .ok (.iaload, 1) := by decide +kernel
theorem dX10_briefs_30 : decode cX10_briefs 30 = .ok (.bipush 7, 2) := by decide +kernel
theorem dX10_briefs_32 : decode cX10_briefs 32 = .ok (.invokevirtual 130, 3) := by decide +kernel
theorem dX10_briefs_35 : decode cX10_briefs 35 = .ok (.ifCond .eq 7, 3) := by decide +kernel
theorem dX10_briefs_38 : decode cX10_briefs 38 = .ok (.iconst 1, 1) := by decide +kernel
theorem dX10_briefs_39 : decode cX10_briefs 39 = .ok (.goto 4, 3) := by decide +kernel
theorem dX10_briefs_42 : decode cX10_briefs 42 = .ok (.iconst 0, 1) := by decide +kernel
theorem dX10_briefs_43 : decode cX10_briefs 43 = .ok (.ireturn, 1) := by decide +kernel
theorem dX10_brief_0 : decode cX10_brief 0 = .ok (.iload_n 1, 1) := by decide +kernel
theorem dX10_brief_1 : decode cX10_brief 1 = .ok (.iconst (-1), 1) := by decide +kernel
theorem dX10_brief_2 : decode cX10_brief 2 = .ok (.if_icmp .ge 6, 3) := by decide +kernel
theorem dX10_brief_5 : decode cX10_brief 5 = .ok (.bipush (-3), 2) := by decide +kernel
theorem dX10_brief_7 : decode cX10_brief 7 = .ok (.ireturn, 1) := by decide +kernel
theorem dX10_brief_8 : decode cX10_brief 8 = .ok (.aload_n 0, 1) := by decide +kernel
theorem dX10_brief_9 : decode cX10_brief 9 = .ok (.invokevirtual 262, 3) := by decide +kernel
theorem dX10_brief_12 : decode cX10_brief 12 = .ok (.ifCond .eq 11, 3) := by decide +kernel
theorem dX10_brief_15 : decode cX10_brief 15 = .ok (.aload_n 0, 1) := by decide +kernel
theorem dX10_brief_16 : decode cX10_brief 16 = .ok (.iload_n 1, 1) := by decide +kernel
theorem dX10_brief_17 : decode cX10_brief 17 = .ok (.invokevirtual 259, 3) := by decide +kernel
theorem dX10_brief_20 : decode cX10_brief 20 = .ok (.goto 5, 3) := by decide +kernel
theorem dX10_brief_23 : decode cX10_brief 23 = .ok (.bipush (-4), 2) := by decide +kernel
theorem dX10_brief_25 : decode cX10_brief 25 = .ok (.ireturn, 1) := by decide +kernel
theorem dX10_adopt_0 : decode cX10_adopt 0 = .ok (.aload_n 0, 1) := by decide +kernel
theorem dX10_adopt_1 : decode cX10_adopt 1 = .ok (.invokevirtual 262, 3) := by decide +kernel
theorem dX10_adopt_4 : decode cX10_adopt 4 = .ok (.ifCond .ne 6, 3) := by decide +kernel
theorem dX10_adopt_7 : decode cX10_adopt 7 = .ok (.bipush (-4), 2) := by decide +kernel
theorem dX10_adopt_9 : decode cX10_adopt 9 = .ok (.ireturn, 1) := by decide +kernel
theorem dX10_adopt_10 : decode cX10_adopt 10 = .ok (.aload_n 0, 1) := by decide +kernel
theorem dX10_adopt_11 : decode cX10_adopt 11 = .ok (.aload_n 0, 1) := by decide +kernel
theorem dX10_adopt_12 : decode cX10_adopt 12 = .ok (.getfield 123, 3) := by decide +kernel
theorem dX10_adopt_15 : decode cX10_adopt 15 = .ok (.putfield 174, 3) := by decide +kernel
theorem dX10_adopt_18 : decode cX10_adopt 18 = .ok (.iconst 0, 1) := by decide +kernel
theorem dX10_adopt_19 : decode cX10_adopt 19 = .ok (.istore_n 1, 1) := by decide +kernel
theorem dX10_adopt_20 : decode cX10_adopt 20 = .ok (.iload_n 1, 1) := by decide +kernel
theorem dX10_adopt_21 : decode cX10_adopt 21 = .ok (.aload_n 0, 1) := by decide +kernel
theorem dX10_adopt_22 : decode cX10_adopt 22 = .ok (.getfield 123, 3) := by decide +kernel
theorem dX10_adopt_25 : decode cX10_adopt 25 = .ok (.if_icmp .ge 33, 3) := by decide +kernel
theorem dX10_adopt_28 : decode cX10_adopt 28 = .ok (.aload_n 0, 1) := by decide +kernel
theorem dX10_adopt_29 : decode cX10_adopt 29 = .ok (.getfield 29, 3) := by decide +kernel
theorem dX10_adopt_32 : decode cX10_adopt 32 = .ok (.iload_n 1, 1) := by decide +kernel
theorem dX10_adopt_33 : decode cX10_adopt 33 = .ok (.aload_n 0, 1) := by decide +kernel
theorem dX10_adopt_34 : decode cX10_adopt 34 = .ok (.getfield 50, 3) := by decide +kernel
theorem dX10_adopt_37 : decode cX10_adopt 37 = .ok (.iload_n 1, 1) := by decide +kernel
theorem dX10_adopt_38 : decode cX10_adopt 38 = .ok (.iaload, 1) := by decide +kernel
theorem dX10_adopt_39 : decode cX10_adopt 39 = .ok (.iastore, 1) := by decide +kernel
theorem dX10_adopt_40 : decode cX10_adopt 40 = .ok (.aload_n 0, 1) := by decide +kernel
theorem dX10_adopt_41 : decode cX10_adopt 41 = .ok (.getfield 32, 3) := by decide +kernel
theorem dX10_adopt_44 : decode cX10_adopt 44 = .ok (.iload_n 1, 1) := by decide +kernel
theorem dX10_adopt_45 : decode cX10_adopt 45 = .ok (.aload_n 0, 1) := by decide +kernel
theorem dX10_adopt_46 : decode cX10_adopt 46 = .ok (.getfield 53, 3) := by decide +kernel
theorem dX10_adopt_49 : decode cX10_adopt 49 = .ok (.iload_n 1, 1) := by decide +kernel
theorem dX10_adopt_50 : decode cX10_adopt 50 = .ok (.iaload, 1) := by decide +kernel
theorem dX10_adopt_51 : decode cX10_adopt 51 = .ok (.iastore, 1) := by decide +kernel
theorem dX10_adopt_52 : decode cX10_adopt 52 = .ok (.iinc 1 1, 3) := by decide +kernel
theorem dX10_adopt_55 : decode cX10_adopt 55 = .ok (.goto (-35), 3) := by decide +kernel
theorem dX10_adopt_58 : decode cX10_adopt 58 = .ok (.aload_n 0, 1) := by decide +kernel
theorem dX10_adopt_59 : decode cX10_adopt 59 = .ok (.getfield 174, 3) := by decide +kernel
theorem dX10_adopt_62 : decode cX10_adopt 62 = .ok (.ireturn, 1) := by decide +kernel
theorem dX10_protect_0 : decode cX10_protect 0 = .ok (.iload_n 1, 1) := by decide +kernel
theorem dX10_protect_1 : decode cX10_protect 1 = .ok (.iconst 0, 1) := by decide +kernel
theorem dX10_protect_2 : decode cX10_protect 2 = .ok (.iconst 1, 1) := by decide +kernel
theorem dX10_protect_3 : decode cX10_protect 3 = .ok (.invokestatic 86, 3) := by decide +kernel
theorem dX10_protect_6 : decode cX10_protect 6 = .ok (.ifCond .ne 6, 3) := by decide +kernel
theorem dX10_protect_9 : decode cX10_protect 9 = .ok (.bipush (-3), 2) := by decide +kernel
theorem dX10_protect_11 : decode cX10_protect 11 = .ok (.ireturn, 1) := by decide +kernel
theorem dX10_protect_12 : decode cX10_protect 12 = .ok (.aload_n 0, 1) := by decide +kernel
theorem dX10_protect_13 : decode cX10_protect 13 = .ok (.getfield 180, 3) := by decide +kernel
theorem dX10_protect_16 : decode cX10_protect 16 = .ok (.istore_n 2, 1) := by decide +kernel
theorem dX10_protect_17 : decode cX10_protect 17 = .ok (.aload_n 0, 1) := by decide +kernel
theorem dX10_protect_18 : decode cX10_protect 18 = .ok (.iload_n 1, 1) := by decide +kernel
theorem dX10_protect_19 : decode cX10_protect 19 = .ok (.putfield 180, 3) := by decide +kernel
theorem dX10_protect_22 : decode cX10_protect 22 = .ok (.iload_n 2, 1) := by decide +kernel
theorem dX10_protect_23 : decode cX10_protect 23 = .ok (.ireturn, 1) := by decide +kernel
theorem dX10_bears_0 : decode cX10_bears 0 = .ok (.aload_n 0, 1) := by decide +kernel
theorem dX10_bears_1 : decode cX10_bears 1 = .ok (.getfield 80, 3) := by decide +kernel
theorem dX10_bears_4 : decode cX10_bears 4 = .ok (.aload_n 0, 1) := by decide +kernel
theorem dX10_bears_5 : decode cX10_bears 5 = .ok (.getfield 266, 3) := by decide +kernel
theorem dX10_bears_8 : decode cX10_bears 8 = .ok (.iload_n 1, 1) := by decide +kernel
theorem dX10_bears_9 : decode cX10_bears 9 = .ok (.iastore, 1) := by decide +kernel
theorem dX10_bears_10 : decode cX10_bears 10 = .ok (.aload_n 0, 1) := by decide +kernel
theorem dX10_bears_11 : decode cX10_bears 11 = .ok (.getfield 83, 3) := by decide +kernel
theorem dX10_bears_14 : decode cX10_bears 14 = .ok (.aload_n 0, 1) := by decide +kernel
theorem dX10_bears_15 : decode cX10_bears 15 = .ok (.getfield 266, 3) := by decide +kernel
theorem dX10_bears_18 : decode cX10_bears 18 = .ok (.iload_n 2, 1) := by decide +kernel
theorem dX10_bears_19 : decode cX10_bears 19 = .ok (.iastore, 1) := by decide +kernel
theorem dX10_bears_20 : decode cX10_bears 20 = .ok (.aload_n 0, 1) := by decide +kernel
theorem dX10_bears_21 : decode cX10_bears 21 = .ok (.dup, 1) := by decide +kernel
theorem dX10_bears_22 : decode cX10_bears 22 = .ok (.getfield 266, 3) := by decide +kernel
theorem dX10_bears_25 : decode cX10_bears 25 = .ok (.iconst 1, 1) := by decide +kernel
theorem dX10_bears_26 : decode cX10_bears 26 = .ok (.iadd, 1) := by decide +kernel
theorem dX10_bears_27 : decode cX10_bears 27 = .ok (.putfield 266, 3) := by decide +kernel
theorem dX10_bears_30 : decode cX10_bears 30 = .ok (.return_, 1) := by decide +kernel
theorem dX10_mends_0 : decode cX10_mends 0 = .ok (.aload_n 0, 1) := by decide +kernel
theorem dX10_mends_1 : decode cX10_mends 1 = .ok (.getfield 80, 3) := by decide +kernel
theorem dX10_mends_4 : decode cX10_mends 4 = .ok (.aload_n 0, 1) := by decide +kernel
theorem dX10_mends_5 : decode cX10_mends 5 = .ok (.getfield 266, 3) := by decide +kernel
theorem dX10_mends_8 : decode cX10_mends 8 = .ok (.iconst 1, 1) := by decide +kernel
theorem dX10_mends_9 : decode cX10_mends 9 = .ok (.isub, 1) := by decide +kernel
theorem dX10_mends_10 : decode cX10_mends 10 = .ok (.iaload, 1) := by decide +kernel
theorem dX10_mends_11 : decode cX10_mends 11 = .ok (.istore_n 3, 1) := by decide +kernel
theorem dX10_mends_12 : decode cX10_mends 12 = .ok (.iload_n 3, 1) := by decide +kernel
theorem dX10_mends_13 : decode cX10_mends 13 = .ok (.iconst 2, 1) := by decide +kernel
theorem dX10_mends_14 : decode cX10_mends 14 = .ok (.if_icmp .ne 12, 3) := by decide +kernel
theorem dX10_mends_17 : decode cX10_mends 17 = .ok (.aload_n 0, 1) := by decide +kernel
theorem dX10_mends_18 : decode cX10_mends 18 = .ok (.iload_n 2, 1) := by decide +kernel
theorem dX10_mends_19 : decode cX10_mends 19 = .ok (.iload_n 1, 1) := by decide +kernel
theorem dX10_mends_20 : decode cX10_mends 20 = .ok (.invokevirtual 269, 3) := by decide +kernel
theorem dX10_mends_23 : decode cX10_mends 23 = .ok (.goto 14, 3) := by decide +kernel
theorem dX10_mends_26 : decode cX10_mends 26 = .ok (.aload_n 0, 1) := by decide +kernel
theorem dX10_mends_27 : decode cX10_mends 27 = .ok (.getfield 83, 3) := by decide +kernel
theorem dX10_mends_30 : decode cX10_mends 30 = .ok (.aload_n 0, 1) := by decide +kernel
theorem dX10_mends_31 : decode cX10_mends 31 = .ok (.getfield 266, 3) := by decide +kernel
theorem dX10_mends_34 : decode cX10_mends 34 = .ok (.iconst 1, 1) := by decide +kernel
theorem dX10_mends_35 : decode cX10_mends 35 = .ok (.isub, 1) := by decide +kernel
theorem dX10_mends_36 : decode cX10_mends 36 = .ok (.iaload, 1) := by decide +kernel
theorem dX10_mends_37 : decode cX10_mends 37 = .ok (.istore 4, 2) := by decide +kernel
theorem dX10_mends_39 : decode cX10_mends 39 = .ok (.aload_n 0, 1) := by decide +kernel
theorem dX10_mends_40 : decode cX10_mends 40 = .ok (.getfield 180, 3) := by decide +kernel
theorem dX10_mends_43 : decode cX10_mends 43 = .ok (.ifCond .eq 22, 3) := by decide +kernel
theorem dX10_mends_46 : decode cX10_mends 46 = .ok (.aload_n 0, 1) := by decide +kernel
theorem dX10_mends_47 : decode cX10_mends 47 = .ok (.getfield 218, 3) := by decide +kernel
theorem dX10_mends_50 : decode cX10_mends 50 = .ok (.iconst 1, 1) := by decide +kernel
theorem dX10_mends_51 : decode cX10_mends 51 = .ok (.if_icmp .eq 14, 3) := by decide +kernel
theorem dX10_mends_54 : decode cX10_mends 54 = .ok (.aload_n 0, 1) := by decide +kernel
theorem dX10_mends_55 : decode cX10_mends 55 = .ok (.iload_n 1, 1) := by decide +kernel
theorem dX10_mends_56 : decode cX10_mends 56 = .ok (.iload_n 2, 1) := by decide +kernel
theorem dX10_mends_57 : decode cX10_mends 57 = .ok (.iload 4, 2) := by decide +kernel
theorem dX10_mends_59 : decode cX10_mends 59 = .ok (.invokevirtual 256, 3) := by decide +kernel
theorem dX10_mends_62 : decode cX10_mends 62 = .ok (.ifCond .ne 5, 3) := by decide +kernel
theorem dX10_mends_65 : decode cX10_mends 65 = .ok (.iconst 0, 1) := by decide +kernel
theorem dX10_mends_66 : decode cX10_mends 66 = .ok (.ireturn, 1) := by decide +kernel
theorem dX10_mends_67 : decode cX10_mends 67 = .ok (.aload_n 0, 1) := by decide +kernel
theorem dX10_mends_68 : decode cX10_mends 68 = .ok (.dup, 1) := by decide +kernel
theorem dX10_mends_69 : decode cX10_mends 69 = .ok (.getfield 266, 3) := by decide +kernel
theorem dX10_mends_72 : decode cX10_mends 72 = .ok (.iload_n 3, 1) := by decide +kernel
theorem dX10_mends_73 : decode cX10_mends 73 = .ok (.iconst 2, 1) := by decide +kernel
theorem dX10_mends_74 : decode cX10_mends 74 = .ok (.if_icmp .ne 7, 3) := by decide +kernel
theorem dX10_mends_77 : decode cX10_mends 77 = .ok (.iconst 1, 1) := by decide +kernel
theorem dX10_mends_78 : decode cX10_mends 78 = .ok (.goto 4, 3) := by decide +kernel
theorem dX10_mends_81 : decode cX10_mends 81 = .ok (.iconst 0, 1) := by decide +kernel
theorem dX10_mends_82 : decode cX10_mends 82 = .ok (.isub, 1) := by decide +kernel
theorem dX10_mends_83 : decode cX10_mends 83 = .ok (.putfield 266, 3) := by decide +kernel
theorem dX10_mends_86 : decode cX10_mends 86 = .ok (.aload_n 0, 1) := by decide +kernel
theorem dX10_mends_87 : decode cX10_mends 87 = .ok (.getfield 123, 3) := by decide +kernel
theorem dX10_mends_90 : decode cX10_mends 90 = .ok (.iconst 1, 1) := by decide +kernel
theorem dX10_mends_91 : decode cX10_mends 91 = .ok (.isub, 1) := by decide +kernel
theorem dX10_mends_92 : decode cX10_mends 92 = .ok (.istore 5, 2) := by decide +kernel
theorem dX10_mends_94 : decode cX10_mends 94 = .ok (.iload 5, 2) := by decide +kernel
theorem dX10_mends_96 : decode cX10_mends 96 = .ok (.ifCond .lt 27, 3) := by decide +kernel
theorem dX10_mends_99 : decode cX10_mends 99 = .ok (.aload_n 0, 1) := by decide +kernel
theorem dX10_mends_100 : decode cX10_mends 100 = .ok (.aload_n 0, 1) := by decide +kernel
theorem dX10_mends_101 : decode cX10_mends 101 = .ok (.getfield 50, 3) := by decide +kernel
theorem dX10_mends_104 : decode cX10_mends 104 = .ok (.iload 5, 2) := by decide +kernel
theorem dX10_mends_106 : decode cX10_mends 106 = .ok (.iaload, 1) := by decide +kernel
theorem dX10_mends_107 : decode cX10_mends 107 = .ok (.aload_n 0, 1) := by decide +kernel
theorem dX10_mends_108 : decode cX10_mends 108 = .ok (.getfield 53, 3) := by decide +kernel
theorem dX10_mends_111 : decode cX10_mends 111 = .ok (.iload 5, 2) := by decide +kernel
theorem dX10_mends_113 : decode cX10_mends 113 = .ok (.iaload, 1) := by decide +kernel
theorem dX10_mends_114 : decode cX10_mends 114 = .ok (.invokevirtual 272, 3) := by decide +kernel
theorem dX10_mends_117 : decode cX10_mends 117 = .ok (.iinc 5 (-1), 3) := by decide +kernel
theorem dX10_mends_120 : decode cX10_mends 120 = .ok (.goto (-26), 3) := by decide +kernel
theorem dX10_mends_123 : decode cX10_mends 123 = .ok (.aload_n 0, 1) := by decide +kernel
theorem dX10_mends_124 : decode cX10_mends 124 = .ok (.iconst 1, 1) := by decide +kernel
theorem dX10_mends_125 : decode cX10_mends 125 = .ok (.putfield 218, 3) := by decide +kernel
theorem dX10_mends_128 : decode cX10_mends 128 = .ok (.aload_n 0, 1) := by decide +kernel
theorem dX10_mends_129 : decode cX10_mends 129 = .ok (.dup, 1) := by decide +kernel
theorem dX10_mends_130 : decode cX10_mends 130 = .ok (.getfield 212, 3) := by decide +kernel
theorem dX10_mends_133 : decode cX10_mends 133 = .ok (.iconst 1, 1) := by decide +kernel
theorem dX10_mends_134 : decode cX10_mends 134 = .ok (.iadd, 1) := by decide +kernel
theorem dX10_mends_135 : decode cX10_mends 135 = .ok (.putfield 212, 3) := by decide +kernel
theorem dX10_mends_138 : decode cX10_mends 138 = .ok (.iconst 1, 1) := by decide +kernel
theorem dX10_mends_139 : decode cX10_mends 139 = .ok (.ireturn, 1) := by decide +kernel
theorem dX10_leavesOwn_0 : decode cX10_leavesOwn 0 = .ok (.aload_n 0, 1) := by decide +kernel
theorem dX10_leavesOwn_1 : decode cX10_leavesOwn 1 = .ok (.getfield 266, 3) := by decide +kernel
theorem dX10_leavesOwn_4 : decode cX10_leavesOwn 4 = .ok (.ifCond .le 46, 3) := by decide +kernel
theorem dX10_leavesOwn_7 : decode cX10_leavesOwn 7 = .ok (.aload_n 0, 1) := by decide +kernel
theorem dX10_leavesOwn_8 : decode cX10_leavesOwn 8 = .ok (.getfield 80, 3) := by decide +kernel
theorem dX10_leavesOwn_11 : decode cX10_leavesOwn 11 = .ok (.aload_n 0, 1) := by decide +kernel
theorem dX10_leavesOwn_12 : decode cX10_leavesOwn 12 = .ok (.getfield 266, 3) := by decide +kernel
theorem dX10_leavesOwn_15 : decode cX10_leavesOwn 15 = .ok (.iconst 1, 1) := by decide +kernel
theorem dX10_leavesOwn_16 : decode cX10_leavesOwn 16 = .ok (.isub, 1) := by decide +kernel
theorem dX10_leavesOwn_17 : decode cX10_leavesOwn 17 = .ok (.iaload, 1) := by decide +kernel
theorem dX10_leavesOwn_18 : decode cX10_leavesOwn 18 = .ok (.iconst 2, 1) := by decide +kernel
theorem dX10_leavesOwn_19 : decode cX10_leavesOwn 19 = .ok (.if_icmp .ge 31, 3) := by decide +kernel
theorem dX10_leavesOwn_22 : decode cX10_leavesOwn 22 = .ok (.aload_n 0, 1) := by decide +kernel
theorem dX10_leavesOwn_23 : decode cX10_leavesOwn 23 = .ok (.getfield 83, 3) := by decide +kernel
theorem dX10_leavesOwn_26 : decode cX10_leavesOwn 26 = .ok (.aload_n 0, 1) := by decide +kernel
theorem dX10_leavesOwn_27 : decode cX10_leavesOwn 27 = .ok (.getfield 266, 3) := by decide +kernel
theorem dX10_leavesOwn_30 : decode cX10_leavesOwn 30 = .ok (.iconst 1, 1) := by decide +kernel
theorem dX10_leavesOwn_31 : decode cX10_leavesOwn 31 = .ok (.isub, 1) := by decide +kernel
theorem dX10_leavesOwn_32 : decode cX10_leavesOwn 32 = .ok (.iaload, 1) := by decide +kernel
theorem dX10_leavesOwn_33 : decode cX10_leavesOwn 33 = .ok (.iload_n 1, 1) := by decide +kernel
theorem dX10_leavesOwn_34 : decode cX10_leavesOwn 34 = .ok (.if_icmp .ne 16, 3) := by decide +kernel
theorem dX10_leavesOwn_37 : decode cX10_leavesOwn 37 = .ok (.aload_n 0, 1) := by decide +kernel
theorem dX10_leavesOwn_38 : decode cX10_leavesOwn 38 = .ok (.dup, 1) := by decide +kernel
theorem dX10_leavesOwn_39 : decode cX10_leavesOwn 39 = .ok (.getfield 266, 3) := by decide +kernel
theorem dX10_leavesOwn_42 : decode cX10_leavesOwn 42 = .ok (.iconst 1, 1) := by decide +kernel
theorem dX10_leavesOwn_43 : decode cX10_leavesOwn 43 = .ok (.isub, 1) := by decide +kernel
theorem dX10_leavesOwn_44 : decode cX10_leavesOwn 44 = .ok (.putfield 266, 3) := by decide +kernel
theorem dX10_leavesOwn_47 : decode cX10_leavesOwn 47 = .ok (.goto (-47), 3) := by decide +kernel
theorem dX10_leavesOwn_50 : decode cX10_leavesOwn 50 = .ok (.return_, 1) := by decide +kernel
theorem dX10_linkFrom_0 : decode cX10_linkFrom 0 = .ok (.aload_n 0, 1) := by decide +kernel
theorem dX10_linkFrom_1 : decode cX10_linkFrom 1 = .ok (.getfield 80, 3) := by decide +kernel
theorem dX10_linkFrom_4 : decode cX10_linkFrom 4 = .ok (.aload_n 0, 1) := by decide +kernel
theorem dX10_linkFrom_5 : decode cX10_linkFrom 5 = .ok (.getfield 266, 3) := by decide +kernel
theorem dX10_linkFrom_8 : decode cX10_linkFrom 8 = .ok (.iconst 1, 1) := by decide +kernel
theorem dX10_linkFrom_9 : decode cX10_linkFrom 9 = .ok (.isub, 1) := by decide +kernel
theorem dX10_linkFrom_10 : decode cX10_linkFrom 10 = .ok (.iaload, 1) := by decide +kernel
theorem dX10_linkFrom_11 : decode cX10_linkFrom 11 = .ok (.istore_n 2, 1) := by decide +kernel
theorem dX10_linkFrom_12 : decode cX10_linkFrom 12 = .ok (.aload_n 0, 1) := by decide +kernel
theorem dX10_linkFrom_13 : decode cX10_linkFrom 13 = .ok (.getfield 83, 3) := by decide +kernel
theorem dX10_linkFrom_16 : decode cX10_linkFrom 16 = .ok (.aload_n 0, 1) := by decide +kernel
theorem dX10_linkFrom_17 : decode cX10_linkFrom 17 = .ok (.getfield 266, 3) := by decide +kernel
theorem dX10_linkFrom_20 : decode cX10_linkFrom 20 = .ok (.iconst 1, 1) := by decide +kernel
theorem dX10_linkFrom_21 : decode cX10_linkFrom 21 = .ok (.isub, 1) := by decide +kernel
theorem dX10_linkFrom_22 : decode cX10_linkFrom 22 = .ok (.iaload, 1) := by decide +kernel
theorem dX10_linkFrom_23 : decode cX10_linkFrom 23 = .ok (.istore_n 3, 1) := by decide +kernel
theorem dX10_linkFrom_24 : decode cX10_linkFrom 24 = .ok (.iload_n 2, 1) := by decide +kernel
theorem dX10_linkFrom_25 : decode cX10_linkFrom 25 = .ok (.iconst 2, 1) := by decide +kernel
theorem dX10_linkFrom_26 : decode cX10_linkFrom 26 = .ok (.if_icmp .ne 30, 3) := by decide +kernel
theorem dX10_linkFrom_29 : decode cX10_linkFrom 29 = .ok (.aload_n 0, 1) := by decide +kernel
theorem dX10_linkFrom_30 : decode cX10_linkFrom 30 = .ok (.getfield 13, 3) := by decide +kernel
theorem dX10_linkFrom_33 : decode cX10_linkFrom 33 = .ok (.iload_n 3, 1) := by decide +kernel
theorem dX10_linkFrom_34 : decode cX10_linkFrom 34 = .ok (.iaload, 1) := by decide +kernel
theorem dX10_linkFrom_35 : decode cX10_linkFrom 35 = .ok (.iload_n 1, 1) := by decide +kernel
theorem dX10_linkFrom_36 : decode cX10_linkFrom 36 = .ok (.if_icmp .eq 13, 3) := by decide +kernel
theorem dX10_linkFrom_39 : decode cX10_linkFrom 39 = .ok (.aload_n 0, 1) := by decide +kernel
theorem dX10_linkFrom_40 : decode cX10_linkFrom 40 = .ok (.getfield 17, 3) := by decide +kernel
theorem dX10_linkFrom_43 : decode cX10_linkFrom 43 = .ok (.iload_n 3, 1) := by decide +kernel
theorem dX10_linkFrom_44 : decode cX10_linkFrom 44 = .ok (.iaload, 1) := by decide +kernel
theorem dX10_linkFrom_45 : decode cX10_linkFrom 45 = .ok (.iload_n 1, 1) := by decide +kernel
theorem dX10_linkFrom_46 : decode cX10_linkFrom 46 = .ok (.if_icmp .ne 7, 3) := by decide +kernel
theorem dX10_linkFrom_49 : decode cX10_linkFrom 49 = .ok (.iload_n 3, 1) := by decide +kernel
theorem dX10_linkFrom_50 : decode cX10_linkFrom 50 = .ok (.goto 5, 3) := by decide +kernel
theorem dX10_linkFrom_53 : decode cX10_linkFrom 53 = .ok (.bipush (-13), 2) := by decide +kernel
theorem dX10_linkFrom_55 : decode cX10_linkFrom 55 = .ok (.ireturn, 1) := by decide +kernel
theorem dX10_linkFrom_56 : decode cX10_linkFrom 56 = .ok (.aload_n 0, 1) := by decide +kernel
theorem dX10_linkFrom_57 : decode cX10_linkFrom 57 = .ok (.iload_n 2, 1) := by decide +kernel
theorem dX10_linkFrom_58 : decode cX10_linkFrom 58 = .ok (.aload_n 0, 1) := by decide +kernel
theorem dX10_linkFrom_59 : decode cX10_linkFrom 59 = .ok (.getfield 23, 3) := by decide +kernel
theorem dX10_linkFrom_62 : decode cX10_linkFrom 62 = .ok (.bipush 29, 2) := by decide +kernel
theorem dX10_linkFrom_64 : decode cX10_linkFrom 64 = .ok (.iload_n 1, 1) := by decide +kernel
theorem dX10_linkFrom_65 : decode cX10_linkFrom 65 = .ok (.iadd, 1) := by decide +kernel
theorem dX10_linkFrom_66 : decode cX10_linkFrom 66 = .ok (.iaload, 1) := by decide +kernel
theorem dX10_linkFrom_67 : decode cX10_linkFrom 67 = .ok (.invokevirtual 104, 3) := by decide +kernel
theorem dX10_linkFrom_70 : decode cX10_linkFrom 70 = .ok (.aload_n 0, 1) := by decide +kernel
theorem dX10_linkFrom_71 : decode cX10_linkFrom 71 = .ok (.iload_n 1, 1) := by decide +kernel
theorem dX10_linkFrom_72 : decode cX10_linkFrom 72 = .ok (.iload_n 3, 1) := by decide +kernel
theorem dX10_linkFrom_73 : decode cX10_linkFrom 73 = .ok (.iload_n 2, 1) := by decide +kernel
theorem dX10_linkFrom_74 : decode cX10_linkFrom 74 = .ok (.aload_n 0, 1) := by decide +kernel
theorem dX10_linkFrom_75 : decode cX10_linkFrom 75 = .ok (.getfield 23, 3) := by decide +kernel
theorem dX10_linkFrom_78 : decode cX10_linkFrom 78 = .ok (.bipush 29, 2) := by decide +kernel
theorem dX10_linkFrom_80 : decode cX10_linkFrom 80 = .ok (.iload_n 1, 1) := by decide +kernel
theorem dX10_linkFrom_81 : decode cX10_linkFrom 81 = .ok (.iadd, 1) := by decide +kernel
theorem dX10_linkFrom_82 : decode cX10_linkFrom 82 = .ok (.iaload, 1) := by decide +kernel
theorem dX10_linkFrom_83 : decode cX10_linkFrom 83 = .ok (.invokevirtual 111, 3) := by decide +kernel
theorem dX10_linkFrom_86 : decode cX10_linkFrom 86 = .ok (.istore 4, 2) := by decide +kernel
theorem dX10_linkFrom_88 : decode cX10_linkFrom 88 = .ok (.iload 4, 2) := by decide +kernel
theorem dX10_linkFrom_90 : decode cX10_linkFrom 90 = .ok (.iconst (-1), 1) := by decide +kernel
theorem dX10_linkFrom_91 : decode cX10_linkFrom 91 = .ok (.if_icmp .ne 8, 3) := by decide +kernel
theorem dX10_linkFrom_94 : decode cX10_linkFrom 94 = .ok (.bipush (-11), 2) := by decide +kernel
theorem dX10_linkFrom_96 : decode cX10_linkFrom 96 = .ok (.goto 10, 3) := by decide +kernel
theorem dX10_linkFrom_99 : decode cX10_linkFrom 99 = .ok (.aload_n 0, 1) := by decide +kernel
theorem dX10_linkFrom_100 : decode cX10_linkFrom 100 = .ok (.iload_n 1, 1) := by decide +kernel
theorem dX10_linkFrom_101 : decode cX10_linkFrom 101 = .ok (.iload 4, 2) := by decide +kernel
theorem dX10_linkFrom_103 : decode cX10_linkFrom 103 = .ok (.invokevirtual 101, 3) := by decide +kernel
theorem dX10_linkFrom_106 : decode cX10_linkFrom 106 = .ok (.ireturn, 1) := by decide +kernel
theorem dX10_goesFrom_0 : decode cX10_goesFrom 0 = .ok (.iload_n 1, 1) := by decide +kernel
theorem dX10_goesFrom_1 : decode cX10_goesFrom 1 = .ok (.istore_n 2, 1) := by decide +kernel
theorem dX10_goesFrom_2 : decode cX10_goesFrom 2 = .ok (.aload_n 0, 1) := by decide +kernel
theorem dX10_goesFrom_3 : decode cX10_goesFrom 3 = .ok (.iload_n 2, 1) := by decide +kernel
theorem dX10_goesFrom_4 : decode cX10_goesFrom 4 = .ok (.invokevirtual 274, 3) := by decide +kernel
theorem dX10_goesFrom_7 : decode cX10_goesFrom 7 = .ok (.aload_n 0, 1) := by decide +kernel
theorem dX10_goesFrom_8 : decode cX10_goesFrom 8 = .ok (.getfield 266, 3) := by decide +kernel
theorem dX10_goesFrom_11 : decode cX10_goesFrom 11 = .ok (.ifCond .ne 5, 3) := by decide +kernel
theorem dX10_goesFrom_14 : decode cX10_goesFrom 14 = .ok (.iload_n 2, 1) := by decide +kernel
theorem dX10_goesFrom_15 : decode cX10_goesFrom 15 = .ok (.ireturn, 1) := by decide +kernel
theorem dX10_goesFrom_16 : decode cX10_goesFrom 16 = .ok (.aload_n 0, 1) := by decide +kernel
theorem dX10_goesFrom_17 : decode cX10_goesFrom 17 = .ok (.getfield 74, 3) := by decide +kernel
theorem dX10_goesFrom_20 : decode cX10_goesFrom 20 = .ok (.bipush 20, 2) := by decide +kernel
theorem dX10_goesFrom_22 : decode cX10_goesFrom 22 = .ok (.if_icmp .ne 6, 3) := by decide +kernel
theorem dX10_goesFrom_25 : decode cX10_goesFrom 25 = .ok (.bipush (-14), 2) := by decide +kernel
theorem dX10_goesFrom_27 : decode cX10_goesFrom 27 = .ok (.ireturn, 1) := by decide +kernel
theorem dX10_goesFrom_28 : decode cX10_goesFrom 28 = .ok (.aload_n 0, 1) := by decide +kernel
theorem dX10_goesFrom_29 : decode cX10_goesFrom 29 = .ok (.iload_n 2, 1) := by decide +kernel
theorem dX10_goesFrom_30 : decode cX10_goesFrom 30 = .ok (.invokevirtual 277, 3) := by decide +kernel
theorem dX10_goesFrom_33 : decode cX10_goesFrom 33 = .ok (.istore_n 3, 1) := by decide +kernel
theorem dX10_goesFrom_34 : decode cX10_goesFrom 34 = .ok (.iload_n 3, 1) := by decide +kernel
theorem dX10_goesFrom_35 : decode cX10_goesFrom 35 = .ok (.ifCond .ge 5, 3) := by decide +kernel
theorem dX10_goesFrom_38 : decode cX10_goesFrom 38 = .ok (.iload_n 3, 1) := by decide +kernel
theorem dX10_goesFrom_39 : decode cX10_goesFrom 39 = .ok (.ireturn, 1) := by decide +kernel
theorem dX10_goesFrom_40 : decode cX10_goesFrom 40 = .ok (.aload_n 0, 1) := by decide +kernel
theorem dX10_goesFrom_41 : decode cX10_goesFrom 41 = .ok (.getfield 23, 3) := by decide +kernel
theorem dX10_goesFrom_44 : decode cX10_goesFrom 44 = .ok (.bipush 28, 2) := by decide +kernel
theorem dX10_goesFrom_46 : decode cX10_goesFrom 46 = .ok (.iaload, 1) := by decide +kernel
theorem dX10_goesFrom_47 : decode cX10_goesFrom 47 = .ok (.iload_n 3, 1) := by decide +kernel
theorem dX10_goesFrom_48 : decode cX10_goesFrom 48 = .ok (.invokestatic 93, 3) := by decide +kernel
theorem dX10_goesFrom_51 : decode cX10_goesFrom 51 = .ok (.ifCond .eq 72, 3) := by decide +kernel
theorem dX10_goesFrom_54 : decode cX10_goesFrom 54 = .ok (.aload_n 0, 1) := by decide +kernel
theorem dX10_goesFrom_55 : decode cX10_goesFrom 55 = .ok (.dup, 1) := by decide +kernel
theorem dX10_goesFrom_56 : decode cX10_goesFrom 56 = .ok (.getfield 266, 3) := by decide +kernel
theorem dX10_goesFrom_59 : decode cX10_goesFrom 59 = .ok (.aload_n 0, 1) := by decide +kernel
theorem dX10_goesFrom_60 : decode cX10_goesFrom 60 = .ok (.getfield 80, 3) := by decide +kernel
theorem dX10_goesFrom_63 : decode cX10_goesFrom 63 = .ok (.aload_n 0, 1) := by decide +kernel
theorem dX10_goesFrom_64 : decode cX10_goesFrom 64 = .ok (.getfield 266, 3) := by decide +kernel
theorem dX10_goesFrom_67 : decode cX10_goesFrom 67 = .ok (.iconst 1, 1) := by decide +kernel
theorem dX10_goesFrom_68 : decode cX10_goesFrom 68 = .ok (.isub, 1) := by decide +kernel
theorem dX10_goesFrom_69 : decode cX10_goesFrom 69 = .ok (.iaload, 1) := by decide +kernel
theorem dX10_goesFrom_70 : decode cX10_goesFrom 70 = .ok (.iconst 2, 1) := by decide +kernel
theorem dX10_goesFrom_71 : decode cX10_goesFrom 71 = .ok (.if_icmp .ne 7, 3) := by decide +kernel
theorem dX10_goesFrom_74 : decode cX10_goesFrom 74 = .ok (.iconst 1, 1) := by decide +kernel
theorem dX10_goesFrom_75 : decode cX10_goesFrom 75 = .ok (.goto 4, 3) := by decide +kernel
theorem dX10_goesFrom_78 : decode cX10_goesFrom 78 = .ok (.iconst 0, 1) := by decide +kernel
theorem dX10_goesFrom_79 : decode cX10_goesFrom 79 = .ok (.isub, 1) := by decide +kernel
theorem dX10_goesFrom_80 : decode cX10_goesFrom 80 = .ok (.putfield 266, 3) := by decide +kernel
theorem dX10_goesFrom_83 : decode cX10_goesFrom 83 = .ok (.aload_n 0, 1) := by decide +kernel
theorem dX10_goesFrom_84 : decode cX10_goesFrom 84 = .ok (.getfield 20, 3) := by decide +kernel
theorem dX10_goesFrom_87 : decode cX10_goesFrom 87 = .ok (.iload_n 3, 1) := by decide +kernel
theorem dX10_goesFrom_88 : decode cX10_goesFrom 88 = .ok (.dup2, 1) := by decide +kernel
theorem dX10_goesFrom_89 : decode cX10_goesFrom 89 = .ok (.iaload, 1) := by decide +kernel
theorem dX10_goesFrom_90 : decode cX10_goesFrom 90 = .ok (.iconst 1, 1) := by decide +kernel
theorem dX10_goesFrom_91 : decode cX10_goesFrom 91 = .ok (.iadd, 1) := by decide +kernel
theorem dX10_goesFrom_92 : decode cX10_goesFrom 92 = .ok (.iastore, 1) := by decide +kernel
theorem dX10_goesFrom_93 : decode cX10_goesFrom 93 = .ok (.aload_n 0, 1) := by decide +kernel
theorem dX10_goesFrom_94 : decode cX10_goesFrom 94 = .ok (.dup, 1) := by decide +kernel
theorem dX10_goesFrom_95 : decode cX10_goesFrom 95 = .ok (.getfield 74, 3) := by decide +kernel
theorem dX10_goesFrom_98 : decode cX10_goesFrom 98 = .ok (.iconst 1, 1) := by decide +kernel
theorem dX10_goesFrom_99 : decode cX10_goesFrom 99 = .ok (.iadd, 1) := by decide +kernel
theorem dX10_goesFrom_100 : decode cX10_goesFrom 100 = .ok (.putfield 74, 3) := by decide +kernel
theorem dX10_goesFrom_103 : decode cX10_goesFrom 103 = .ok (.aload_n 0, 1) := by decide +kernel
theorem dX10_goesFrom_104 : decode cX10_goesFrom 104 = .ok (.iload_n 3, 1) := by decide +kernel
theorem dX10_goesFrom_105 : decode cX10_goesFrom 105 = .ok (.iload_n 2, 1) := by decide +kernel
theorem dX10_goesFrom_106 : decode cX10_goesFrom 106 = .ok (.invokevirtual 269, 3) := by decide +kernel
theorem dX10_goesFrom_109 : decode cX10_goesFrom 109 = .ok (.istore_n 2, 1) := by decide +kernel
theorem dX10_goesFrom_110 : decode cX10_goesFrom 110 = .ok (.aload_n 0, 1) := by decide +kernel
theorem dX10_goesFrom_111 : decode cX10_goesFrom 111 = .ok (.getfield 77, 3) := by decide +kernel
theorem dX10_goesFrom_114 : decode cX10_goesFrom 114 = .ok (.aload_n 0, 1) := by decide +kernel
theorem dX10_goesFrom_115 : decode cX10_goesFrom 115 = .ok (.getfield 74, 3) := by decide +kernel
theorem dX10_goesFrom_118 : decode cX10_goesFrom 118 = .ok (.iload_n 2, 1) := by decide +kernel
theorem dX10_goesFrom_119 : decode cX10_goesFrom 119 = .ok (.iastore, 1) := by decide +kernel
theorem dX10_goesFrom_120 : decode cX10_goesFrom 120 = .ok (.goto 15, 3) := by decide +kernel
theorem dX10_goesFrom_123 : decode cX10_goesFrom 123 = .ok (.aload_n 0, 1) := by decide +kernel
theorem dX10_goesFrom_124 : decode cX10_goesFrom 124 = .ok (.iload_n 2, 1) := by decide +kernel
theorem dX10_goesFrom_125 : decode cX10_goesFrom 125 = .ok (.iload_n 3, 1) := by decide +kernel
theorem dX10_goesFrom_126 : decode cX10_goesFrom 126 = .ok (.invokevirtual 280, 3) := by decide +kernel
theorem dX10_goesFrom_129 : decode cX10_goesFrom 129 = .ok (.ifCond .ne 6, 3) := by decide +kernel
theorem dX10_goesFrom_132 : decode cX10_goesFrom 132 = .ok (.bipush (-12), 2) := by decide +kernel
theorem dX10_goesFrom_134 : decode cX10_goesFrom 134 = .ok (.ireturn, 1) := by decide +kernel
theorem dX10_goesFrom_135 : decode cX10_goesFrom 135 = .ok (.goto (-133), 3) := by decide +kernel
theorem dX10_send_0 : decode cX10_send 0 = .ok (.aload_n 0, 1) := by decide +kernel
theorem dX10_send_1 : decode cX10_send 1 = .ok (.iload_n 1, 1) := by decide +kernel
theorem dX10_send_2 : decode cX10_send 2 = .ok (.invokevirtual 234, 3) := by decide +kernel
theorem dX10_send_5 : decode cX10_send 5 = .ok (.ifCond .ne 6, 3) := by decide +kernel
theorem dX10_send_8 : decode cX10_send 8 = .ok (.bipush (-2), 2) := by decide +kernel
theorem dX10_send_10 : decode cX10_send 10 = .ok (.ireturn, 1) := by decide +kernel
theorem dX10_send_11 : decode cX10_send 11 = .ok (.aload_n 0, 1) := by decide +kernel
theorem dX10_send_12 : decode cX10_send 12 = .ok (.dup, 1) := by decide +kernel
theorem dX10_send_13 : decode cX10_send 13 = .ok (.getfield 206, 3) := by decide +kernel
theorem dX10_send_16 : decode cX10_send 16 = .ok (.iconst 1, 1) := by decide +kernel
theorem dX10_send_17 : decode cX10_send 17 = .ok (.iadd, 1) := by decide +kernel
theorem dX10_send_18 : decode cX10_send 18 = .ok (.putfield 206, 3) := by decide +kernel
theorem dX10_send_21 : decode cX10_send 21 = .ok (.aload_n 0, 1) := by decide +kernel
theorem dX10_send_22 : decode cX10_send 22 = .ok (.iconst 0, 1) := by decide +kernel
theorem dX10_send_23 : decode cX10_send 23 = .ok (.putfield 218, 3) := by decide +kernel
theorem dX10_send_26 : decode cX10_send 26 = .ok (.aload_n 0, 1) := by decide +kernel
theorem dX10_send_27 : decode cX10_send 27 = .ok (.iconst 0, 1) := by decide +kernel
theorem dX10_send_28 : decode cX10_send 28 = .ok (.putfield 74, 3) := by decide +kernel
theorem dX10_send_31 : decode cX10_send 31 = .ok (.aload_n 0, 1) := by decide +kernel
theorem dX10_send_32 : decode cX10_send 32 = .ok (.getfield 77, 3) := by decide +kernel
theorem dX10_send_35 : decode cX10_send 35 = .ok (.iconst 0, 1) := by decide +kernel
theorem dX10_send_36 : decode cX10_send 36 = .ok (.iload_n 1, 1) := by decide +kernel
theorem dX10_send_37 : decode cX10_send 37 = .ok (.iastore, 1) := by decide +kernel
theorem dX10_send_38 : decode cX10_send 38 = .ok (.aload_n 0, 1) := by decide +kernel
theorem dX10_send_39 : decode cX10_send 39 = .ok (.iconst 0, 1) := by decide +kernel
theorem dX10_send_40 : decode cX10_send 40 = .ok (.putfield 266, 3) := by decide +kernel
theorem dX10_send_43 : decode cX10_send 43 = .ok (.aload_n 0, 1) := by decide +kernel
theorem dX10_send_44 : decode cX10_send 44 = .ok (.getfield 174, 3) := by decide +kernel
theorem dX10_send_47 : decode cX10_send 47 = .ok (.iconst 1, 1) := by decide +kernel
theorem dX10_send_48 : decode cX10_send 48 = .ok (.isub, 1) := by decide +kernel
theorem dX10_send_49 : decode cX10_send 49 = .ok (.istore_n 2, 1) := by decide +kernel
theorem dX10_send_50 : decode cX10_send 50 = .ok (.iload_n 2, 1) := by decide +kernel
theorem dX10_send_51 : decode cX10_send 51 = .ok (.ifCond .lt 25, 3) := by decide +kernel
theorem dX10_send_54 : decode cX10_send 54 = .ok (.aload_n 0, 1) := by decide +kernel
theorem dX10_send_55 : decode cX10_send 55 = .ok (.aload_n 0, 1) := by decide +kernel
theorem dX10_send_56 : decode cX10_send 56 = .ok (.getfield 29, 3) := by decide +kernel
theorem dX10_send_59 : decode cX10_send 59 = .ok (.iload_n 2, 1) := by decide +kernel
theorem dX10_send_60 : decode cX10_send 60 = .ok (.iaload, 1) := by decide +kernel
theorem dX10_send_61 : decode cX10_send 61 = .ok (.aload_n 0, 1) := by decide +kernel
theorem dX10_send_62 : decode cX10_send 62 = .ok (.getfield 32, 3) := by decide +kernel
theorem dX10_send_65 : decode cX10_send 65 = .ok (.iload_n 2, 1) := by decide +kernel
theorem dX10_send_66 : decode cX10_send 66 = .ok (.iaload, 1) := by decide +kernel
theorem dX10_send_67 : decode cX10_send 67 = .ok (.invokevirtual 272, 3) := by decide +kernel
theorem dX10_send_70 : decode cX10_send 70 = .ok (.iinc 2 (-1), 3) := by decide +kernel
theorem dX10_send_73 : decode cX10_send 73 = .ok (.goto (-23), 3) := by decide +kernel
theorem dX10_send_76 : decode cX10_send 76 = .ok (.aload_n 0, 1) := by decide +kernel
theorem dX10_send_77 : decode cX10_send 77 = .ok (.iload_n 1, 1) := by decide +kernel
theorem dX10_send_78 : decode cX10_send 78 = .ok (.invokevirtual 283, 3) := by decide +kernel
theorem dX10_send_81 : decode cX10_send 81 = .ok (.istore_n 2, 1) := by decide +kernel
theorem dX10_send_82 : decode cX10_send 82 = .ok (.aload_n 0, 1) := by decide +kernel
theorem dX10_send_83 : decode cX10_send 83 = .ok (.dup, 1) := by decide +kernel
theorem dX10_send_84 : decode cX10_send 84 = .ok (.getfield 209, 3) := by decide +kernel
theorem dX10_send_87 : decode cX10_send 87 = .ok (.iload_n 2, 1) := by decide +kernel
theorem dX10_send_88 : decode cX10_send 88 = .ok (.ifCond .lt 7, 3) := by decide +kernel
theorem dX10_send_91 : decode cX10_send 91 = .ok (.iconst 1, 1) := by decide +kernel
theorem dX10_send_92 : decode cX10_send 92 = .ok (.goto 4, 3) := by decide +kernel
theorem dX10_send_95 : decode cX10_send 95 = .ok (.iconst 0, 1) := by decide +kernel
theorem dX10_send_96 : decode cX10_send 96 = .ok (.iadd, 1) := by decide +kernel
theorem dX10_send_97 : decode cX10_send 97 = .ok (.putfield 209, 3) := by decide +kernel
theorem dX10_send_100 : decode cX10_send 100 = .ok (.aload_n 0, 1) := by decide +kernel
theorem dX10_send_101 : decode cX10_send 101 = .ok (.dup, 1) := by decide +kernel
theorem dX10_send_102 : decode cX10_send 102 = .ok (.getfield 215, 3) := by decide +kernel
theorem dX10_send_105 : decode cX10_send 105 = .ok (.iload_n 2, 1) := by decide +kernel
theorem dX10_send_106 : decode cX10_send 106 = .ok (.ifCond .ge 7, 3) := by decide +kernel
theorem dX10_send_109 : decode cX10_send 109 = .ok (.iconst 1, 1) := by decide +kernel
theorem dX10_send_110 : decode cX10_send 110 = .ok (.goto 4, 3) := by decide +kernel
theorem dX10_send_113 : decode cX10_send 113 = .ok (.iconst 0, 1) := by decide +kernel
theorem dX10_send_114 : decode cX10_send 114 = .ok (.iadd, 1) := by decide +kernel
theorem dX10_send_115 : decode cX10_send 115 = .ok (.putfield 215, 3) := by decide +kernel
theorem dX10_send_118 : decode cX10_send 118 = .ok (.iload_n 2, 1) := by decide +kernel
theorem dX10_send_119 : decode cX10_send 119 = .ok (.ireturn, 1) := by decide +kernel
theorem dX10_way_0 : decode cX10_way 0 = .ok (.iload_n 1, 1) := by decide +kernel
theorem dX10_way_1 : decode cX10_way 1 = .ok (.iconst (-1), 1) := by decide +kernel
theorem dX10_way_2 : decode cX10_way 2 = .ok (.if_icmp .ge 6, 3) := by decide +kernel
theorem dX10_way_5 : decode cX10_way 5 = .ok (.bipush (-3), 2) := by decide +kernel
theorem dX10_way_7 : decode cX10_way 7 = .ok (.ireturn, 1) := by decide +kernel
theorem dX10_way_8 : decode cX10_way 8 = .ok (.iload_n 1, 1) := by decide +kernel
theorem dX10_way_9 : decode cX10_way 9 = .ok (.iconst (-1), 1) := by decide +kernel
theorem dX10_way_10 : decode cX10_way 10 = .ok (.if_icmp .ne 10, 3) := by decide +kernel
theorem dX10_way_13 : decode cX10_way 13 = .ok (.aload_n 0, 1) := by decide +kernel
theorem dX10_way_14 : decode cX10_way 14 = .ok (.getfield 74, 3) := by decide +kernel
theorem dX10_way_17 : decode cX10_way 17 = .ok (.goto 21, 3) := by decide +kernel
theorem dX10_way_20 : decode cX10_way 20 = .ok (.iload_n 1, 1) := by decide +kernel
theorem dX10_way_21 : decode cX10_way 21 = .ok (.aload_n 0, 1) := by decide +kernel
theorem dX10_way_22 : decode cX10_way 22 = .ok (.getfield 74, 3) := by decide +kernel
theorem dX10_way_25 : decode cX10_way 25 = .ok (.if_icmp .gt 12, 3) := by decide +kernel
theorem dX10_way_28 : decode cX10_way 28 = .ok (.aload_n 0, 1) := by decide +kernel
theorem dX10_way_29 : decode cX10_way 29 = .ok (.getfield 77, 3) := by decide +kernel
theorem dX10_way_32 : decode cX10_way 32 = .ok (.iload_n 1, 1) := by decide +kernel
theorem dX10_way_33 : decode cX10_way 33 = .ok (.iaload, 1) := by decide +kernel
theorem dX10_way_34 : decode cX10_way 34 = .ok (.goto 4, 3) := by decide +kernel
theorem dX10_way_37 : decode cX10_way 37 = .ok (.iconst (-1), 1) := by decide +kernel
theorem dX10_way_38 : decode cX10_way 38 = .ok (.ireturn, 1) := by decide +kernel
theorem dX10_count_0 : decode cX10_count 0 = .ok (.iload_n 1, 1) := by decide +kernel
theorem dX10_count_1 : decode cX10_count 1 = .ok (.tableswitch 150 0 13 #[71, 76, 81, 92, 100, 105, 110, 115, 120, 125, 130, 135, 140, 145], 71) := by decide +kernel
theorem dX10_count_72 : decode cX10_count 72 = .ok (.aload_n 0, 1) := by decide +kernel
theorem dX10_count_73 : decode cX10_count 73 = .ok (.getfield 7, 3) := by decide +kernel
theorem dX10_count_76 : decode cX10_count 76 = .ok (.ireturn, 1) := by decide +kernel
theorem dX10_count_77 : decode cX10_count 77 = .ok (.aload_n 0, 1) := by decide +kernel
theorem dX10_count_78 : decode cX10_count 78 = .ok (.getfield 90, 3) := by decide +kernel
theorem dX10_count_81 : decode cX10_count 81 = .ok (.ireturn, 1) := by decide +kernel
theorem dX10_count_82 : decode cX10_count 82 = .ok (.aload_n 0, 1) := by decide +kernel
theorem dX10_count_83 : decode cX10_count 83 = .ok (.getfield 23, 3) := by decide +kernel
theorem dX10_count_86 : decode cX10_count 86 = .ok (.bipush 28, 2) := by decide +kernel
theorem dX10_count_88 : decode cX10_count 88 = .ok (.iaload, 1) := by decide +kernel
theorem dX10_count_89 : decode cX10_count 89 = .ok (.invokestatic 227, 3) := by decide +kernel
theorem dX10_count_92 : decode cX10_count 92 = .ok (.ireturn, 1) := by decide +kernel
theorem dX10_count_93 : decode cX10_count 93 = .ok (.aload_n 0, 1) := by decide +kernel
theorem dX10_count_94 : decode cX10_count 94 = .ok (.invokevirtual 249, 3) := by decide +kernel
theorem dX10_count_97 : decode cX10_count 97 = .ok (.invokestatic 227, 3) := by decide +kernel
theorem dX10_count_100 : decode cX10_count 100 = .ok (.ireturn, 1) := by decide +kernel
theorem dX10_count_101 : decode cX10_count 101 = .ok (.aload_n 0, 1) := by decide +kernel
theorem dX10_count_102 : decode cX10_count 102 = .ok (.getfield 174, 3) := by decide +kernel
theorem dX10_count_105 : decode cX10_count 105 = .ok (.ireturn, 1) := by decide +kernel
theorem dX10_count_106 : decode cX10_count 106 = .ok (.aload_n 0, 1) := by decide +kernel
theorem dX10_count_107 : decode cX10_count 107 = .ok (.getfield 177, 3) := by decide +kernel
theorem dX10_count_110 : decode cX10_count 110 = .ok (.ireturn, 1) := by decide +kernel
theorem dX10_count_111 : decode cX10_count 111 = .ok (.aload_n 0, 1) := by decide +kernel
theorem dX10_count_112 : decode cX10_count 112 = .ok (.getfield 180, 3) := by decide +kernel
theorem dX10_count_115 : decode cX10_count 115 = .ok (.ireturn, 1) := by decide +kernel
theorem dX10_count_116 : decode cX10_count 116 = .ok (.aload_n 0, 1) := by decide +kernel
theorem dX10_count_117 : decode cX10_count 117 = .ok (.getfield 206, 3) := by decide +kernel
theorem dX10_count_120 : decode cX10_count 120 = .ok (.ireturn, 1) := by decide +kernel
theorem dX10_count_121 : decode cX10_count 121 = .ok (.aload_n 0, 1) := by decide +kernel
theorem dX10_count_122 : decode cX10_count 122 = .ok (.getfield 209, 3) := by decide +kernel
theorem dX10_count_125 : decode cX10_count 125 = .ok (.ireturn, 1) := by decide +kernel
theorem dX10_count_126 : decode cX10_count 126 = .ok (.aload_n 0, 1) := by decide +kernel
theorem dX10_count_127 : decode cX10_count 127 = .ok (.getfield 212, 3) := by decide +kernel
theorem dX10_count_130 : decode cX10_count 130 = .ok (.ireturn, 1) := by decide +kernel
theorem dX10_count_131 : decode cX10_count 131 = .ok (.aload_n 0, 1) := by decide +kernel
theorem dX10_count_132 : decode cX10_count 132 = .ok (.getfield 215, 3) := by decide +kernel
theorem dX10_count_135 : decode cX10_count 135 = .ok (.ireturn, 1) := by decide +kernel
theorem dX10_count_136 : decode cX10_count 136 = .ok (.aload_n 0, 1) := by decide +kernel
theorem dX10_count_137 : decode cX10_count 137 = .ok (.getfield 203, 3) := by decide +kernel
theorem dX10_count_140 : decode cX10_count 140 = .ok (.ireturn, 1) := by decide +kernel
theorem dX10_count_141 : decode cX10_count 141 = .ok (.aload_n 0, 1) := by decide +kernel
theorem dX10_count_142 : decode cX10_count 142 = .ok (.getfield 134, 3) := by decide +kernel
theorem dX10_count_145 : decode cX10_count 145 = .ok (.ireturn, 1) := by decide +kernel
theorem dX10_count_146 : decode cX10_count 146 = .ok (.aload_n 0, 1) := by decide +kernel
theorem dX10_count_147 : decode cX10_count 147 = .ok (.getfield 218, 3) := by decide +kernel
theorem dX10_count_150 : decode cX10_count 150 = .ok (.ireturn, 1) := by decide +kernel
theorem dX10_count_151 : decode cX10_count 151 = .ok (.bipush (-3), 2) := by decide +kernel
theorem dX10_count_153 : decode cX10_count 153 = .ok (.ireturn, 1) := by decide +kernel
theorem dJ6_bitCount_0f7a4_0 : decode cJ6_bitCount_0f7a4 0 = .ok (.iload_n 0, 1) := by decide +kernel
theorem dJ6_bitCount_0f7a4_1 : decode cJ6_bitCount_0f7a4 1 = .ok (.iload_n 0, 1) := by decide +kernel
theorem dJ6_bitCount_0f7a4_2 : decode cJ6_bitCount_0f7a4 2 = .ok (.iconst 1, 1) := by decide +kernel
theorem dJ6_bitCount_0f7a4_3 : decode cJ6_bitCount_0f7a4 3 = .ok (.iushr, 1) := by decide +kernel
theorem dJ6_bitCount_0f7a4_4 : decode cJ6_bitCount_0f7a4 4 = .ok (.ldc_w 265, 3) := by decide +kernel
theorem dJ6_bitCount_0f7a4_7 : decode cJ6_bitCount_0f7a4 7 = .ok (.iand, 1) := by decide +kernel
theorem dJ6_bitCount_0f7a4_8 : decode cJ6_bitCount_0f7a4 8 = .ok (.isub, 1) := by decide +kernel
theorem dJ6_bitCount_0f7a4_9 : decode cJ6_bitCount_0f7a4 9 = .ok (.istore_n 0, 1) := by decide +kernel
theorem dJ6_bitCount_0f7a4_10 : decode cJ6_bitCount_0f7a4 10 = .ok (.iload_n 0, 1) := by decide +kernel
theorem dJ6_bitCount_0f7a4_11 : decode cJ6_bitCount_0f7a4 11 = .ok (.ldc_w 266, 3) := by decide +kernel
theorem dJ6_bitCount_0f7a4_14 : decode cJ6_bitCount_0f7a4 14 = .ok (.iand, 1) := by decide +kernel
theorem dJ6_bitCount_0f7a4_15 : decode cJ6_bitCount_0f7a4 15 = .ok (.iload_n 0, 1) := by decide +kernel
theorem dJ6_bitCount_0f7a4_16 : decode cJ6_bitCount_0f7a4 16 = .ok (.iconst 2, 1) := by decide +kernel
theorem dJ6_bitCount_0f7a4_17 : decode cJ6_bitCount_0f7a4 17 = .ok (.iushr, 1) := by decide +kernel
theorem dJ6_bitCount_0f7a4_18 : decode cJ6_bitCount_0f7a4 18 = .ok (.ldc_w 266, 3) := by decide +kernel
theorem dJ6_bitCount_0f7a4_21 : decode cJ6_bitCount_0f7a4 21 = .ok (.iand, 1) := by decide +kernel
theorem dJ6_bitCount_0f7a4_22 : decode cJ6_bitCount_0f7a4 22 = .ok (.iadd, 1) := by decide +kernel
theorem dJ6_bitCount_0f7a4_23 : decode cJ6_bitCount_0f7a4 23 = .ok (.istore_n 0, 1) := by decide +kernel
theorem dJ6_bitCount_0f7a4_24 : decode cJ6_bitCount_0f7a4 24 = .ok (.iload_n 0, 1) := by decide +kernel
theorem dJ6_bitCount_0f7a4_25 : decode cJ6_bitCount_0f7a4 25 = .ok (.iload_n 0, 1) := by decide +kernel
theorem dJ6_bitCount_0f7a4_26 : decode cJ6_bitCount_0f7a4 26 = .ok (.iconst 4, 1) := by decide +kernel
theorem dJ6_bitCount_0f7a4_27 : decode cJ6_bitCount_0f7a4 27 = .ok (.iushr, 1) := by decide +kernel
theorem dJ6_bitCount_0f7a4_28 : decode cJ6_bitCount_0f7a4 28 = .ok (.iadd, 1) := by decide +kernel
theorem dJ6_bitCount_0f7a4_29 : decode cJ6_bitCount_0f7a4 29 = .ok (.ldc_w 267, 3) := by decide +kernel
theorem dJ6_bitCount_0f7a4_32 : decode cJ6_bitCount_0f7a4 32 = .ok (.iand, 1) := by decide +kernel
theorem dJ6_bitCount_0f7a4_33 : decode cJ6_bitCount_0f7a4 33 = .ok (.istore_n 0, 1) := by decide +kernel
theorem dJ6_bitCount_0f7a4_34 : decode cJ6_bitCount_0f7a4 34 = .ok (.iload_n 0, 1) := by decide +kernel
theorem dJ6_bitCount_0f7a4_35 : decode cJ6_bitCount_0f7a4 35 = .ok (.iload_n 0, 1) := by decide +kernel
theorem dJ6_bitCount_0f7a4_36 : decode cJ6_bitCount_0f7a4 36 = .ok (.bipush 8, 2) := by decide +kernel
theorem dJ6_bitCount_0f7a4_38 : decode cJ6_bitCount_0f7a4 38 = .ok (.iushr, 1) := by decide +kernel
theorem dJ6_bitCount_0f7a4_39 : decode cJ6_bitCount_0f7a4 39 = .ok (.iadd, 1) := by decide +kernel
theorem dJ6_bitCount_0f7a4_40 : decode cJ6_bitCount_0f7a4 40 = .ok (.istore_n 0, 1) := by decide +kernel
theorem dJ6_bitCount_0f7a4_41 : decode cJ6_bitCount_0f7a4 41 = .ok (.iload_n 0, 1) := by decide +kernel
theorem dJ6_bitCount_0f7a4_42 : decode cJ6_bitCount_0f7a4 42 = .ok (.iload_n 0, 1) := by decide +kernel
theorem dJ6_bitCount_0f7a4_43 : decode cJ6_bitCount_0f7a4 43 = .ok (.bipush 16, 2) := by decide +kernel
theorem dJ6_bitCount_0f7a4_45 : decode cJ6_bitCount_0f7a4 45 = .ok (.iushr, 1) := by decide +kernel
theorem dJ6_bitCount_0f7a4_46 : decode cJ6_bitCount_0f7a4 46 = .ok (.iadd, 1) := by decide +kernel
theorem dJ6_bitCount_0f7a4_47 : decode cJ6_bitCount_0f7a4 47 = .ok (.istore_n 0, 1) := by decide +kernel
theorem dJ6_bitCount_0f7a4_48 : decode cJ6_bitCount_0f7a4 48 = .ok (.iload_n 0, 1) := by decide +kernel
theorem dJ6_bitCount_0f7a4_49 : decode cJ6_bitCount_0f7a4 49 = .ok (.bipush 63, 2) := by decide +kernel
theorem dJ6_bitCount_0f7a4_51 : decode cJ6_bitCount_0f7a4 51 = .ok (.iand, 1) := by decide +kernel
theorem dJ6_bitCount_0f7a4_52 : decode cJ6_bitCount_0f7a4 52 = .ok (.ireturn, 1) := by decide +kernel
theorem dJ13_bitCount_95d88_0 : decode cJ13_bitCount_95d88 0 = .ok (.lload_n 0, 1) := by decide +kernel
theorem dJ13_bitCount_95d88_1 : decode cJ13_bitCount_95d88 1 = .ok (.lload_n 0, 1) := by decide +kernel
theorem dJ13_bitCount_95d88_2 : decode cJ13_bitCount_95d88 2 = .ok (.iconst 1, 1) := by decide +kernel
theorem dJ13_bitCount_95d88_3 : decode cJ13_bitCount_95d88 3 = .ok (.lushr, 1) := by decide +kernel
theorem dJ13_bitCount_95d88_4 : decode cJ13_bitCount_95d88 4 = .ok (.ldc2_w 314, 3) := by decide +kernel
theorem dJ13_bitCount_95d88_7 : decode cJ13_bitCount_95d88 7 = .ok (.land, 1) := by decide +kernel
theorem dJ13_bitCount_95d88_8 : decode cJ13_bitCount_95d88 8 = .ok (.lsub, 1) := by decide +kernel
theorem dJ13_bitCount_95d88_9 : decode cJ13_bitCount_95d88 9 = .ok (.lstore_n 0, 1) := by decide +kernel
theorem dJ13_bitCount_95d88_10 : decode cJ13_bitCount_95d88 10 = .ok (.lload_n 0, 1) := by decide +kernel
theorem dJ13_bitCount_95d88_11 : decode cJ13_bitCount_95d88 11 = .ok (.ldc2_w 316, 3) := by decide +kernel
theorem dJ13_bitCount_95d88_14 : decode cJ13_bitCount_95d88 14 = .ok (.land, 1) := by decide +kernel
theorem dJ13_bitCount_95d88_15 : decode cJ13_bitCount_95d88 15 = .ok (.lload_n 0, 1) := by decide +kernel
theorem dJ13_bitCount_95d88_16 : decode cJ13_bitCount_95d88 16 = .ok (.iconst 2, 1) := by decide +kernel
theorem dJ13_bitCount_95d88_17 : decode cJ13_bitCount_95d88 17 = .ok (.lushr, 1) := by decide +kernel
theorem dJ13_bitCount_95d88_18 : decode cJ13_bitCount_95d88 18 = .ok (.ldc2_w 316, 3) := by decide +kernel
theorem dJ13_bitCount_95d88_21 : decode cJ13_bitCount_95d88 21 = .ok (.land, 1) := by decide +kernel
theorem dJ13_bitCount_95d88_22 : decode cJ13_bitCount_95d88 22 = .ok (.ladd, 1) := by decide +kernel
theorem dJ13_bitCount_95d88_23 : decode cJ13_bitCount_95d88 23 = .ok (.lstore_n 0, 1) := by decide +kernel
theorem dJ13_bitCount_95d88_24 : decode cJ13_bitCount_95d88 24 = .ok (.lload_n 0, 1) := by decide +kernel
theorem dJ13_bitCount_95d88_25 : decode cJ13_bitCount_95d88 25 = .ok (.lload_n 0, 1) := by decide +kernel
theorem dJ13_bitCount_95d88_26 : decode cJ13_bitCount_95d88 26 = .ok (.iconst 4, 1) := by decide +kernel
theorem dJ13_bitCount_95d88_27 : decode cJ13_bitCount_95d88 27 = .ok (.lushr, 1) := by decide +kernel
theorem dJ13_bitCount_95d88_28 : decode cJ13_bitCount_95d88 28 = .ok (.ladd, 1) := by decide +kernel
theorem dJ13_bitCount_95d88_29 : decode cJ13_bitCount_95d88 29 = .ok (.ldc2_w 318, 3) := by decide +kernel
theorem dJ13_bitCount_95d88_32 : decode cJ13_bitCount_95d88 32 = .ok (.land, 1) := by decide +kernel
theorem dJ13_bitCount_95d88_33 : decode cJ13_bitCount_95d88 33 = .ok (.lstore_n 0, 1) := by decide +kernel
theorem dJ13_bitCount_95d88_34 : decode cJ13_bitCount_95d88 34 = .ok (.lload_n 0, 1) := by decide +kernel
theorem dJ13_bitCount_95d88_35 : decode cJ13_bitCount_95d88 35 = .ok (.lload_n 0, 1) := by decide +kernel
theorem dJ13_bitCount_95d88_36 : decode cJ13_bitCount_95d88 36 = .ok (.bipush 8, 2) := by decide +kernel
theorem dJ13_bitCount_95d88_38 : decode cJ13_bitCount_95d88 38 = .ok (.lushr, 1) := by decide +kernel
theorem dJ13_bitCount_95d88_39 : decode cJ13_bitCount_95d88 39 = .ok (.ladd, 1) := by decide +kernel
theorem dJ13_bitCount_95d88_40 : decode cJ13_bitCount_95d88 40 = .ok (.lstore_n 0, 1) := by decide +kernel
theorem dJ13_bitCount_95d88_41 : decode cJ13_bitCount_95d88 41 = .ok (.lload_n 0, 1) := by decide +kernel
theorem dJ13_bitCount_95d88_42 : decode cJ13_bitCount_95d88 42 = .ok (.lload_n 0, 1) := by decide +kernel
theorem dJ13_bitCount_95d88_43 : decode cJ13_bitCount_95d88 43 = .ok (.bipush 16, 2) := by decide +kernel
theorem dJ13_bitCount_95d88_45 : decode cJ13_bitCount_95d88 45 = .ok (.lushr, 1) := by decide +kernel
theorem dJ13_bitCount_95d88_46 : decode cJ13_bitCount_95d88 46 = .ok (.ladd, 1) := by decide +kernel
theorem dJ13_bitCount_95d88_47 : decode cJ13_bitCount_95d88 47 = .ok (.lstore_n 0, 1) := by decide +kernel
theorem dJ13_bitCount_95d88_48 : decode cJ13_bitCount_95d88 48 = .ok (.lload_n 0, 1) := by decide +kernel
theorem dJ13_bitCount_95d88_49 : decode cJ13_bitCount_95d88 49 = .ok (.lload_n 0, 1) := by decide +kernel
theorem dJ13_bitCount_95d88_50 : decode cJ13_bitCount_95d88 50 = .ok (.bipush 32, 2) := by decide +kernel
theorem dJ13_bitCount_95d88_52 : decode cJ13_bitCount_95d88 52 = .ok (.lushr, 1) := by decide +kernel
theorem dJ13_bitCount_95d88_53 : decode cJ13_bitCount_95d88 53 = .ok (.ladd, 1) := by decide +kernel
theorem dJ13_bitCount_95d88_54 : decode cJ13_bitCount_95d88 54 = .ok (.lstore_n 0, 1) := by decide +kernel
theorem dJ13_bitCount_95d88_55 : decode cJ13_bitCount_95d88 55 = .ok (.lload_n 0, 1) := by decide +kernel
theorem dJ13_bitCount_95d88_56 : decode cJ13_bitCount_95d88 56 = .ok (.l2i, 1) := by decide +kernel
theorem dJ13_bitCount_95d88_57 : decode cJ13_bitCount_95d88 57 = .ok (.bipush 127, 2) := by decide +kernel
theorem dJ13_bitCount_95d88_59 : decode cJ13_bitCount_95d88 59 = .ok (.iand, 1) := by decide +kernel
theorem dJ13_bitCount_95d88_60 : decode cJ13_bitCount_95d88 60 = .ok (.ireturn, 1) := by decide +kernel
theorem dJ9_max_7cf53_0 : decode cJ9_max_7cf53 0 = .ok (.iload_n 0, 1) := by decide +kernel
theorem dJ9_max_7cf53_1 : decode cJ9_max_7cf53 1 = .ok (.iload_n 1, 1) := by decide +kernel
theorem dJ9_max_7cf53_2 : decode cJ9_max_7cf53 2 = .ok (.if_icmp .lt 7, 3) := by decide +kernel
theorem dJ9_max_7cf53_5 : decode cJ9_max_7cf53 5 = .ok (.iload_n 0, 1) := by decide +kernel
theorem dJ9_max_7cf53_6 : decode cJ9_max_7cf53 6 = .ok (.goto 4, 3) := by decide +kernel
theorem dJ9_max_7cf53_9 : decode cJ9_max_7cf53 9 = .ok (.iload_n 1, 1) := by decide +kernel
theorem dJ9_max_7cf53_10 : decode cJ9_max_7cf53 10 = .ok (.ireturn, 1) := by decide +kernel
theorem dJ9_min_7cf53_0 : decode cJ9_min_7cf53 0 = .ok (.iload_n 0, 1) := by decide +kernel
theorem dJ9_min_7cf53_1 : decode cJ9_min_7cf53 1 = .ok (.iload_n 1, 1) := by decide +kernel
theorem dJ9_min_7cf53_2 : decode cJ9_min_7cf53 2 = .ok (.if_icmp .gt 7, 3) := by decide +kernel
theorem dJ9_min_7cf53_5 : decode cJ9_min_7cf53 5 = .ok (.iload_n 0, 1) := by decide +kernel
theorem dJ9_min_7cf53_6 : decode cJ9_min_7cf53 6 = .ok (.goto 4, 3) := by decide +kernel
theorem dJ9_min_7cf53_9 : decode cJ9_min_7cf53 9 = .ok (.iload_n 1, 1) := by decide +kernel
theorem dJ9_min_7cf53_10 : decode cJ9_min_7cf53 10 = .ok (.ireturn, 1) := by decide +kernel
theorem dJ0_length_8abf5_0 : decode cJ0_length_8abf5 0 = .ok (.aload_n 0, 1) := by decide +kernel
theorem dJ0_length_8abf5_1 : decode cJ0_length_8abf5 1 = .ok (.getfield 9, 3) := by decide +kernel
theorem dJ0_length_8abf5_4 : decode cJ0_length_8abf5 4 = .ok (.arraylength, 1) := by decide +kernel
theorem dJ0_length_8abf5_5 : decode cJ0_length_8abf5 5 = .ok (.aload_n 0, 1) := by decide +kernel
theorem dJ0_length_8abf5_6 : decode cJ0_length_8abf5 6 = .ok (.invokevirtual 335, 3) := by decide +kernel
theorem dJ0_length_8abf5_9 : decode cJ0_length_8abf5 9 = .ok (.ishr, 1) := by decide +kernel
theorem dJ0_length_8abf5_10 : decode cJ0_length_8abf5 10 = .ok (.ireturn, 1) := by decide +kernel
theorem dJ0_charAt_5068e_0 : decode cJ0_charAt_5068e 0 = .ok (.aload_n 0, 1) := by decide +kernel
theorem dJ0_charAt_5068e_1 : decode cJ0_charAt_5068e 1 = .ok (.invokevirtual 492, 3) := by decide +kernel
theorem dJ0_charAt_5068e_4 : decode cJ0_charAt_5068e 4 = .ok (.ifCond .eq 12, 3) := by decide +kernel
theorem dJ0_charAt_5068e_7 : decode cJ0_charAt_5068e 7 = .ok (.aload_n 0, 1) := by decide +kernel
theorem dJ0_charAt_5068e_8 : decode cJ0_charAt_5068e 8 = .ok (.getfield 9, 3) := by decide +kernel
theorem dJ0_charAt_5068e_11 : decode cJ0_charAt_5068e 11 = .ok (.iload_n 1, 1) := by decide +kernel
theorem dJ0_charAt_5068e_12 : decode cJ0_charAt_5068e 12 = .ok (.invokestatic 495, 3) := by decide +kernel
theorem dJ0_charAt_5068e_15 : decode cJ0_charAt_5068e 15 = .ok (.ireturn, 1) := by decide +kernel
theorem dJ0_charAt_5068e_16 : decode cJ0_charAt_5068e 16 = .ok (.aload_n 0, 1) := by decide +kernel
theorem dJ0_charAt_5068e_17 : decode cJ0_charAt_5068e 17 = .ok (.getfield 9, 3) := by decide +kernel
theorem dJ0_charAt_5068e_20 : decode cJ0_charAt_5068e 20 = .ok (.iload_n 1, 1) := by decide +kernel
theorem dJ0_charAt_5068e_21 : decode cJ0_charAt_5068e 21 = .ok (.invokestatic 498, 3) := by decide +kernel
theorem dJ0_charAt_5068e_24 : decode cJ0_charAt_5068e 24 = .ok (.ireturn, 1) := by decide +kernel
theorem dJ0_coder_7d493_0 : decode cJ0_coder_7d493 0 = .ok (.getstatic 38, 3) := by decide +kernel
theorem dJ0_coder_7d493_3 : decode cJ0_coder_7d493 3 = .ok (.ifCond .eq 10, 3) := by decide +kernel
theorem dJ0_coder_7d493_6 : decode cJ0_coder_7d493 6 = .ok (.aload_n 0, 1) := by decide +kernel
theorem dJ0_coder_7d493_7 : decode cJ0_coder_7d493 7 = .ok (.getfield 15, 3) := by decide +kernel
theorem dJ0_coder_7d493_10 : decode cJ0_coder_7d493 10 = .ok (.goto 4, 3) := by decide +kernel
theorem dJ0_coder_7d493_13 : decode cJ0_coder_7d493 13 = .ok (.iconst 1, 1) := by decide +kernel
theorem dJ0_coder_7d493_14 : decode cJ0_coder_7d493 14 = .ok (.ireturn, 1) := by decide +kernel
theorem dJ0_isLatin1_aae02_0 : decode cJ0_isLatin1_aae02 0 = .ok (.getstatic 38, 3) := by decide +kernel
theorem dJ0_isLatin1_aae02_3 : decode cJ0_isLatin1_aae02 3 = .ok (.ifCond .eq 14, 3) := by decide +kernel
theorem dJ0_isLatin1_aae02_6 : decode cJ0_isLatin1_aae02 6 = .ok (.aload_n 0, 1) := by decide +kernel
theorem dJ0_isLatin1_aae02_7 : decode cJ0_isLatin1_aae02 7 = .ok (.getfield 15, 3) := by decide +kernel
theorem dJ0_isLatin1_aae02_10 : decode cJ0_isLatin1_aae02 10 = .ok (.ifCond .ne 7, 3) := by decide +kernel
theorem dJ0_isLatin1_aae02_13 : decode cJ0_isLatin1_aae02 13 = .ok (.iconst 1, 1) := by decide +kernel
theorem dJ0_isLatin1_aae02_14 : decode cJ0_isLatin1_aae02 14 = .ok (.goto 4, 3) := by decide +kernel
theorem dJ0_isLatin1_aae02_17 : decode cJ0_isLatin1_aae02 17 = .ok (.iconst 0, 1) := by decide +kernel
theorem dJ0_isLatin1_aae02_18 : decode cJ0_isLatin1_aae02 18 = .ok (.ireturn, 1) := by decide +kernel
theorem dJ0_checkIndex_df160_0 : decode cJ0_checkIndex_df160 0 = .ok (.iload_n 0, 1) := by decide +kernel
theorem dJ0_checkIndex_df160_1 : decode cJ0_checkIndex_df160 1 = .ok (.iload_n 1, 1) := by decide +kernel
theorem dJ0_checkIndex_df160_2 : decode cJ0_checkIndex_df160 2 = .ok (.getstatic 1053, 3) := by decide +kernel
theorem dJ0_checkIndex_df160_5 : decode cJ0_checkIndex_df160 5 = .ok (.invokestatic 1059, 3) := by decide +kernel
theorem dJ0_checkIndex_df160_8 : decode cJ0_checkIndex_df160 8 = .ok (.pop, 1) := by decide +kernel
theorem dJ0_checkIndex_df160_9 : decode cJ0_checkIndex_df160 9 = .ok (.return_, 1) := by decide +kernel
theorem dJ1_charAt_3b067_0 : decode cJ1_charAt_3b067 0 = .ok (.iload_n 1, 1) := by decide +kernel
theorem dJ1_charAt_3b067_1 : decode cJ1_charAt_3b067 1 = .ok (.aload_n 0, 1) := by decide +kernel
theorem dJ1_charAt_3b067_2 : decode cJ1_charAt_3b067 2 = .ok (.arraylength, 1) := by decide +kernel
theorem dJ1_charAt_3b067_3 : decode cJ1_charAt_3b067 3 = .ok (.invokestatic 9, 3) := by decide +kernel
theorem dJ1_charAt_3b067_6 : decode cJ1_charAt_3b067 6 = .ok (.aload_n 0, 1) := by decide +kernel
theorem dJ1_charAt_3b067_7 : decode cJ1_charAt_3b067 7 = .ok (.iload_n 1, 1) := by decide +kernel
theorem dJ1_charAt_3b067_8 : decode cJ1_charAt_3b067 8 = .ok (.baload, 1) := by decide +kernel
theorem dJ1_charAt_3b067_9 : decode cJ1_charAt_3b067 9 = .ok (.sipush 255, 3) := by decide +kernel
theorem dJ1_charAt_3b067_12 : decode cJ1_charAt_3b067 12 = .ok (.iand, 1) := by decide +kernel
theorem dJ1_charAt_3b067_13 : decode cJ1_charAt_3b067 13 = .ok (.i2c, 1) := by decide +kernel
theorem dJ1_charAt_3b067_14 : decode cJ1_charAt_3b067 14 = .ok (.ireturn, 1) := by decide +kernel
theorem dJ2_getChar_3b067_0 : decode cJ2_getChar_3b067 0 = .ok (.getstatic 44, 3) := by decide +kernel
theorem dJ2_getChar_3b067_3 : decode cJ2_getChar_3b067 3 = .ok (.ifCond .ne 25, 3) := by decide +kernel
theorem dJ2_getChar_3b067_6 : decode cJ2_getChar_3b067 6 = .ok (.iload_n 1, 1) := by decide +kernel
theorem dJ2_getChar_3b067_7 : decode cJ2_getChar_3b067 7 = .ok (.ifCond .lt 11, 3) := by decide +kernel
theorem dJ2_getChar_3b067_10 : decode cJ2_getChar_3b067 10 = .ok (.iload_n 1, 1) := by decide +kernel
theorem dJ2_getChar_3b067_11 : decode cJ2_getChar_3b067 11 = .ok (.aload_n 0, 1) := by decide +kernel
theorem dJ2_getChar_3b067_12 : decode cJ2_getChar_3b067 12 = .ok (.invokestatic 48, 3) := by decide +kernel
theorem dJ2_getChar_3b067_15 : decode cJ2_getChar_3b067 15 = .ok (.if_icmp .lt 13, 3) := by decide +kernel
theorem dJ2_getChar_3b067_18 : decode cJ2_getChar_3b067 18 = .ok (.new 52, 3) := by decide +kernel
theorem dJ2_getChar_3b067_21 : decode cJ2_getChar_3b067 21 = .ok (.dup, 1) := by decide +kernel
theorem dJ2_getChar_3b067_22 : decode cJ2_getChar_3b067 22 = .ok (.ldc 54, 2) := by decide +kernel
theorem dJ2_getChar_3b067_24 : decode cJ2_getChar_3b067 24 = .ok (.invokespecial 56, 3) := by decide +kernel
theorem dJ2_getChar_3b067_27 : decode cJ2_getChar_3b067 27 = .ok (.athrow, 1) := by decide +kernel
theorem dJ2_getChar_3b067_28 : decode cJ2_getChar_3b067 28 = .ok (.iload_n 1, 1) := by decide +kernel
theorem dJ2_getChar_3b067_29 : decode cJ2_getChar_3b067 29 = .ok (.iconst 1, 1) := by decide +kernel
theorem dJ2_getChar_3b067_30 : decode cJ2_getChar_3b067 30 = .ok (.ishl, 1) := by decide +kernel
theorem dJ2_getChar_3b067_31 : decode cJ2_getChar_3b067 31 = .ok (.istore_n 1, 1) := by decide +kernel
theorem dJ2_getChar_3b067_32 : decode cJ2_getChar_3b067 32 = .ok (.aload_n 0, 1) := by decide +kernel
theorem dJ2_getChar_3b067_33 : decode cJ2_getChar_3b067 33 = .ok (.iload_n 1, 1) := by decide +kernel
theorem dJ2_getChar_3b067_34 : decode cJ2_getChar_3b067 34 = .ok (.iinc 1 1, 3) := by decide +kernel
theorem dJ2_getChar_3b067_37 : decode cJ2_getChar_3b067 37 = .ok (.baload, 1) := by decide +kernel
theorem dJ2_getChar_3b067_38 : decode cJ2_getChar_3b067 38 = .ok (.sipush 255, 3) := by decide +kernel
theorem dJ2_getChar_3b067_41 : decode cJ2_getChar_3b067 41 = .ok (.iand, 1) := by decide +kernel
theorem dJ2_getChar_3b067_42 : decode cJ2_getChar_3b067 42 = .ok (.getstatic 59, 3) := by decide +kernel
theorem dJ2_getChar_3b067_45 : decode cJ2_getChar_3b067 45 = .ok (.ishl, 1) := by decide +kernel
theorem dJ2_getChar_3b067_46 : decode cJ2_getChar_3b067 46 = .ok (.aload_n 0, 1) := by decide +kernel
theorem dJ2_getChar_3b067_47 : decode cJ2_getChar_3b067 47 = .ok (.iload_n 1, 1) := by decide +kernel
theorem dJ2_getChar_3b067_48 : decode cJ2_getChar_3b067 48 = .ok (.baload, 1) := by decide +kernel
theorem dJ2_getChar_3b067_49 : decode cJ2_getChar_3b067 49 = .ok (.sipush 255, 3) := by decide +kernel
theorem dJ2_getChar_3b067_52 : decode cJ2_getChar_3b067 52 = .ok (.iand, 1) := by decide +kernel
theorem dJ2_getChar_3b067_53 : decode cJ2_getChar_3b067 53 = .ok (.getstatic 63, 3) := by decide +kernel
theorem dJ2_getChar_3b067_56 : decode cJ2_getChar_3b067 56 = .ok (.ishl, 1) := by decide +kernel
theorem dJ2_getChar_3b067_57 : decode cJ2_getChar_3b067 57 = .ok (.ior, 1) := by decide +kernel
theorem dJ2_getChar_3b067_58 : decode cJ2_getChar_3b067 58 = .ok (.i2c, 1) := by decide +kernel
theorem dJ2_getChar_3b067_59 : decode cJ2_getChar_3b067 59 = .ok (.ireturn, 1) := by decide +kernel
theorem dJ2_length_9d52b_0 : decode cJ2_length_9d52b 0 = .ok (.aload_n 0, 1) := by decide +kernel
theorem dJ2_length_9d52b_1 : decode cJ2_length_9d52b 1 = .ok (.arraylength, 1) := by decide +kernel
theorem dJ2_length_9d52b_2 : decode cJ2_length_9d52b 2 = .ok (.iconst 1, 1) := by decide +kernel
theorem dJ2_length_9d52b_3 : decode cJ2_length_9d52b 3 = .ok (.ishr, 1) := by decide +kernel
theorem dJ2_length_9d52b_4 : decode cJ2_length_9d52b 4 = .ok (.ireturn, 1) := by decide +kernel
theorem dJ2_charAt_3b067_0 : decode cJ2_charAt_3b067 0 = .ok (.iload_n 1, 1) := by decide +kernel
theorem dJ2_charAt_3b067_1 : decode cJ2_charAt_3b067 1 = .ok (.aload_n 0, 1) := by decide +kernel
theorem dJ2_charAt_3b067_2 : decode cJ2_charAt_3b067 2 = .ok (.invokestatic 67, 3) := by decide +kernel
theorem dJ2_charAt_3b067_5 : decode cJ2_charAt_3b067 5 = .ok (.aload_n 0, 1) := by decide +kernel
theorem dJ2_charAt_3b067_6 : decode cJ2_charAt_3b067 6 = .ok (.iload_n 1, 1) := by decide +kernel
theorem dJ2_charAt_3b067_7 : decode cJ2_charAt_3b067 7 = .ok (.invokestatic 71, 3) := by decide +kernel
theorem dJ2_charAt_3b067_10 : decode cJ2_charAt_3b067 10 = .ok (.ireturn, 1) := by decide +kernel
theorem dJ2_checkIndex_2214a_0 : decode cJ2_checkIndex_2214a 0 = .ok (.iload_n 0, 1) := by decide +kernel
theorem dJ2_checkIndex_2214a_1 : decode cJ2_checkIndex_2214a 1 = .ok (.aload_n 1, 1) := by decide +kernel
theorem dJ2_checkIndex_2214a_2 : decode cJ2_checkIndex_2214a 2 = .ok (.invokestatic 48, 3) := by decide +kernel
theorem dJ2_checkIndex_2214a_5 : decode cJ2_checkIndex_2214a 5 = .ok (.invokestatic 414, 3) := by decide +kernel
theorem dJ2_checkIndex_2214a_8 : decode cJ2_checkIndex_2214a 8 = .ok (.return_, 1) := by decide +kernel
theorem dJ7_fill_53178_0 : decode cJ7_fill_53178 0 = .ok (.iconst 0, 1) := by decide +kernel
theorem dJ7_fill_53178_1 : decode cJ7_fill_53178 1 = .ok (.istore_n 2, 1) := by decide +kernel
theorem dJ7_fill_53178_2 : decode cJ7_fill_53178 2 = .ok (.aload_n 0, 1) := by decide +kernel
theorem dJ7_fill_53178_3 : decode cJ7_fill_53178 3 = .ok (.arraylength, 1) := by decide +kernel
theorem dJ7_fill_53178_4 : decode cJ7_fill_53178 4 = .ok (.istore_n 3, 1) := by decide +kernel
theorem dJ7_fill_53178_5 : decode cJ7_fill_53178 5 = .ok (.iload_n 2, 1) := by decide +kernel
theorem dJ7_fill_53178_6 : decode cJ7_fill_53178 6 = .ok (.iload_n 3, 1) := by decide +kernel
theorem dJ7_fill_53178_7 : decode cJ7_fill_53178 7 = .ok (.if_icmp .ge 13, 3) := by decide +kernel
theorem dJ7_fill_53178_10 : decode cJ7_fill_53178 10 = .ok (.aload_n 0, 1) := by decide +kernel
theorem dJ7_fill_53178_11 : decode cJ7_fill_53178 11 = .ok (.iload_n 2, 1) := by decide +kernel
theorem dJ7_fill_53178_12 : decode cJ7_fill_53178 12 = .ok (.iload_n 1, 1) := by decide +kernel
theorem dJ7_fill_53178_13 : decode cJ7_fill_53178 13 = .ok (.iastore, 1) := by decide +kernel
theorem dJ7_fill_53178_14 : decode cJ7_fill_53178 14 = .ok (.iinc 2 1, 3) := by decide +kernel
theorem dJ7_fill_53178_17 : decode cJ7_fill_53178 17 = .ok (.goto (-12), 3) := by decide +kernel
theorem dJ7_fill_53178_20 : decode cJ7_fill_53178 20 = .ok (.return_, 1) := by decide +kernel
theorem dJ3_checkIndex_8e157_0 : decode cJ3_checkIndex_8e157 0 = .ok (.iload_n 0, 1) := by decide +kernel
theorem dJ3_checkIndex_8e157_1 : decode cJ3_checkIndex_8e157 1 = .ok (.ifCond .lt 8, 3) := by decide +kernel
theorem dJ3_checkIndex_8e157_4 : decode cJ3_checkIndex_8e157 4 = .ok (.iload_n 0, 1) := by decide +kernel
theorem dJ3_checkIndex_8e157_5 : decode cJ3_checkIndex_8e157 5 = .ok (.iload_n 1, 1) := by decide +kernel
theorem dJ3_checkIndex_8e157_6 : decode cJ3_checkIndex_8e157 6 = .ok (.if_icmp .lt 10, 3) := by decide +kernel
theorem dJ3_checkIndex_8e157_9 : decode cJ3_checkIndex_8e157 9 = .ok (.aload_n 2, 1) := by decide +kernel
theorem dJ3_checkIndex_8e157_10 : decode cJ3_checkIndex_8e157 10 = .ok (.iload_n 0, 1) := by decide +kernel
theorem dJ3_checkIndex_8e157_11 : decode cJ3_checkIndex_8e157 11 = .ok (.iload_n 1, 1) := by decide +kernel
theorem dJ3_checkIndex_8e157_12 : decode cJ3_checkIndex_8e157 12 = .ok (.invokestatic 95, 3) := by decide +kernel
theorem dJ3_checkIndex_8e157_15 : decode cJ3_checkIndex_8e157 15 = .ok (.athrow, 1) := by decide +kernel
theorem dJ3_checkIndex_8e157_16 : decode cJ3_checkIndex_8e157 16 = .ok (.iload_n 0, 1) := by decide +kernel
theorem dJ3_checkIndex_8e157_17 : decode cJ3_checkIndex_8e157 17 = .ok (.ireturn, 1) := by decide +kernel
theorem dL_law_0 : decode cL_law 0 = .ok (.new 7, 3) := by decide +kernel
theorem dL_law_3 : decode cL_law 3 = .ok (.dup, 1) := by decide +kernel
theorem dL_law_4 : decode cL_law 4 = .ok (.invokespecial 9, 3) := by decide +kernel
theorem dL_law_7 : decode cL_law 7 = .ok (.astore_n 1, 1) := by decide +kernel
theorem dL_law_8 : decode cL_law 8 = .ok (.new 10, 3) := by decide +kernel
theorem dL_law_11 : decode cL_law 11 = .ok (.dup, 1) := by decide +kernel
theorem dL_law_12 : decode cL_law 12 = .ok (.invokespecial 12, 3) := by decide +kernel
theorem dL_law_15 : decode cL_law 15 = .ok (.astore_n 2, 1) := by decide +kernel
theorem dL_law_16 : decode cL_law 16 = .ok (.iconst 0, 1) := by decide +kernel
theorem dL_law_17 : decode cL_law 17 = .ok (.istore_n 3, 1) := by decide +kernel
theorem dL_law_18 : decode cL_law 18 = .ok (.iload_n 3, 1) := by decide +kernel
theorem dL_law_19 : decode cL_law 19 = .ok (.aload_n 0, 1) := by decide +kernel
theorem dL_law_20 : decode cL_law 20 = .ok (.arraylength, 1) := by decide +kernel
theorem dL_law_21 : decode cL_law 21 = .ok (.iconst 5, 1) := by decide +kernel
theorem dL_law_22 : decode cL_law 22 = .ok (.isub, 1) := by decide +kernel
theorem dL_law_23 : decode cL_law 23 = .ok (.if_icmp .gt 884, 3) := by decide +kernel
theorem dL_law_26 : decode cL_law 26 = .ok (.aload_n 0, 1) := by decide +kernel
theorem dL_law_27 : decode cL_law 27 = .ok (.iload_n 3, 1) := by decide +kernel
theorem dL_law_28 : decode cL_law 28 = .ok (.iaload, 1) := by decide +kernel
theorem dL_law_29 : decode cL_law 29 = .ok (.bipush 31, 2) := by decide +kernel
theorem dL_law_31 : decode cL_law 31 = .ok (.iand, 1) := by decide +kernel
theorem dL_law_32 : decode cL_law 32 = .ok (.tableswitch 869 0 28 #[132, 155, 168, 181, 194, 227, 250, 273, 316, 339, 352, 375, 418, 461, 504, 527, 550, 573, 606, 619, 652, 705, 728, 741, 764, 777, 800, 823, 846], 132) := by decide +kernel
theorem dL_law_164 : decode cL_law 164 = .ok (.aload_n 1, 1) := by decide +kernel
theorem dL_law_165 : decode cL_law 165 = .ok (.aload_n 0, 1) := by decide +kernel
theorem dL_law_166 : decode cL_law 166 = .ok (.iload_n 3, 1) := by decide +kernel
theorem dL_law_167 : decode cL_law 167 = .ok (.iconst 1, 1) := by decide +kernel
theorem dL_law_168 : decode cL_law 168 = .ok (.iadd, 1) := by decide +kernel
theorem dL_law_169 : decode cL_law 169 = .ok (.iaload, 1) := by decide +kernel
theorem dL_law_170 : decode cL_law 170 = .ok (.invokevirtual 13, 3) := by decide +kernel
theorem dL_law_173 : decode cL_law 173 = .ok (.aload_n 2, 1) := by decide +kernel
theorem dL_law_174 : decode cL_law 174 = .ok (.aload_n 0, 1) := by decide +kernel
theorem dL_law_175 : decode cL_law 175 = .ok (.iload_n 3, 1) := by decide +kernel
theorem dL_law_176 : decode cL_law 176 = .ok (.iconst 1, 1) := by decide +kernel
theorem dL_law_177 : decode cL_law 177 = .ok (.iadd, 1) := by decide +kernel
theorem dL_law_178 : decode cL_law 178 = .ok (.iaload, 1) := by decide +kernel
theorem dL_law_179 : decode cL_law 179 = .ok (.invokevirtual 17, 3) := by decide +kernel
theorem dL_law_182 : decode cL_law 182 = .ok (.if_icmp .eq 719, 3) := by decide +kernel
theorem dL_law_185 : decode cL_law 185 = .ok (.iconst 0, 1) := by decide +kernel
theorem dL_law_186 : decode cL_law 186 = .ok (.ireturn, 1) := by decide +kernel
theorem dL_law_187 : decode cL_law 187 = .ok (.aload_n 1, 1) := by decide +kernel
theorem dL_law_188 : decode cL_law 188 = .ok (.invokevirtual 18, 3) := by decide +kernel
theorem dL_law_191 : decode cL_law 191 = .ok (.aload_n 2, 1) := by decide +kernel
theorem dL_law_192 : decode cL_law 192 = .ok (.invokevirtual 22, 3) := by decide +kernel
theorem dL_law_195 : decode cL_law 195 = .ok (.if_icmp .eq 706, 3) := by decide +kernel
theorem dL_law_198 : decode cL_law 198 = .ok (.iconst 0, 1) := by decide +kernel
theorem dL_law_199 : decode cL_law 199 = .ok (.ireturn, 1) := by decide +kernel
theorem dL_law_200 : decode cL_law 200 = .ok (.aload_n 1, 1) := by decide +kernel
theorem dL_law_201 : decode cL_law 201 = .ok (.invokevirtual 23, 3) := by decide +kernel
theorem dL_law_204 : decode cL_law 204 = .ok (.aload_n 2, 1) := by decide +kernel
theorem dL_law_205 : decode cL_law 205 = .ok (.invokevirtual 26, 3) := by decide +kernel
theorem dL_law_208 : decode cL_law 208 = .ok (.if_icmp .eq 693, 3) := by decide +kernel
theorem dL_law_211 : decode cL_law 211 = .ok (.iconst 0, 1) := by decide +kernel
theorem dL_law_212 : decode cL_law 212 = .ok (.ireturn, 1) := by decide +kernel
theorem dL_law_213 : decode cL_law 213 = .ok (.aload_n 1, 1) := by decide +kernel
theorem dL_law_214 : decode cL_law 214 = .ok (.invokevirtual 27, 3) := by decide +kernel
theorem dL_law_217 : decode cL_law 217 = .ok (.aload_n 2, 1) := by decide +kernel
theorem dL_law_218 : decode cL_law 218 = .ok (.invokevirtual 30, 3) := by decide +kernel
theorem dL_law_221 : decode cL_law 221 = .ok (.if_icmp .eq 680, 3) := by decide +kernel
theorem dL_law_224 : decode cL_law 224 = .ok (.iconst 0, 1) := by decide +kernel
theorem dL_law_225 : decode cL_law 225 = .ok (.ireturn, 1) := by decide +kernel
theorem dL_law_226 : decode cL_law 226 = .ok (.aload_n 1, 1) := by decide +kernel
theorem dL_law_227 : decode cL_law 227 = .ok (.aload_n 0, 1) := by decide +kernel
theorem dL_law_228 : decode cL_law 228 = .ok (.iload_n 3, 1) := by decide +kernel
theorem dL_law_229 : decode cL_law 229 = .ok (.iconst 1, 1) := by decide +kernel
theorem dL_law_230 : decode cL_law 230 = .ok (.iadd, 1) := by decide +kernel
theorem dL_law_231 : decode cL_law 231 = .ok (.iaload, 1) := by decide +kernel
theorem dL_law_232 : decode cL_law 232 = .ok (.aload_n 0, 1) := by decide +kernel
theorem dL_law_233 : decode cL_law 233 = .ok (.iload_n 3, 1) := by decide +kernel
theorem dL_law_234 : decode cL_law 234 = .ok (.iconst 2, 1) := by decide +kernel
theorem dL_law_235 : decode cL_law 235 = .ok (.iadd, 1) := by decide +kernel
theorem dL_law_236 : decode cL_law 236 = .ok (.iaload, 1) := by decide +kernel
theorem dL_law_237 : decode cL_law 237 = .ok (.invokevirtual 31, 3) := by decide +kernel
theorem dL_law_240 : decode cL_law 240 = .ok (.aload_n 2, 1) := by decide +kernel
theorem dL_law_241 : decode cL_law 241 = .ok (.aload_n 0, 1) := by decide +kernel
theorem dL_law_242 : decode cL_law 242 = .ok (.iload_n 3, 1) := by decide +kernel
theorem dL_law_243 : decode cL_law 243 = .ok (.iconst 1, 1) := by decide +kernel
theorem dL_law_244 : decode cL_law 244 = .ok (.iadd, 1) := by decide +kernel
theorem dL_law_245 : decode cL_law 245 = .ok (.iaload, 1) := by decide +kernel
theorem dL_law_246 : decode cL_law 246 = .ok (.aload_n 0, 1) := by decide +kernel
theorem dL_law_247 : decode cL_law 247 = .ok (.iload_n 3, 1) := by decide +kernel
theorem dL_law_248 : decode cL_law 248 = .ok (.iconst 2, 1) := by decide +kernel
theorem dL_law_249 : decode cL_law 249 = .ok (.iadd, 1) := by decide +kernel
theorem dL_law_250 : decode cL_law 250 = .ok (.iaload, 1) := by decide +kernel
theorem dL_law_251 : decode cL_law 251 = .ok (.invokevirtual 35, 3) := by decide +kernel
theorem dL_law_254 : decode cL_law 254 = .ok (.if_icmp .eq 647, 3) := by decide +kernel
theorem dL_law_257 : decode cL_law 257 = .ok (.iconst 0, 1) := by decide +kernel
theorem dL_law_258 : decode cL_law 258 = .ok (.ireturn, 1) := by decide +kernel
theorem dL_law_259 : decode cL_law 259 = .ok (.aload_n 1, 1) := by decide +kernel
theorem dL_law_260 : decode cL_law 260 = .ok (.aload_n 0, 1) := by decide +kernel
theorem dL_law_261 : decode cL_law 261 = .ok (.iload_n 3, 1) := by decide +kernel
theorem dL_law_262 : decode cL_law 262 = .ok (.iconst 1, 1) := by decide +kernel
theorem dL_law_263 : decode cL_law 263 = .ok (.iadd, 1) := by decide +kernel
theorem dL_law_264 : decode cL_law 264 = .ok (.iaload, 1) := by decide +kernel
theorem dL_law_265 : decode cL_law 265 = .ok (.invokevirtual 36, 3) := by decide +kernel
theorem dL_law_268 : decode cL_law 268 = .ok (.aload_n 2, 1) := by decide +kernel
theorem dL_law_269 : decode cL_law 269 = .ok (.aload_n 0, 1) := by decide +kernel
theorem dL_law_270 : decode cL_law 270 = .ok (.iload_n 3, 1) := by decide +kernel
theorem dL_law_271 : decode cL_law 271 = .ok (.iconst 1, 1) := by decide +kernel
theorem dL_law_272 : decode cL_law 272 = .ok (.iadd, 1) := by decide +kernel
theorem dL_law_273 : decode cL_law 273 = .ok (.iaload, 1) := by decide +kernel
theorem dL_law_274 : decode cL_law 274 = .ok (.invokevirtual 39, 3) := by decide +kernel
theorem dL_law_277 : decode cL_law 277 = .ok (.if_icmp .eq 624, 3) := by decide +kernel
theorem dL_law_280 : decode cL_law 280 = .ok (.iconst 0, 1) := by decide +kernel
theorem dL_law_281 : decode cL_law 281 = .ok (.ireturn, 1) := by decide +kernel
theorem dL_law_282 : decode cL_law 282 = .ok (.aload_n 1, 1) := by decide +kernel
theorem dL_law_283 : decode cL_law 283 = .ok (.aload_n 0, 1) := by decide +kernel
theorem dL_law_284 : decode cL_law 284 = .ok (.iload_n 3, 1) := by decide +kernel
theorem dL_law_285 : decode cL_law 285 = .ok (.iconst 1, 1) := by decide +kernel
theorem dL_law_286 : decode cL_law 286 = .ok (.iadd, 1) := by decide +kernel
theorem dL_law_287 : decode cL_law 287 = .ok (.iaload, 1) := by decide +kernel
theorem dL_law_288 : decode cL_law 288 = .ok (.invokevirtual 40, 3) := by decide +kernel
theorem dL_law_291 : decode cL_law 291 = .ok (.aload_n 2, 1) := by decide +kernel
theorem dL_law_292 : decode cL_law 292 = .ok (.aload_n 0, 1) := by decide +kernel
theorem dL_law_293 : decode cL_law 293 = .ok (.iload_n 3, 1) := by decide +kernel
theorem dL_law_294 : decode cL_law 294 = .ok (.iconst 1, 1) := by decide +kernel
theorem dL_law_295 : decode cL_law 295 = .ok (.iadd, 1) := by decide +kernel
theorem dL_law_296 : decode cL_law 296 = .ok (.iaload, 1) := by decide +kernel
theorem dL_law_297 : decode cL_law 297 = .ok (.invokevirtual 43, 3) := by decide +kernel
theorem dL_law_300 : decode cL_law 300 = .ok (.if_icmp .eq 601, 3) := by decide +kernel
theorem dL_law_303 : decode cL_law 303 = .ok (.iconst 0, 1) := by decide +kernel
theorem dL_law_304 : decode cL_law 304 = .ok (.ireturn, 1) := by decide +kernel
theorem dL_law_305 : decode cL_law 305 = .ok (.aload_n 1, 1) := by decide +kernel
theorem dL_law_306 : decode cL_law 306 = .ok (.aload_n 0, 1) := by decide +kernel
theorem dL_law_307 : decode cL_law 307 = .ok (.iload_n 3, 1) := by decide +kernel
theorem dL_law_308 : decode cL_law 308 = .ok (.iconst 1, 1) := by decide +kernel
theorem dL_law_309 : decode cL_law 309 = .ok (.iadd, 1) := by decide +kernel
theorem dL_law_310 : decode cL_law 310 = .ok (.iaload, 1) := by decide +kernel
theorem dL_law_311 : decode cL_law 311 = .ok (.aload_n 0, 1) := by decide +kernel
theorem dL_law_312 : decode cL_law 312 = .ok (.iload_n 3, 1) := by decide +kernel
theorem dL_law_313 : decode cL_law 313 = .ok (.iconst 2, 1) := by decide +kernel
theorem dL_law_314 : decode cL_law 314 = .ok (.iadd, 1) := by decide +kernel
theorem dL_law_315 : decode cL_law 315 = .ok (.iaload, 1) := by decide +kernel
theorem dL_law_316 : decode cL_law 316 = .ok (.aload_n 0, 1) := by decide +kernel
theorem dL_law_317 : decode cL_law 317 = .ok (.iload_n 3, 1) := by decide +kernel
theorem dL_law_318 : decode cL_law 318 = .ok (.iconst 3, 1) := by decide +kernel
theorem dL_law_319 : decode cL_law 319 = .ok (.iadd, 1) := by decide +kernel
theorem dL_law_320 : decode cL_law 320 = .ok (.iaload, 1) := by decide +kernel
theorem dL_law_321 : decode cL_law 321 = .ok (.invokevirtual 44, 3) := by decide +kernel
theorem dL_law_324 : decode cL_law 324 = .ok (.aload_n 2, 1) := by decide +kernel
theorem dL_law_325 : decode cL_law 325 = .ok (.aload_n 0, 1) := by decide +kernel
theorem dL_law_326 : decode cL_law 326 = .ok (.iload_n 3, 1) := by decide +kernel
theorem dL_law_327 : decode cL_law 327 = .ok (.iconst 1, 1) := by decide +kernel
theorem dL_law_328 : decode cL_law 328 = .ok (.iadd, 1) := by decide +kernel
theorem dL_law_329 : decode cL_law 329 = .ok (.iaload, 1) := by decide +kernel
theorem dL_law_330 : decode cL_law 330 = .ok (.aload_n 0, 1) := by decide +kernel
theorem dL_law_331 : decode cL_law 331 = .ok (.iload_n 3, 1) := by decide +kernel
theorem dL_law_332 : decode cL_law 332 = .ok (.iconst 2, 1) := by decide +kernel
theorem dL_law_333 : decode cL_law 333 = .ok (.iadd, 1) := by decide +kernel
theorem dL_law_334 : decode cL_law 334 = .ok (.iaload, 1) := by decide +kernel
theorem dL_law_335 : decode cL_law 335 = .ok (.aload_n 0, 1) := by decide +kernel
theorem dL_law_336 : decode cL_law 336 = .ok (.iload_n 3, 1) := by decide +kernel
theorem dL_law_337 : decode cL_law 337 = .ok (.iconst 3, 1) := by decide +kernel
theorem dL_law_338 : decode cL_law 338 = .ok (.iadd, 1) := by decide +kernel
theorem dL_law_339 : decode cL_law 339 = .ok (.iaload, 1) := by decide +kernel
theorem dL_law_340 : decode cL_law 340 = .ok (.invokevirtual 48, 3) := by decide +kernel
theorem dL_law_343 : decode cL_law 343 = .ok (.if_icmp .eq 558, 3) := by decide +kernel
theorem dL_law_346 : decode cL_law 346 = .ok (.iconst 0, 1) := by decide +kernel
theorem dL_law_347 : decode cL_law 347 = .ok (.ireturn, 1) := by decide +kernel
theorem dL_law_348 : decode cL_law 348 = .ok (.aload_n 1, 1) := by decide +kernel
theorem dL_law_349 : decode cL_law 349 = .ok (.aload_n 0, 1) := by decide +kernel
theorem dL_law_350 : decode cL_law 350 = .ok (.iload_n 3, 1) := by decide +kernel
theorem dL_law_351 : decode cL_law 351 = .ok (.iconst 1, 1) := by decide +kernel
theorem dL_law_352 : decode cL_law 352 = .ok (.iadd, 1) := by decide +kernel
theorem dL_law_353 : decode cL_law 353 = .ok (.iaload, 1) := by decide +kernel
theorem dL_law_354 : decode cL_law 354 = .ok (.invokevirtual 49, 3) := by decide +kernel
theorem dL_law_357 : decode cL_law 357 = .ok (.aload_n 2, 1) := by decide +kernel
theorem dL_law_358 : decode cL_law 358 = .ok (.aload_n 0, 1) := by decide +kernel
theorem dL_law_359 : decode cL_law 359 = .ok (.iload_n 3, 1) := by decide +kernel
theorem dL_law_360 : decode cL_law 360 = .ok (.iconst 1, 1) := by decide +kernel
theorem dL_law_361 : decode cL_law 361 = .ok (.iadd, 1) := by decide +kernel
theorem dL_law_362 : decode cL_law 362 = .ok (.iaload, 1) := by decide +kernel
theorem dL_law_363 : decode cL_law 363 = .ok (.invokevirtual 52, 3) := by decide +kernel
theorem dL_law_366 : decode cL_law 366 = .ok (.if_icmp .eq 535, 3) := by decide +kernel
theorem dL_law_369 : decode cL_law 369 = .ok (.iconst 0, 1) := by decide +kernel
theorem dL_law_370 : decode cL_law 370 = .ok (.ireturn, 1) := by decide +kernel
theorem dL_law_371 : decode cL_law 371 = .ok (.aload_n 1, 1) := by decide +kernel
theorem dL_law_372 : decode cL_law 372 = .ok (.invokevirtual 53, 3) := by decide +kernel
theorem dL_law_375 : decode cL_law 375 = .ok (.aload_n 2, 1) := by decide +kernel
theorem dL_law_376 : decode cL_law 376 = .ok (.invokevirtual 56, 3) := by decide +kernel
theorem dL_law_379 : decode cL_law 379 = .ok (.if_icmp .eq 522, 3) := by decide +kernel
theorem dL_law_382 : decode cL_law 382 = .ok (.iconst 0, 1) := by decide +kernel
theorem dL_law_383 : decode cL_law 383 = .ok (.ireturn, 1) := by decide +kernel
theorem dL_law_384 : decode cL_law 384 = .ok (.aload_n 1, 1) := by decide +kernel
theorem dL_law_385 : decode cL_law 385 = .ok (.aload_n 0, 1) := by decide +kernel
theorem dL_law_386 : decode cL_law 386 = .ok (.iload_n 3, 1) := by decide +kernel
theorem dL_law_387 : decode cL_law 387 = .ok (.iconst 1, 1) := by decide +kernel
theorem dL_law_388 : decode cL_law 388 = .ok (.iadd, 1) := by decide +kernel
theorem dL_law_389 : decode cL_law 389 = .ok (.iaload, 1) := by decide +kernel
theorem dL_law_390 : decode cL_law 390 = .ok (.invokevirtual 57, 3) := by decide +kernel
theorem dL_law_393 : decode cL_law 393 = .ok (.aload_n 2, 1) := by decide +kernel
theorem dL_law_394 : decode cL_law 394 = .ok (.aload_n 0, 1) := by decide +kernel
theorem dL_law_395 : decode cL_law 395 = .ok (.iload_n 3, 1) := by decide +kernel
theorem dL_law_396 : decode cL_law 396 = .ok (.iconst 1, 1) := by decide +kernel
theorem dL_law_397 : decode cL_law 397 = .ok (.iadd, 1) := by decide +kernel
theorem dL_law_398 : decode cL_law 398 = .ok (.iaload, 1) := by decide +kernel
theorem dL_law_399 : decode cL_law 399 = .ok (.invokevirtual 60, 3) := by decide +kernel
theorem dL_law_402 : decode cL_law 402 = .ok (.if_icmp .eq 499, 3) := by decide +kernel
theorem dL_law_405 : decode cL_law 405 = .ok (.iconst 0, 1) := by decide +kernel
theorem dL_law_406 : decode cL_law 406 = .ok (.ireturn, 1) := by decide +kernel
theorem dL_law_407 : decode cL_law 407 = .ok (.aload_n 1, 1) := by decide +kernel
theorem dL_law_408 : decode cL_law 408 = .ok (.aload_n 0, 1) := by decide +kernel
theorem dL_law_409 : decode cL_law 409 = .ok (.iload_n 3, 1) := by decide +kernel
theorem dL_law_410 : decode cL_law 410 = .ok (.iconst 1, 1) := by decide +kernel
theorem dL_law_411 : decode cL_law 411 = .ok (.iadd, 1) := by decide +kernel
theorem dL_law_412 : decode cL_law 412 = .ok (.iaload, 1) := by decide +kernel
theorem dL_law_413 : decode cL_law 413 = .ok (.aload_n 0, 1) := by decide +kernel
theorem dL_law_414 : decode cL_law 414 = .ok (.iload_n 3, 1) := by decide +kernel
theorem dL_law_415 : decode cL_law 415 = .ok (.iconst 2, 1) := by decide +kernel
theorem dL_law_416 : decode cL_law 416 = .ok (.iadd, 1) := by decide +kernel
theorem dL_law_417 : decode cL_law 417 = .ok (.iaload, 1) := by decide +kernel
theorem dL_law_418 : decode cL_law 418 = .ok (.aload_n 0, 1) := by decide +kernel
theorem dL_law_419 : decode cL_law 419 = .ok (.iload_n 3, 1) := by decide +kernel
theorem dL_law_420 : decode cL_law 420 = .ok (.iconst 3, 1) := by decide +kernel
theorem dL_law_421 : decode cL_law 421 = .ok (.iadd, 1) := by decide +kernel
theorem dL_law_422 : decode cL_law 422 = .ok (.iaload, 1) := by decide +kernel
theorem dL_law_423 : decode cL_law 423 = .ok (.invokevirtual 61, 3) := by decide +kernel
theorem dL_law_426 : decode cL_law 426 = .ok (.aload_n 2, 1) := by decide +kernel
theorem dL_law_427 : decode cL_law 427 = .ok (.aload_n 0, 1) := by decide +kernel
theorem dL_law_428 : decode cL_law 428 = .ok (.iload_n 3, 1) := by decide +kernel
theorem dL_law_429 : decode cL_law 429 = .ok (.iconst 1, 1) := by decide +kernel
theorem dL_law_430 : decode cL_law 430 = .ok (.iadd, 1) := by decide +kernel
theorem dL_law_431 : decode cL_law 431 = .ok (.iaload, 1) := by decide +kernel
theorem dL_law_432 : decode cL_law 432 = .ok (.aload_n 0, 1) := by decide +kernel
theorem dL_law_433 : decode cL_law 433 = .ok (.iload_n 3, 1) := by decide +kernel
theorem dL_law_434 : decode cL_law 434 = .ok (.iconst 2, 1) := by decide +kernel
theorem dL_law_435 : decode cL_law 435 = .ok (.iadd, 1) := by decide +kernel
theorem dL_law_436 : decode cL_law 436 = .ok (.iaload, 1) := by decide +kernel
theorem dL_law_437 : decode cL_law 437 = .ok (.aload_n 0, 1) := by decide +kernel
theorem dL_law_438 : decode cL_law 438 = .ok (.iload_n 3, 1) := by decide +kernel
theorem dL_law_439 : decode cL_law 439 = .ok (.iconst 3, 1) := by decide +kernel
theorem dL_law_440 : decode cL_law 440 = .ok (.iadd, 1) := by decide +kernel
theorem dL_law_441 : decode cL_law 441 = .ok (.iaload, 1) := by decide +kernel
theorem dL_law_442 : decode cL_law 442 = .ok (.invokevirtual 64, 3) := by decide +kernel
theorem dL_law_445 : decode cL_law 445 = .ok (.if_icmp .eq 456, 3) := by decide +kernel
theorem dL_law_448 : decode cL_law 448 = .ok (.iconst 0, 1) := by decide +kernel
theorem dL_law_449 : decode cL_law 449 = .ok (.ireturn, 1) := by decide +kernel
theorem dL_law_450 : decode cL_law 450 = .ok (.aload_n 1, 1) := by decide +kernel
theorem dL_law_451 : decode cL_law 451 = .ok (.aload_n 0, 1) := by decide +kernel
theorem dL_law_452 : decode cL_law 452 = .ok (.iload_n 3, 1) := by decide +kernel
theorem dL_law_453 : decode cL_law 453 = .ok (.iconst 1, 1) := by decide +kernel
theorem dL_law_454 : decode cL_law 454 = .ok (.iadd, 1) := by decide +kernel
theorem dL_law_455 : decode cL_law 455 = .ok (.iaload, 1) := by decide +kernel
theorem dL_law_456 : decode cL_law 456 = .ok (.aload_n 0, 1) := by decide +kernel
theorem dL_law_457 : decode cL_law 457 = .ok (.iload_n 3, 1) := by decide +kernel
theorem dL_law_458 : decode cL_law 458 = .ok (.iconst 2, 1) := by decide +kernel
theorem dL_law_459 : decode cL_law 459 = .ok (.iadd, 1) := by decide +kernel
theorem dL_law_460 : decode cL_law 460 = .ok (.iaload, 1) := by decide +kernel
theorem dL_law_461 : decode cL_law 461 = .ok (.aload_n 0, 1) := by decide +kernel
theorem dL_law_462 : decode cL_law 462 = .ok (.iload_n 3, 1) := by decide +kernel
theorem dL_law_463 : decode cL_law 463 = .ok (.iconst 3, 1) := by decide +kernel
theorem dL_law_464 : decode cL_law 464 = .ok (.iadd, 1) := by decide +kernel
theorem dL_law_465 : decode cL_law 465 = .ok (.iaload, 1) := by decide +kernel
theorem dL_law_466 : decode cL_law 466 = .ok (.invokevirtual 65, 3) := by decide +kernel
theorem dL_law_469 : decode cL_law 469 = .ok (.aload_n 2, 1) := by decide +kernel
theorem dL_law_470 : decode cL_law 470 = .ok (.aload_n 0, 1) := by decide +kernel
theorem dL_law_471 : decode cL_law 471 = .ok (.iload_n 3, 1) := by decide +kernel
theorem dL_law_472 : decode cL_law 472 = .ok (.iconst 1, 1) := by decide +kernel
theorem dL_law_473 : decode cL_law 473 = .ok (.iadd, 1) := by decide +kernel
theorem dL_law_474 : decode cL_law 474 = .ok (.iaload, 1) := by decide +kernel
theorem dL_law_475 : decode cL_law 475 = .ok (.aload_n 0, 1) := by decide +kernel
theorem dL_law_476 : decode cL_law 476 = .ok (.iload_n 3, 1) := by decide +kernel
theorem dL_law_477 : decode cL_law 477 = .ok (.iconst 2, 1) := by decide +kernel
theorem dL_law_478 : decode cL_law 478 = .ok (.iadd, 1) := by decide +kernel
theorem dL_law_479 : decode cL_law 479 = .ok (.iaload, 1) := by decide +kernel
theorem dL_law_480 : decode cL_law 480 = .ok (.aload_n 0, 1) := by decide +kernel
theorem dL_law_481 : decode cL_law 481 = .ok (.iload_n 3, 1) := by decide +kernel
theorem dL_law_482 : decode cL_law 482 = .ok (.iconst 3, 1) := by decide +kernel
theorem dL_law_483 : decode cL_law 483 = .ok (.iadd, 1) := by decide +kernel
theorem dL_law_484 : decode cL_law 484 = .ok (.iaload, 1) := by decide +kernel
theorem dL_law_485 : decode cL_law 485 = .ok (.invokevirtual 68, 3) := by decide +kernel
theorem dL_law_488 : decode cL_law 488 = .ok (.if_icmp .eq 413, 3) := by decide +kernel
theorem dL_law_491 : decode cL_law 491 = .ok (.iconst 0, 1) := by decide +kernel
theorem dL_law_492 : decode cL_law 492 = .ok (.ireturn, 1) := by decide +kernel
theorem dL_law_493 : decode cL_law 493 = .ok (.aload_n 1, 1) := by decide +kernel
theorem dL_law_494 : decode cL_law 494 = .ok (.aload_n 0, 1) := by decide +kernel
theorem dL_law_495 : decode cL_law 495 = .ok (.iload_n 3, 1) := by decide +kernel
theorem dL_law_496 : decode cL_law 496 = .ok (.iconst 1, 1) := by decide +kernel
theorem dL_law_497 : decode cL_law 497 = .ok (.iadd, 1) := by decide +kernel
theorem dL_law_498 : decode cL_law 498 = .ok (.iaload, 1) := by decide +kernel
theorem dL_law_499 : decode cL_law 499 = .ok (.aload_n 0, 1) := by decide +kernel
theorem dL_law_500 : decode cL_law 500 = .ok (.iload_n 3, 1) := by decide +kernel
theorem dL_law_501 : decode cL_law 501 = .ok (.iconst 2, 1) := by decide +kernel
theorem dL_law_502 : decode cL_law 502 = .ok (.iadd, 1) := by decide +kernel
theorem dL_law_503 : decode cL_law 503 = .ok (.iaload, 1) := by decide +kernel
theorem dL_law_504 : decode cL_law 504 = .ok (.aload_n 0, 1) := by decide +kernel
theorem dL_law_505 : decode cL_law 505 = .ok (.iload_n 3, 1) := by decide +kernel
theorem dL_law_506 : decode cL_law 506 = .ok (.iconst 3, 1) := by decide +kernel
theorem dL_law_507 : decode cL_law 507 = .ok (.iadd, 1) := by decide +kernel
theorem dL_law_508 : decode cL_law 508 = .ok (.iaload, 1) := by decide +kernel
theorem dL_law_509 : decode cL_law 509 = .ok (.invokevirtual 69, 3) := by decide +kernel
theorem dL_law_512 : decode cL_law 512 = .ok (.aload_n 2, 1) := by decide +kernel
theorem dL_law_513 : decode cL_law 513 = .ok (.aload_n 0, 1) := by decide +kernel
theorem dL_law_514 : decode cL_law 514 = .ok (.iload_n 3, 1) := by decide +kernel
theorem dL_law_515 : decode cL_law 515 = .ok (.iconst 1, 1) := by decide +kernel
theorem dL_law_516 : decode cL_law 516 = .ok (.iadd, 1) := by decide +kernel
theorem dL_law_517 : decode cL_law 517 = .ok (.iaload, 1) := by decide +kernel
theorem dL_law_518 : decode cL_law 518 = .ok (.aload_n 0, 1) := by decide +kernel
theorem dL_law_519 : decode cL_law 519 = .ok (.iload_n 3, 1) := by decide +kernel
theorem dL_law_520 : decode cL_law 520 = .ok (.iconst 2, 1) := by decide +kernel
theorem dL_law_521 : decode cL_law 521 = .ok (.iadd, 1) := by decide +kernel
theorem dL_law_522 : decode cL_law 522 = .ok (.iaload, 1) := by decide +kernel
theorem dL_law_523 : decode cL_law 523 = .ok (.aload_n 0, 1) := by decide +kernel
theorem dL_law_524 : decode cL_law 524 = .ok (.iload_n 3, 1) := by decide +kernel
theorem dL_law_525 : decode cL_law 525 = .ok (.iconst 3, 1) := by decide +kernel
theorem dL_law_526 : decode cL_law 526 = .ok (.iadd, 1) := by decide +kernel
theorem dL_law_527 : decode cL_law 527 = .ok (.iaload, 1) := by decide +kernel
theorem dL_law_528 : decode cL_law 528 = .ok (.invokevirtual 72, 3) := by decide +kernel
theorem dL_law_531 : decode cL_law 531 = .ok (.if_icmp .eq 370, 3) := by decide +kernel
theorem dL_law_534 : decode cL_law 534 = .ok (.iconst 0, 1) := by decide +kernel
theorem dL_law_535 : decode cL_law 535 = .ok (.ireturn, 1) := by decide +kernel
theorem dL_law_536 : decode cL_law 536 = .ok (.aload_n 1, 1) := by decide +kernel
theorem dL_law_537 : decode cL_law 537 = .ok (.aload_n 0, 1) := by decide +kernel
theorem dL_law_538 : decode cL_law 538 = .ok (.iload_n 3, 1) := by decide +kernel
theorem dL_law_539 : decode cL_law 539 = .ok (.iconst 1, 1) := by decide +kernel
theorem dL_law_540 : decode cL_law 540 = .ok (.iadd, 1) := by decide +kernel
theorem dL_law_541 : decode cL_law 541 = .ok (.iaload, 1) := by decide +kernel
theorem dL_law_542 : decode cL_law 542 = .ok (.invokevirtual 73, 3) := by decide +kernel
theorem dL_law_545 : decode cL_law 545 = .ok (.aload_n 2, 1) := by decide +kernel
theorem dL_law_546 : decode cL_law 546 = .ok (.aload_n 0, 1) := by decide +kernel
theorem dL_law_547 : decode cL_law 547 = .ok (.iload_n 3, 1) := by decide +kernel
theorem dL_law_548 : decode cL_law 548 = .ok (.iconst 1, 1) := by decide +kernel
theorem dL_law_549 : decode cL_law 549 = .ok (.iadd, 1) := by decide +kernel
theorem dL_law_550 : decode cL_law 550 = .ok (.iaload, 1) := by decide +kernel
theorem dL_law_551 : decode cL_law 551 = .ok (.invokevirtual 76, 3) := by decide +kernel
theorem dL_law_554 : decode cL_law 554 = .ok (.if_icmp .eq 347, 3) := by decide +kernel
theorem dL_law_557 : decode cL_law 557 = .ok (.iconst 0, 1) := by decide +kernel
theorem dL_law_558 : decode cL_law 558 = .ok (.ireturn, 1) := by decide +kernel
theorem dL_law_559 : decode cL_law 559 = .ok (.aload_n 1, 1) := by decide +kernel
theorem dL_law_560 : decode cL_law 560 = .ok (.aload_n 0, 1) := by decide +kernel
theorem dL_law_561 : decode cL_law 561 = .ok (.iload_n 3, 1) := by decide +kernel
theorem dL_law_562 : decode cL_law 562 = .ok (.iconst 1, 1) := by decide +kernel
theorem dL_law_563 : decode cL_law 563 = .ok (.iadd, 1) := by decide +kernel
theorem dL_law_564 : decode cL_law 564 = .ok (.iaload, 1) := by decide +kernel
theorem dL_law_565 : decode cL_law 565 = .ok (.invokevirtual 77, 3) := by decide +kernel
theorem dL_law_568 : decode cL_law 568 = .ok (.aload_n 2, 1) := by decide +kernel
theorem dL_law_569 : decode cL_law 569 = .ok (.aload_n 0, 1) := by decide +kernel
theorem dL_law_570 : decode cL_law 570 = .ok (.iload_n 3, 1) := by decide +kernel
theorem dL_law_571 : decode cL_law 571 = .ok (.iconst 1, 1) := by decide +kernel
theorem dL_law_572 : decode cL_law 572 = .ok (.iadd, 1) := by decide +kernel
theorem dL_law_573 : decode cL_law 573 = .ok (.iaload, 1) := by decide +kernel
theorem dL_law_574 : decode cL_law 574 = .ok (.invokevirtual 80, 3) := by decide +kernel
theorem dL_law_577 : decode cL_law 577 = .ok (.if_icmp .eq 324, 3) := by decide +kernel
theorem dL_law_580 : decode cL_law 580 = .ok (.iconst 0, 1) := by decide +kernel
theorem dL_law_581 : decode cL_law 581 = .ok (.ireturn, 1) := by decide +kernel
theorem dL_law_582 : decode cL_law 582 = .ok (.aload_n 1, 1) := by decide +kernel
theorem dL_law_583 : decode cL_law 583 = .ok (.aload_n 0, 1) := by decide +kernel
theorem dL_law_584 : decode cL_law 584 = .ok (.iload_n 3, 1) := by decide +kernel
theorem dL_law_585 : decode cL_law 585 = .ok (.iconst 1, 1) := by decide +kernel
theorem dL_law_586 : decode cL_law 586 = .ok (.iadd, 1) := by decide +kernel
theorem dL_law_587 : decode cL_law 587 = .ok (.iaload, 1) := by decide +kernel
theorem dL_law_588 : decode cL_law 588 = .ok (.invokevirtual 81, 3) := by decide +kernel
theorem dL_law_591 : decode cL_law 591 = .ok (.aload_n 2, 1) := by decide +kernel
theorem dL_law_592 : decode cL_law 592 = .ok (.aload_n 0, 1) := by decide +kernel
theorem dL_law_593 : decode cL_law 593 = .ok (.iload_n 3, 1) := by decide +kernel
theorem dL_law_594 : decode cL_law 594 = .ok (.iconst 1, 1) := by decide +kernel
theorem dL_law_595 : decode cL_law 595 = .ok (.iadd, 1) := by decide +kernel
theorem dL_law_596 : decode cL_law 596 = .ok (.iaload, 1) := by decide +kernel
theorem dL_law_597 : decode cL_law 597 = .ok (.invokevirtual 84, 3) := by decide +kernel
theorem dL_law_600 : decode cL_law 600 = .ok (.if_icmp .eq 301, 3) := by decide +kernel
theorem dL_law_603 : decode cL_law 603 = .ok (.iconst 0, 1) := by decide +kernel
theorem dL_law_604 : decode cL_law 604 = .ok (.ireturn, 1) := by decide +kernel
theorem dL_law_605 : decode cL_law 605 = .ok (.aload_n 1, 1) := by decide +kernel
theorem dL_law_606 : decode cL_law 606 = .ok (.aload_n 0, 1) := by decide +kernel
theorem dL_law_607 : decode cL_law 607 = .ok (.iload_n 3, 1) := by decide +kernel
theorem dL_law_608 : decode cL_law 608 = .ok (.iconst 1, 1) := by decide +kernel
theorem dL_law_609 : decode cL_law 609 = .ok (.iadd, 1) := by decide +kernel
theorem dL_law_610 : decode cL_law 610 = .ok (.iaload, 1) := by decide +kernel
theorem dL_law_611 : decode cL_law 611 = .ok (.aload_n 0, 1) := by decide +kernel
theorem dL_law_612 : decode cL_law 612 = .ok (.iload_n 3, 1) := by decide +kernel
theorem dL_law_613 : decode cL_law 613 = .ok (.iconst 2, 1) := by decide +kernel
theorem dL_law_614 : decode cL_law 614 = .ok (.iadd, 1) := by decide +kernel
theorem dL_law_615 : decode cL_law 615 = .ok (.iaload, 1) := by decide +kernel
theorem dL_law_616 : decode cL_law 616 = .ok (.invokevirtual 85, 3) := by decide +kernel
theorem dL_law_619 : decode cL_law 619 = .ok (.aload_n 2, 1) := by decide +kernel
theorem dL_law_620 : decode cL_law 620 = .ok (.aload_n 0, 1) := by decide +kernel
theorem dL_law_621 : decode cL_law 621 = .ok (.iload_n 3, 1) := by decide +kernel
theorem dL_law_622 : decode cL_law 622 = .ok (.iconst 1, 1) := by decide +kernel
theorem dL_law_623 : decode cL_law 623 = .ok (.iadd, 1) := by decide +kernel
theorem dL_law_624 : decode cL_law 624 = .ok (.iaload, 1) := by decide +kernel
theorem dL_law_625 : decode cL_law 625 = .ok (.aload_n 0, 1) := by decide +kernel
theorem dL_law_626 : decode cL_law 626 = .ok (.iload_n 3, 1) := by decide +kernel
theorem dL_law_627 : decode cL_law 627 = .ok (.iconst 2, 1) := by decide +kernel
theorem dL_law_628 : decode cL_law 628 = .ok (.iadd, 1) := by decide +kernel
theorem dL_law_629 : decode cL_law 629 = .ok (.iaload, 1) := by decide +kernel
theorem dL_law_630 : decode cL_law 630 = .ok (.invokevirtual 88, 3) := by decide +kernel
theorem dL_law_633 : decode cL_law 633 = .ok (.if_icmp .eq 268, 3) := by decide +kernel
theorem dL_law_636 : decode cL_law 636 = .ok (.iconst 0, 1) := by decide +kernel
theorem dL_law_637 : decode cL_law 637 = .ok (.ireturn, 1) := by decide +kernel
theorem dL_law_638 : decode cL_law 638 = .ok (.aload_n 1, 1) := by decide +kernel
theorem dL_law_639 : decode cL_law 639 = .ok (.invokevirtual 89, 3) := by decide +kernel
theorem dL_law_642 : decode cL_law 642 = .ok (.aload_n 2, 1) := by decide +kernel
theorem dL_law_643 : decode cL_law 643 = .ok (.invokevirtual 92, 3) := by decide +kernel
theorem dL_law_646 : decode cL_law 646 = .ok (.if_icmp .eq 255, 3) := by decide +kernel
theorem dL_law_649 : decode cL_law 649 = .ok (.iconst 0, 1) := by decide +kernel
theorem dL_law_650 : decode cL_law 650 = .ok (.ireturn, 1) := by decide +kernel
theorem dL_law_651 : decode cL_law 651 = .ok (.aload_n 1, 1) := by decide +kernel
theorem dL_law_652 : decode cL_law 652 = .ok (.aload_n 0, 1) := by decide +kernel
theorem dL_law_653 : decode cL_law 653 = .ok (.iload_n 3, 1) := by decide +kernel
theorem dL_law_654 : decode cL_law 654 = .ok (.iconst 1, 1) := by decide +kernel
theorem dL_law_655 : decode cL_law 655 = .ok (.iadd, 1) := by decide +kernel
theorem dL_law_656 : decode cL_law 656 = .ok (.iaload, 1) := by decide +kernel
theorem dL_law_657 : decode cL_law 657 = .ok (.aload_n 0, 1) := by decide +kernel
theorem dL_law_658 : decode cL_law 658 = .ok (.iload_n 3, 1) := by decide +kernel
theorem dL_law_659 : decode cL_law 659 = .ok (.iconst 2, 1) := by decide +kernel
theorem dL_law_660 : decode cL_law 660 = .ok (.iadd, 1) := by decide +kernel
theorem dL_law_661 : decode cL_law 661 = .ok (.iaload, 1) := by decide +kernel
theorem dL_law_662 : decode cL_law 662 = .ok (.invokevirtual 93, 3) := by decide +kernel
theorem dL_law_665 : decode cL_law 665 = .ok (.aload_n 2, 1) := by decide +kernel
theorem dL_law_666 : decode cL_law 666 = .ok (.aload_n 0, 1) := by decide +kernel
theorem dL_law_667 : decode cL_law 667 = .ok (.iload_n 3, 1) := by decide +kernel
theorem dL_law_668 : decode cL_law 668 = .ok (.iconst 1, 1) := by decide +kernel
theorem dL_law_669 : decode cL_law 669 = .ok (.iadd, 1) := by decide +kernel
theorem dL_law_670 : decode cL_law 670 = .ok (.iaload, 1) := by decide +kernel
theorem dL_law_671 : decode cL_law 671 = .ok (.aload_n 0, 1) := by decide +kernel
theorem dL_law_672 : decode cL_law 672 = .ok (.iload_n 3, 1) := by decide +kernel
theorem dL_law_673 : decode cL_law 673 = .ok (.iconst 2, 1) := by decide +kernel
theorem dL_law_674 : decode cL_law 674 = .ok (.iadd, 1) := by decide +kernel
theorem dL_law_675 : decode cL_law 675 = .ok (.iaload, 1) := by decide +kernel
theorem dL_law_676 : decode cL_law 676 = .ok (.invokevirtual 96, 3) := by decide +kernel
theorem dL_law_679 : decode cL_law 679 = .ok (.if_icmp .eq 222, 3) := by decide +kernel
theorem dL_law_682 : decode cL_law 682 = .ok (.iconst 0, 1) := by decide +kernel
theorem dL_law_683 : decode cL_law 683 = .ok (.ireturn, 1) := by decide +kernel
theorem dL_law_684 : decode cL_law 684 = .ok (.aload_n 1, 1) := by decide +kernel
theorem dL_law_685 : decode cL_law 685 = .ok (.aload_n 0, 1) := by decide +kernel
theorem dL_law_686 : decode cL_law 686 = .ok (.iload_n 3, 1) := by decide +kernel
theorem dL_law_687 : decode cL_law 687 = .ok (.iconst 1, 1) := by decide +kernel
theorem dL_law_688 : decode cL_law 688 = .ok (.iadd, 1) := by decide +kernel
theorem dL_law_689 : decode cL_law 689 = .ok (.iaload, 1) := by decide +kernel
theorem dL_law_690 : decode cL_law 690 = .ok (.aload_n 0, 1) := by decide +kernel
theorem dL_law_691 : decode cL_law 691 = .ok (.iload_n 3, 1) := by decide +kernel
theorem dL_law_692 : decode cL_law 692 = .ok (.iconst 2, 1) := by decide +kernel
theorem dL_law_693 : decode cL_law 693 = .ok (.iadd, 1) := by decide +kernel
theorem dL_law_694 : decode cL_law 694 = .ok (.iaload, 1) := by decide +kernel
theorem dL_law_695 : decode cL_law 695 = .ok (.aload_n 0, 1) := by decide +kernel
theorem dL_law_696 : decode cL_law 696 = .ok (.iload_n 3, 1) := by decide +kernel
theorem dL_law_697 : decode cL_law 697 = .ok (.iconst 3, 1) := by decide +kernel
theorem dL_law_698 : decode cL_law 698 = .ok (.iadd, 1) := by decide +kernel
theorem dL_law_699 : decode cL_law 699 = .ok (.iaload, 1) := by decide +kernel
theorem dL_law_700 : decode cL_law 700 = .ok (.aload_n 0, 1) := by decide +kernel
theorem dL_law_701 : decode cL_law 701 = .ok (.iload_n 3, 1) := by decide +kernel
theorem dL_law_702 : decode cL_law 702 = .ok (.iconst 4, 1) := by decide +kernel
theorem dL_law_703 : decode cL_law 703 = .ok (.iadd, 1) := by decide +kernel
theorem dL_law_704 : decode cL_law 704 = .ok (.iaload, 1) := by decide +kernel
theorem dL_law_705 : decode cL_law 705 = .ok (.invokevirtual 97, 3) := by decide +kernel
theorem dL_law_708 : decode cL_law 708 = .ok (.aload_n 2, 1) := by decide +kernel
theorem dL_law_709 : decode cL_law 709 = .ok (.aload_n 0, 1) := by decide +kernel
theorem dL_law_710 : decode cL_law 710 = .ok (.iload_n 3, 1) := by decide +kernel
theorem dL_law_711 : decode cL_law 711 = .ok (.iconst 1, 1) := by decide +kernel
theorem dL_law_712 : decode cL_law 712 = .ok (.iadd, 1) := by decide +kernel
theorem dL_law_713 : decode cL_law 713 = .ok (.iaload, 1) := by decide +kernel
theorem dL_law_714 : decode cL_law 714 = .ok (.aload_n 0, 1) := by decide +kernel
theorem dL_law_715 : decode cL_law 715 = .ok (.iload_n 3, 1) := by decide +kernel
theorem dL_law_716 : decode cL_law 716 = .ok (.iconst 2, 1) := by decide +kernel
theorem dL_law_717 : decode cL_law 717 = .ok (.iadd, 1) := by decide +kernel
theorem dL_law_718 : decode cL_law 718 = .ok (.iaload, 1) := by decide +kernel
theorem dL_law_719 : decode cL_law 719 = .ok (.aload_n 0, 1) := by decide +kernel
theorem dL_law_720 : decode cL_law 720 = .ok (.iload_n 3, 1) := by decide +kernel
theorem dL_law_721 : decode cL_law 721 = .ok (.iconst 3, 1) := by decide +kernel
theorem dL_law_722 : decode cL_law 722 = .ok (.iadd, 1) := by decide +kernel
theorem dL_law_723 : decode cL_law 723 = .ok (.iaload, 1) := by decide +kernel
theorem dL_law_724 : decode cL_law 724 = .ok (.aload_n 0, 1) := by decide +kernel
theorem dL_law_725 : decode cL_law 725 = .ok (.iload_n 3, 1) := by decide +kernel
theorem dL_law_726 : decode cL_law 726 = .ok (.iconst 4, 1) := by decide +kernel
theorem dL_law_727 : decode cL_law 727 = .ok (.iadd, 1) := by decide +kernel
theorem dL_law_728 : decode cL_law 728 = .ok (.iaload, 1) := by decide +kernel
theorem dL_law_729 : decode cL_law 729 = .ok (.invokevirtual 101, 3) := by decide +kernel
theorem dL_law_732 : decode cL_law 732 = .ok (.if_icmp .eq 169, 3) := by decide +kernel
theorem dL_law_735 : decode cL_law 735 = .ok (.iconst 0, 1) := by decide +kernel
theorem dL_law_736 : decode cL_law 736 = .ok (.ireturn, 1) := by decide +kernel
theorem dL_law_737 : decode cL_law 737 = .ok (.aload_n 1, 1) := by decide +kernel
theorem dL_law_738 : decode cL_law 738 = .ok (.aload_n 0, 1) := by decide +kernel
theorem dL_law_739 : decode cL_law 739 = .ok (.iload_n 3, 1) := by decide +kernel
theorem dL_law_740 : decode cL_law 740 = .ok (.iconst 1, 1) := by decide +kernel
theorem dL_law_741 : decode cL_law 741 = .ok (.iadd, 1) := by decide +kernel
theorem dL_law_742 : decode cL_law 742 = .ok (.iaload, 1) := by decide +kernel
theorem dL_law_743 : decode cL_law 743 = .ok (.invokevirtual 102, 3) := by decide +kernel
theorem dL_law_746 : decode cL_law 746 = .ok (.aload_n 2, 1) := by decide +kernel
theorem dL_law_747 : decode cL_law 747 = .ok (.aload_n 0, 1) := by decide +kernel
theorem dL_law_748 : decode cL_law 748 = .ok (.iload_n 3, 1) := by decide +kernel
theorem dL_law_749 : decode cL_law 749 = .ok (.iconst 1, 1) := by decide +kernel
theorem dL_law_750 : decode cL_law 750 = .ok (.iadd, 1) := by decide +kernel
theorem dL_law_751 : decode cL_law 751 = .ok (.iaload, 1) := by decide +kernel
theorem dL_law_752 : decode cL_law 752 = .ok (.invokevirtual 105, 3) := by decide +kernel
theorem dL_law_755 : decode cL_law 755 = .ok (.if_icmp .eq 146, 3) := by decide +kernel
theorem dL_law_758 : decode cL_law 758 = .ok (.iconst 0, 1) := by decide +kernel
theorem dL_law_759 : decode cL_law 759 = .ok (.ireturn, 1) := by decide +kernel
theorem dL_law_760 : decode cL_law 760 = .ok (.aload_n 1, 1) := by decide +kernel
theorem dL_law_761 : decode cL_law 761 = .ok (.invokevirtual 106, 3) := by decide +kernel
theorem dL_law_764 : decode cL_law 764 = .ok (.aload_n 2, 1) := by decide +kernel
theorem dL_law_765 : decode cL_law 765 = .ok (.invokevirtual 109, 3) := by decide +kernel
theorem dL_law_768 : decode cL_law 768 = .ok (.if_icmp .eq 133, 3) := by decide +kernel
theorem dL_law_771 : decode cL_law 771 = .ok (.iconst 0, 1) := by decide +kernel
theorem dL_law_772 : decode cL_law 772 = .ok (.ireturn, 1) := by decide +kernel
theorem dL_law_773 : decode cL_law 773 = .ok (.aload_n 1, 1) := by decide +kernel
theorem dL_law_774 : decode cL_law 774 = .ok (.aload_n 0, 1) := by decide +kernel
theorem dL_law_775 : decode cL_law 775 = .ok (.iload_n 3, 1) := by decide +kernel
theorem dL_law_776 : decode cL_law 776 = .ok (.iconst 1, 1) := by decide +kernel
theorem dL_law_777 : decode cL_law 777 = .ok (.iadd, 1) := by decide +kernel
theorem dL_law_778 : decode cL_law 778 = .ok (.iaload, 1) := by decide +kernel
theorem dL_law_779 : decode cL_law 779 = .ok (.invokevirtual 110, 3) := by decide +kernel
theorem dL_law_782 : decode cL_law 782 = .ok (.aload_n 2, 1) := by decide +kernel
theorem dL_law_783 : decode cL_law 783 = .ok (.aload_n 0, 1) := by decide +kernel
theorem dL_law_784 : decode cL_law 784 = .ok (.iload_n 3, 1) := by decide +kernel
theorem dL_law_785 : decode cL_law 785 = .ok (.iconst 1, 1) := by decide +kernel
theorem dL_law_786 : decode cL_law 786 = .ok (.iadd, 1) := by decide +kernel
theorem dL_law_787 : decode cL_law 787 = .ok (.iaload, 1) := by decide +kernel
theorem dL_law_788 : decode cL_law 788 = .ok (.invokevirtual 113, 3) := by decide +kernel
theorem dL_law_791 : decode cL_law 791 = .ok (.if_icmp .eq 110, 3) := by decide +kernel
theorem dL_law_794 : decode cL_law 794 = .ok (.iconst 0, 1) := by decide +kernel
theorem dL_law_795 : decode cL_law 795 = .ok (.ireturn, 1) := by decide +kernel
theorem dL_law_796 : decode cL_law 796 = .ok (.aload_n 1, 1) := by decide +kernel
theorem dL_law_797 : decode cL_law 797 = .ok (.invokevirtual 114, 3) := by decide +kernel
theorem dL_law_800 : decode cL_law 800 = .ok (.aload_n 2, 1) := by decide +kernel
theorem dL_law_801 : decode cL_law 801 = .ok (.invokevirtual 117, 3) := by decide +kernel
theorem dL_law_804 : decode cL_law 804 = .ok (.if_icmp .eq 97, 3) := by decide +kernel
theorem dL_law_807 : decode cL_law 807 = .ok (.iconst 0, 1) := by decide +kernel
theorem dL_law_808 : decode cL_law 808 = .ok (.ireturn, 1) := by decide +kernel
theorem dL_law_809 : decode cL_law 809 = .ok (.aload_n 1, 1) := by decide +kernel
theorem dL_law_810 : decode cL_law 810 = .ok (.aload_n 0, 1) := by decide +kernel
theorem dL_law_811 : decode cL_law 811 = .ok (.iload_n 3, 1) := by decide +kernel
theorem dL_law_812 : decode cL_law 812 = .ok (.iconst 1, 1) := by decide +kernel
theorem dL_law_813 : decode cL_law 813 = .ok (.iadd, 1) := by decide +kernel
theorem dL_law_814 : decode cL_law 814 = .ok (.iaload, 1) := by decide +kernel
theorem dL_law_815 : decode cL_law 815 = .ok (.invokevirtual 118, 3) := by decide +kernel
theorem dL_law_818 : decode cL_law 818 = .ok (.aload_n 2, 1) := by decide +kernel
theorem dL_law_819 : decode cL_law 819 = .ok (.aload_n 0, 1) := by decide +kernel
theorem dL_law_820 : decode cL_law 820 = .ok (.iload_n 3, 1) := by decide +kernel
theorem dL_law_821 : decode cL_law 821 = .ok (.iconst 1, 1) := by decide +kernel
theorem dL_law_822 : decode cL_law 822 = .ok (.iadd, 1) := by decide +kernel
theorem dL_law_823 : decode cL_law 823 = .ok (.iaload, 1) := by decide +kernel
theorem dL_law_824 : decode cL_law 824 = .ok (.invokevirtual 121, 3) := by decide +kernel
theorem dL_law_827 : decode cL_law 827 = .ok (.if_icmp .eq 74, 3) := by decide +kernel
theorem dL_law_830 : decode cL_law 830 = .ok (.iconst 0, 1) := by decide +kernel
theorem dL_law_831 : decode cL_law 831 = .ok (.ireturn, 1) := by decide +kernel
theorem dL_law_832 : decode cL_law 832 = .ok (.aload_n 1, 1) := by decide +kernel
theorem dL_law_833 : decode cL_law 833 = .ok (.aload_n 0, 1) := by decide +kernel
theorem dL_law_834 : decode cL_law 834 = .ok (.iload_n 3, 1) := by decide +kernel
theorem dL_law_835 : decode cL_law 835 = .ok (.iconst 1, 1) := by decide +kernel
theorem dL_law_836 : decode cL_law 836 = .ok (.iadd, 1) := by decide +kernel
theorem dL_law_837 : decode cL_law 837 = .ok (.iaload, 1) := by decide +kernel
theorem dL_law_838 : decode cL_law 838 = .ok (.invokevirtual 122, 3) := by decide +kernel
theorem dL_law_841 : decode cL_law 841 = .ok (.aload_n 2, 1) := by decide +kernel
theorem dL_law_842 : decode cL_law 842 = .ok (.aload_n 0, 1) := by decide +kernel
theorem dL_law_843 : decode cL_law 843 = .ok (.iload_n 3, 1) := by decide +kernel
theorem dL_law_844 : decode cL_law 844 = .ok (.iconst 1, 1) := by decide +kernel
theorem dL_law_845 : decode cL_law 845 = .ok (.iadd, 1) := by decide +kernel
theorem dL_law_846 : decode cL_law 846 = .ok (.iaload, 1) := by decide +kernel
theorem dL_law_847 : decode cL_law 847 = .ok (.invokevirtual 125, 3) := by decide +kernel
theorem dL_law_850 : decode cL_law 850 = .ok (.if_icmp .eq 51, 3) := by decide +kernel
theorem dL_law_853 : decode cL_law 853 = .ok (.iconst 0, 1) := by decide +kernel
theorem dL_law_854 : decode cL_law 854 = .ok (.ireturn, 1) := by decide +kernel
theorem dL_law_855 : decode cL_law 855 = .ok (.aload_n 1, 1) := by decide +kernel
theorem dL_law_856 : decode cL_law 856 = .ok (.aload_n 0, 1) := by decide +kernel
theorem dL_law_857 : decode cL_law 857 = .ok (.iload_n 3, 1) := by decide +kernel
theorem dL_law_858 : decode cL_law 858 = .ok (.iconst 1, 1) := by decide +kernel
theorem dL_law_859 : decode cL_law 859 = .ok (.iadd, 1) := by decide +kernel
theorem dL_law_860 : decode cL_law 860 = .ok (.iaload, 1) := by decide +kernel
theorem dL_law_861 : decode cL_law 861 = .ok (.invokevirtual 126, 3) := by decide +kernel
theorem dL_law_864 : decode cL_law 864 = .ok (.aload_n 2, 1) := by decide +kernel
theorem dL_law_865 : decode cL_law 865 = .ok (.aload_n 0, 1) := by decide +kernel
theorem dL_law_866 : decode cL_law 866 = .ok (.iload_n 3, 1) := by decide +kernel
theorem dL_law_867 : decode cL_law 867 = .ok (.iconst 1, 1) := by decide +kernel
theorem dL_law_868 : decode cL_law 868 = .ok (.iadd, 1) := by decide +kernel
theorem dL_law_869 : decode cL_law 869 = .ok (.iaload, 1) := by decide +kernel
theorem dL_law_870 : decode cL_law 870 = .ok (.invokevirtual 129, 3) := by decide +kernel
theorem dL_law_873 : decode cL_law 873 = .ok (.if_icmp .eq 28, 3) := by decide +kernel
theorem dL_law_876 : decode cL_law 876 = .ok (.iconst 0, 1) := by decide +kernel
theorem dL_law_877 : decode cL_law 877 = .ok (.ireturn, 1) := by decide +kernel
theorem dL_law_878 : decode cL_law 878 = .ok (.aload_n 1, 1) := by decide +kernel
theorem dL_law_879 : decode cL_law 879 = .ok (.aload_n 0, 1) := by decide +kernel
theorem dL_law_880 : decode cL_law 880 = .ok (.iload_n 3, 1) := by decide +kernel
theorem dL_law_881 : decode cL_law 881 = .ok (.iconst 1, 1) := by decide +kernel
theorem dL_law_882 : decode cL_law 882 = .ok (.iadd, 1) := by decide +kernel
theorem dL_law_883 : decode cL_law 883 = .ok (.iaload, 1) := by decide +kernel
theorem dL_law_884 : decode cL_law 884 = .ok (.invokevirtual 130, 3) := by decide +kernel
theorem dL_law_887 : decode cL_law 887 = .ok (.aload_n 2, 1) := by decide +kernel
theorem dL_law_888 : decode cL_law 888 = .ok (.aload_n 0, 1) := by decide +kernel
theorem dL_law_889 : decode cL_law 889 = .ok (.iload_n 3, 1) := by decide +kernel
theorem dL_law_890 : decode cL_law 890 = .ok (.iconst 1, 1) := by decide +kernel
theorem dL_law_891 : decode cL_law 891 = .ok (.iadd, 1) := by decide +kernel
theorem dL_law_892 : decode cL_law 892 = .ok (.iaload, 1) := by decide +kernel
theorem dL_law_893 : decode cL_law 893 = .ok (.invokevirtual 133, 3) := by decide +kernel
theorem dL_law_896 : decode cL_law 896 = .ok (.if_icmp .eq 5, 3) := by decide +kernel
theorem dL_law_899 : decode cL_law 899 = .ok (.iconst 0, 1) := by decide +kernel
theorem dL_law_900 : decode cL_law 900 = .ok (.ireturn, 1) := by decide +kernel
theorem dL_law_901 : decode cL_law 901 = .ok (.iinc 3 5, 3) := by decide +kernel
theorem dL_law_904 : decode cL_law 904 = .ok (.goto (-886), 3) := by decide +kernel
theorem dL_law_907 : decode cL_law 907 = .ok (.iconst 1, 1) := by decide +kernel
theorem dL_law_908 : decode cL_law 908 = .ok (.ireturn, 1) := by decide +kernel
end
